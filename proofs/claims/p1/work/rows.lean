section
-- ===== PART A: goes FIRST, ahead of the names: the tables' words, and 'selects' of the private methods out of them =====
/-- a private method of a class that the tables say can be made, by its rows of tables_1 -/
def lw_okq (q : MethodName × Nat) : Prop := (q.1.cls ≠ "java/lang/invoke/MethodHandle" ∧ q.1.cls ≠ "java/lang/invoke/VarHandle") ∧ Cond.instantiable q.1.cls q.2 ∈ tables_1 ∧ Cond.privateMethod q.1 ∈ tables_1 ∧ Cond.instanceMethod q.1 ∈ tables_1
theorem lw_p0 : lw_okq (⟨"java/lang/Throwable", "fillInStackTrace", "(I)Ljava/lang/Throwable;"⟩, 6) := ⟨⟨by decide +kernel, by decide +kernel⟩, List.mem_of_getElem? (i := 320) (by decide +kernel), List.mem_of_getElem? (i := 318) (by decide +kernel), List.mem_of_getElem? (i := 319) (by decide +kernel)⟩
theorem lw_p1 : lw_okq (⟨"UnibusMachine$Processor", "readWord", "(II)I"⟩, 9) := ⟨⟨by decide +kernel, by decide +kernel⟩, List.mem_of_getElem? (i := 205) (by decide +kernel), List.mem_of_getElem? (i := 414) (by decide +kernel), List.mem_of_getElem? (i := 415) (by decide +kernel)⟩
theorem lw_p2 : lw_okq (⟨"UnibusMachine$Processor", "stop", "(I)V"⟩, 9) := ⟨⟨by decide +kernel, by decide +kernel⟩, List.mem_of_getElem? (i := 205) (by decide +kernel), List.mem_of_getElem? (i := 418) (by decide +kernel), List.mem_of_getElem? (i := 419) (by decide +kernel)⟩
theorem lw_p3 : lw_okq (⟨"UnibusMachine$Processor", "place", "(IIZ)I"⟩, 9) := ⟨⟨by decide +kernel, by decide +kernel⟩, List.mem_of_getElem? (i := 205) (by decide +kernel), List.mem_of_getElem? (i := 436) (by decide +kernel), List.mem_of_getElem? (i := 437) (by decide +kernel)⟩
theorem lw_p4 : lw_okq (⟨"UnibusMachine$Processor", "execute", "(I)V"⟩, 9) := ⟨⟨by decide +kernel, by decide +kernel⟩, List.mem_of_getElem? (i := 205) (by decide +kernel), List.mem_of_getElem? (i := 460) (by decide +kernel), List.mem_of_getElem? (i := 461) (by decide +kernel)⟩
theorem lw_p5 : lw_okq (⟨"UnibusMachine$Processor", "doubleOperand", "(I)V"⟩, 9) := ⟨⟨by decide +kernel, by decide +kernel⟩, List.mem_of_getElem? (i := 205) (by decide +kernel), List.mem_of_getElem? (i := 464) (by decide +kernel), List.mem_of_getElem? (i := 465) (by decide +kernel)⟩
theorem lw_p6 : lw_okq (⟨"UnibusMachine$Processor", "find", "(IZ)I"⟩, 9) := ⟨⟨by decide +kernel, by decide +kernel⟩, List.mem_of_getElem? (i := 205) (by decide +kernel), List.mem_of_getElem? (i := 469) (by decide +kernel), List.mem_of_getElem? (i := 470) (by decide +kernel)⟩
theorem lw_p7 : lw_okq (⟨"UnibusMachine$Processor", "grow", "(II)I"⟩, 9) := ⟨⟨by decide +kernel, by decide +kernel⟩, List.mem_of_getElem? (i := 205) (by decide +kernel), List.mem_of_getElem? (i := 474) (by decide +kernel), List.mem_of_getElem? (i := 475) (by decide +kernel)⟩
theorem lw_p8 : lw_okq (⟨"UnibusMachine$Processor", "fall", "(II)I"⟩, 9) := ⟨⟨by decide +kernel, by decide +kernel⟩, List.mem_of_getElem? (i := 205) (by decide +kernel), List.mem_of_getElem? (i := 478) (by decide +kernel), List.mem_of_getElem? (i := 479) (by decide +kernel)⟩
theorem lw_p9 : lw_okq (⟨"UnibusMachine$Processor", "contents", "(IZ)I"⟩, 9) := ⟨⟨by decide +kernel, by decide +kernel⟩, List.mem_of_getElem? (i := 205) (by decide +kernel), List.mem_of_getElem? (i := 482) (by decide +kernel), List.mem_of_getElem? (i := 483) (by decide +kernel)⟩
theorem lw_p10 : lw_okq (⟨"UnibusMachine$Processor", "readByte", "(I)I"⟩, 9) := ⟨⟨by decide +kernel, by decide +kernel⟩, List.mem_of_getElem? (i := 205) (by decide +kernel), List.mem_of_getElem? (i := 486) (by decide +kernel), List.mem_of_getElem? (i := 487) (by decide +kernel)⟩
theorem lw_p11 : lw_okq (⟨"UnibusMachine$Processor", "put", "(IIZ)V"⟩, 9) := ⟨⟨by decide +kernel, by decide +kernel⟩, List.mem_of_getElem? (i := 205) (by decide +kernel), List.mem_of_getElem? (i := 495) (by decide +kernel), List.mem_of_getElem? (i := 496) (by decide +kernel)⟩
theorem lw_p12 : lw_okq (⟨"UnibusMachine$Processor", "writeByte", "(II)V"⟩, 9) := ⟨⟨by decide +kernel, by decide +kernel⟩, List.mem_of_getElem? (i := 205) (by decide +kernel), List.mem_of_getElem? (i := 499) (by decide +kernel), List.mem_of_getElem? (i := 500) (by decide +kernel)⟩
theorem lw_p13 : lw_okq (⟨"UnibusMachine$Processor", "writeWord", "(III)V"⟩, 9) := ⟨⟨by decide +kernel, by decide +kernel⟩, List.mem_of_getElem? (i := 205) (by decide +kernel), List.mem_of_getElem? (i := 523) (by decide +kernel), List.mem_of_getElem? (i := 524) (by decide +kernel)⟩
theorem lw_p14 : lw_okq (⟨"UnibusMachine$Processor", "mark", "(IIZI)V"⟩, 9) := ⟨⟨by decide +kernel, by decide +kernel⟩, List.mem_of_getElem? (i := 205) (by decide +kernel), List.mem_of_getElem? (i := 533) (by decide +kernel), List.mem_of_getElem? (i := 534) (by decide +kernel)⟩
theorem lw_p15 : lw_okq (⟨"UnibusMachine$Processor", "branch", "(I)V"⟩, 9) := ⟨⟨by decide +kernel, by decide +kernel⟩, List.mem_of_getElem? (i := 205) (by decide +kernel), List.mem_of_getElem? (i := 537) (by decide +kernel), List.mem_of_getElem? (i := 538) (by decide +kernel)⟩
def lw_privs_1 : List (MethodName × Nat) := [(⟨"java/lang/Throwable", "fillInStackTrace", "(I)Ljava/lang/Throwable;"⟩, 6), (⟨"UnibusMachine$Processor", "readWord", "(II)I"⟩, 9), (⟨"UnibusMachine$Processor", "stop", "(I)V"⟩, 9), (⟨"UnibusMachine$Processor", "place", "(IIZ)I"⟩, 9), (⟨"UnibusMachine$Processor", "execute", "(I)V"⟩, 9), (⟨"UnibusMachine$Processor", "doubleOperand", "(I)V"⟩, 9), (⟨"UnibusMachine$Processor", "find", "(IZ)I"⟩, 9), (⟨"UnibusMachine$Processor", "grow", "(II)I"⟩, 9), (⟨"UnibusMachine$Processor", "fall", "(II)I"⟩, 9), (⟨"UnibusMachine$Processor", "contents", "(IZ)I"⟩, 9), (⟨"UnibusMachine$Processor", "readByte", "(I)I"⟩, 9), (⟨"UnibusMachine$Processor", "put", "(IIZ)V"⟩, 9), (⟨"UnibusMachine$Processor", "writeByte", "(II)V"⟩, 9), (⟨"UnibusMachine$Processor", "writeWord", "(III)V"⟩, 9), (⟨"UnibusMachine$Processor", "mark", "(IIZI)V"⟩, 9), (⟨"UnibusMachine$Processor", "branch", "(I)V"⟩, 9)]
theorem lw_r1 : ∀ q ∈ lw_privs_1, lw_okq q := List.forall_mem_cons.mpr ⟨lw_p0, List.forall_mem_cons.mpr ⟨lw_p1, List.forall_mem_cons.mpr ⟨lw_p2, List.forall_mem_cons.mpr ⟨lw_p3, List.forall_mem_cons.mpr ⟨lw_p4, List.forall_mem_cons.mpr ⟨lw_p5, List.forall_mem_cons.mpr ⟨lw_p6, List.forall_mem_cons.mpr ⟨lw_p7, List.forall_mem_cons.mpr ⟨lw_p8, List.forall_mem_cons.mpr ⟨lw_p9, List.forall_mem_cons.mpr ⟨lw_p10, List.forall_mem_cons.mpr ⟨lw_p11, List.forall_mem_cons.mpr ⟨lw_p12, List.forall_mem_cons.mpr ⟨lw_p13, List.forall_mem_cons.mpr ⟨lw_p14, List.forall_mem_cons.mpr ⟨lw_p15, fun _ h => absurd h List.not_mem_nil⟩⟩⟩⟩⟩⟩⟩⟩⟩⟩⟩⟩⟩⟩⟩⟩
theorem lw_p16 : lw_okq (⟨"UnibusMachine$Processor", "branches", "(I)Z"⟩, 9) := ⟨⟨by decide +kernel, by decide +kernel⟩, List.mem_of_getElem? (i := 205) (by decide +kernel), List.mem_of_getElem? (i := 541) (by decide +kernel), List.mem_of_getElem? (i := 542) (by decide +kernel)⟩
theorem lw_p17 : lw_okq (⟨"UnibusMachine$Processor", "singleOperand", "(IIZ)V"⟩, 9) := ⟨⟨by decide +kernel, by decide +kernel⟩, List.mem_of_getElem? (i := 205) (by decide +kernel), List.mem_of_getElem? (i := 545) (by decide +kernel), List.mem_of_getElem? (i := 546) (by decide +kernel)⟩
theorem lw_p18 : lw_okq (⟨"UnibusMachine$Processor", "jumpToSubroutine", "(I)V"⟩, 9) := ⟨⟨by decide +kernel, by decide +kernel⟩, List.mem_of_getElem? (i := 205) (by decide +kernel), List.mem_of_getElem? (i := 558) (by decide +kernel), List.mem_of_getElem? (i := 559) (by decide +kernel)⟩
theorem lw_p19 : lw_okq (⟨"UnibusMachine$Processor", "push", "(I)V"⟩, 9) := ⟨⟨by decide +kernel, by decide +kernel⟩, List.mem_of_getElem? (i := 205) (by decide +kernel), List.mem_of_getElem? (i := 562) (by decide +kernel), List.mem_of_getElem? (i := 563) (by decide +kernel)⟩
theorem lw_p20 : lw_okq (⟨"UnibusMachine$Processor", "returnFromTrap", "()V"⟩, 9) := ⟨⟨by decide +kernel, by decide +kernel⟩, List.mem_of_getElem? (i := 205) (by decide +kernel), List.mem_of_getElem? (i := 566) (by decide +kernel), List.mem_of_getElem? (i := 567) (by decide +kernel)⟩
theorem lw_p21 : lw_okq (⟨"UnibusMachine$Processor", "pop", "()I"⟩, 9) := ⟨⟨by decide +kernel, by decide +kernel⟩, List.mem_of_getElem? (i := 205) (by decide +kernel), List.mem_of_getElem? (i := 570) (by decide +kernel), List.mem_of_getElem? (i := 571) (by decide +kernel)⟩
theorem lw_p22 : lw_okq (⟨"UnibusMachine$Processor", "withoutOperand", "(I)V"⟩, 9) := ⟨⟨by decide +kernel, by decide +kernel⟩, List.mem_of_getElem? (i := 205) (by decide +kernel), List.mem_of_getElem? (i := 575) (by decide +kernel), List.mem_of_getElem? (i := 576) (by decide +kernel)⟩
theorem lw_p23 : lw_okq (⟨"UnibusMachine$Processor", "jump", "(I)V"⟩, 9) := ⟨⟨by decide +kernel, by decide +kernel⟩, List.mem_of_getElem? (i := 205) (by decide +kernel), List.mem_of_getElem? (i := 593) (by decide +kernel), List.mem_of_getElem? (i := 594) (by decide +kernel)⟩
theorem lw_p24 : lw_okq (⟨"UnibusMachine$Processor", "returnOrFlags", "(I)V"⟩, 9) := ⟨⟨by decide +kernel, by decide +kernel⟩, List.mem_of_getElem? (i := 205) (by decide +kernel), List.mem_of_getElem? (i := 597) (by decide +kernel), List.mem_of_getElem? (i := 598) (by decide +kernel)⟩
theorem lw_p25 : lw_okq (⟨"UnibusMachine$Processor", "swapBytes", "(I)V"⟩, 9) := ⟨⟨by decide +kernel, by decide +kernel⟩, List.mem_of_getElem? (i := 205) (by decide +kernel), List.mem_of_getElem? (i := 601) (by decide +kernel), List.mem_of_getElem? (i := 602) (by decide +kernel)⟩
theorem lw_p26 : lw_okq (⟨"UnibusMachine$Processor", "moveFromBefore", "(I)V"⟩, 9) := ⟨⟨by decide +kernel, by decide +kernel⟩, List.mem_of_getElem? (i := 205) (by decide +kernel), List.mem_of_getElem? (i := 605) (by decide +kernel), List.mem_of_getElem? (i := 606) (by decide +kernel)⟩
theorem lw_p27 : lw_okq (⟨"UnibusMachine$Processor", "modeBefore", "()I"⟩, 9) := ⟨⟨by decide +kernel, by decide +kernel⟩, List.mem_of_getElem? (i := 205) (by decide +kernel), List.mem_of_getElem? (i := 609) (by decide +kernel), List.mem_of_getElem? (i := 610) (by decide +kernel)⟩
theorem lw_p28 : lw_okq (⟨"UnibusMachine$Processor", "isOtherStack", "(I)Z"⟩, 9) := ⟨⟨by decide +kernel, by decide +kernel⟩, List.mem_of_getElem? (i := 205) (by decide +kernel), List.mem_of_getElem? (i := 613) (by decide +kernel), List.mem_of_getElem? (i := 614) (by decide +kernel)⟩
theorem lw_p29 : lw_okq (⟨"UnibusMachine$Processor", "moveToBefore", "(I)V"⟩, 9) := ⟨⟨by decide +kernel, by decide +kernel⟩, List.mem_of_getElem? (i := 205) (by decide +kernel), List.mem_of_getElem? (i := 618) (by decide +kernel), List.mem_of_getElem? (i := 619) (by decide +kernel)⟩
theorem lw_p30 : lw_okq (⟨"UnibusMachine$Processor", "extendSign", "(I)V"⟩, 9) := ⟨⟨by decide +kernel, by decide +kernel⟩, List.mem_of_getElem? (i := 205) (by decide +kernel), List.mem_of_getElem? (i := 622) (by decide +kernel), List.mem_of_getElem? (i := 623) (by decide +kernel)⟩
theorem lw_p31 : lw_okq (⟨"UnibusMachine$Processor", "multiply", "(I)V"⟩, 9) := ⟨⟨by decide +kernel, by decide +kernel⟩, List.mem_of_getElem? (i := 205) (by decide +kernel), List.mem_of_getElem? (i := 626) (by decide +kernel), List.mem_of_getElem? (i := 627) (by decide +kernel)⟩
def lw_privs_2 : List (MethodName × Nat) := [(⟨"UnibusMachine$Processor", "branches", "(I)Z"⟩, 9), (⟨"UnibusMachine$Processor", "singleOperand", "(IIZ)V"⟩, 9), (⟨"UnibusMachine$Processor", "jumpToSubroutine", "(I)V"⟩, 9), (⟨"UnibusMachine$Processor", "push", "(I)V"⟩, 9), (⟨"UnibusMachine$Processor", "returnFromTrap", "()V"⟩, 9), (⟨"UnibusMachine$Processor", "pop", "()I"⟩, 9), (⟨"UnibusMachine$Processor", "withoutOperand", "(I)V"⟩, 9), (⟨"UnibusMachine$Processor", "jump", "(I)V"⟩, 9), (⟨"UnibusMachine$Processor", "returnOrFlags", "(I)V"⟩, 9), (⟨"UnibusMachine$Processor", "swapBytes", "(I)V"⟩, 9), (⟨"UnibusMachine$Processor", "moveFromBefore", "(I)V"⟩, 9), (⟨"UnibusMachine$Processor", "modeBefore", "()I"⟩, 9), (⟨"UnibusMachine$Processor", "isOtherStack", "(I)Z"⟩, 9), (⟨"UnibusMachine$Processor", "moveToBefore", "(I)V"⟩, 9), (⟨"UnibusMachine$Processor", "extendSign", "(I)V"⟩, 9), (⟨"UnibusMachine$Processor", "multiply", "(I)V"⟩, 9)]
theorem lw_r2 : ∀ q ∈ lw_privs_2, lw_okq q := List.forall_mem_cons.mpr ⟨lw_p16, List.forall_mem_cons.mpr ⟨lw_p17, List.forall_mem_cons.mpr ⟨lw_p18, List.forall_mem_cons.mpr ⟨lw_p19, List.forall_mem_cons.mpr ⟨lw_p20, List.forall_mem_cons.mpr ⟨lw_p21, List.forall_mem_cons.mpr ⟨lw_p22, List.forall_mem_cons.mpr ⟨lw_p23, List.forall_mem_cons.mpr ⟨lw_p24, List.forall_mem_cons.mpr ⟨lw_p25, List.forall_mem_cons.mpr ⟨lw_p26, List.forall_mem_cons.mpr ⟨lw_p27, List.forall_mem_cons.mpr ⟨lw_p28, List.forall_mem_cons.mpr ⟨lw_p29, List.forall_mem_cons.mpr ⟨lw_p30, List.forall_mem_cons.mpr ⟨lw_p31, fun _ h => absurd h List.not_mem_nil⟩⟩⟩⟩⟩⟩⟩⟩⟩⟩⟩⟩⟩⟩⟩⟩
theorem lw_p32 : lw_okq (⟨"UnibusMachine$Processor", "exclusiveOr", "(I)V"⟩, 9) := ⟨⟨by decide +kernel, by decide +kernel⟩, List.mem_of_getElem? (i := 205) (by decide +kernel), List.mem_of_getElem? (i := 633) (by decide +kernel), List.mem_of_getElem? (i := 634) (by decide +kernel)⟩
theorem lw_p33 : lw_okq (⟨"UnibusMachine$Processor", "countDown", "(I)V"⟩, 9) := ⟨⟨by decide +kernel, by decide +kernel⟩, List.mem_of_getElem? (i := 205) (by decide +kernel), List.mem_of_getElem? (i := 637) (by decide +kernel), List.mem_of_getElem? (i := 638) (by decide +kernel)⟩
theorem lw_p34 : lw_okq (⟨"UnibusMachine$Processor", "enter", "(I)V"⟩, 9) := ⟨⟨by decide +kernel, by decide +kernel⟩, List.mem_of_getElem? (i := 205) (by decide +kernel), List.mem_of_getElem? (i := 641) (by decide +kernel), List.mem_of_getElem? (i := 642) (by decide +kernel)⟩
theorem lw_p35 : lw_okq (⟨"UnibusMachine$Processor", "trap", "(I)V"⟩, 9) := ⟨⟨by decide +kernel, by decide +kernel⟩, List.mem_of_getElem? (i := 205) (by decide +kernel), List.mem_of_getElem? (i := 645) (by decide +kernel), List.mem_of_getElem? (i := 646) (by decide +kernel)⟩
theorem lw_p36 : lw_okq (⟨"UnibusMachine$Processor", "settle", "()V"⟩, 9) := ⟨⟨by decide +kernel, by decide +kernel⟩, List.mem_of_getElem? (i := 205) (by decide +kernel), List.mem_of_getElem? (i := 649) (by decide +kernel), List.mem_of_getElem? (i := 650) (by decide +kernel)⟩
theorem lw_p37 : lw_okq (⟨"UnibusMachine$Drive", "transfer", "([I)V"⟩, 10) := ⟨⟨by decide +kernel, by decide +kernel⟩, List.mem_of_getElem? (i := 136) (by decide +kernel), List.mem_of_getElem? (i := 665) (by decide +kernel), List.mem_of_getElem? (i := 666) (by decide +kernel)⟩
theorem lw_p38 : lw_okq (⟨"UnibusMachineModel", "fail", "(I)I"⟩, 28) := ⟨⟨by decide +kernel, by decide +kernel⟩, List.mem_of_getElem? (i := 726) (by decide +kernel), List.mem_of_getElem? (i := 837) (by decide +kernel), List.mem_of_getElem? (i := 838) (by decide +kernel)⟩
theorem lw_p39 : lw_okq (⟨"UnibusMachineModel", "settle", "()V"⟩, 28) := ⟨⟨by decide +kernel, by decide +kernel⟩, List.mem_of_getElem? (i := 726) (by decide +kernel), List.mem_of_getElem? (i := 856) (by decide +kernel), List.mem_of_getElem? (i := 857) (by decide +kernel)⟩
theorem lw_p40 : lw_okq (⟨"UnibusMachineModel", "step", "()V"⟩, 28) := ⟨⟨by decide +kernel, by decide +kernel⟩, List.mem_of_getElem? (i := 726) (by decide +kernel), List.mem_of_getElem? (i := 864) (by decide +kernel), List.mem_of_getElem? (i := 865) (by decide +kernel)⟩
theorem lw_p41 : lw_okq (⟨"UnibusMachineModel", "fetch", "()I"⟩, 28) := ⟨⟨by decide +kernel, by decide +kernel⟩, List.mem_of_getElem? (i := 726) (by decide +kernel), List.mem_of_getElem? (i := 868) (by decide +kernel), List.mem_of_getElem? (i := 869) (by decide +kernel)⟩
theorem lw_p42 : lw_okq (⟨"UnibusMachineModel", "wordAt", "(II)I"⟩, 28) := ⟨⟨by decide +kernel, by decide +kernel⟩, List.mem_of_getElem? (i := 726) (by decide +kernel), List.mem_of_getElem? (i := 872) (by decide +kernel), List.mem_of_getElem? (i := 873) (by decide +kernel)⟩
theorem lw_p43 : lw_okq (⟨"UnibusMachineModel", "mapped", "(IIZ)I"⟩, 28) := ⟨⟨by decide +kernel, by decide +kernel⟩, List.mem_of_getElem? (i := 726) (by decide +kernel), List.mem_of_getElem? (i := 876) (by decide +kernel), List.mem_of_getElem? (i := 877) (by decide +kernel)⟩
theorem lw_p44 : lw_okq (⟨"UnibusMachineModel", "read", "(I)I"⟩, 28) := ⟨⟨by decide +kernel, by decide +kernel⟩, List.mem_of_getElem? (i := 726) (by decide +kernel), List.mem_of_getElem? (i := 880) (by decide +kernel), List.mem_of_getElem? (i := 881) (by decide +kernel)⟩
theorem lw_p45 : lw_okq (⟨"UnibusMachineModel", "at", "(I)I"⟩, 28) := ⟨⟨by decide +kernel, by decide +kernel⟩, List.mem_of_getElem? (i := 726) (by decide +kernel), List.mem_of_getElem? (i := 884) (by decide +kernel), List.mem_of_getElem? (i := 885) (by decide +kernel)⟩
theorem lw_p46 : lw_okq (⟨"UnibusMachineModel", "statusOf", "(I)I"⟩, 28) := ⟨⟨by decide +kernel, by decide +kernel⟩, List.mem_of_getElem? (i := 726) (by decide +kernel), List.mem_of_getElem? (i := 889) (by decide +kernel), List.mem_of_getElem? (i := 890) (by decide +kernel)⟩
theorem lw_p47 : lw_okq (⟨"UnibusMachineModel", "put", "(II)V"⟩, 28) := ⟨⟨by decide +kernel, by decide +kernel⟩, List.mem_of_getElem? (i := 726) (by decide +kernel), List.mem_of_getElem? (i := 898) (by decide +kernel), List.mem_of_getElem? (i := 899) (by decide +kernel)⟩
def lw_privs_3 : List (MethodName × Nat) := [(⟨"UnibusMachine$Processor", "exclusiveOr", "(I)V"⟩, 9), (⟨"UnibusMachine$Processor", "countDown", "(I)V"⟩, 9), (⟨"UnibusMachine$Processor", "enter", "(I)V"⟩, 9), (⟨"UnibusMachine$Processor", "trap", "(I)V"⟩, 9), (⟨"UnibusMachine$Processor", "settle", "()V"⟩, 9), (⟨"UnibusMachine$Drive", "transfer", "([I)V"⟩, 10), (⟨"UnibusMachineModel", "fail", "(I)I"⟩, 28), (⟨"UnibusMachineModel", "settle", "()V"⟩, 28), (⟨"UnibusMachineModel", "step", "()V"⟩, 28), (⟨"UnibusMachineModel", "fetch", "()I"⟩, 28), (⟨"UnibusMachineModel", "wordAt", "(II)I"⟩, 28), (⟨"UnibusMachineModel", "mapped", "(IIZ)I"⟩, 28), (⟨"UnibusMachineModel", "read", "(I)I"⟩, 28), (⟨"UnibusMachineModel", "at", "(I)I"⟩, 28), (⟨"UnibusMachineModel", "statusOf", "(I)I"⟩, 28), (⟨"UnibusMachineModel", "put", "(II)V"⟩, 28)]
theorem lw_r3 : ∀ q ∈ lw_privs_3, lw_okq q := List.forall_mem_cons.mpr ⟨lw_p32, List.forall_mem_cons.mpr ⟨lw_p33, List.forall_mem_cons.mpr ⟨lw_p34, List.forall_mem_cons.mpr ⟨lw_p35, List.forall_mem_cons.mpr ⟨lw_p36, List.forall_mem_cons.mpr ⟨lw_p37, List.forall_mem_cons.mpr ⟨lw_p38, List.forall_mem_cons.mpr ⟨lw_p39, List.forall_mem_cons.mpr ⟨lw_p40, List.forall_mem_cons.mpr ⟨lw_p41, List.forall_mem_cons.mpr ⟨lw_p42, List.forall_mem_cons.mpr ⟨lw_p43, List.forall_mem_cons.mpr ⟨lw_p44, List.forall_mem_cons.mpr ⟨lw_p45, List.forall_mem_cons.mpr ⟨lw_p46, List.forall_mem_cons.mpr ⟨lw_p47, fun _ h => absurd h List.not_mem_nil⟩⟩⟩⟩⟩⟩⟩⟩⟩⟩⟩⟩⟩⟩⟩⟩
theorem lw_p48 : lw_okq (⟨"UnibusMachineModel", "rest", "(I)V"⟩, 28) := ⟨⟨by decide +kernel, by decide +kernel⟩, List.mem_of_getElem? (i := 726) (by decide +kernel), List.mem_of_getElem? (i := 903) (by decide +kernel), List.mem_of_getElem? (i := 904) (by decide +kernel)⟩
theorem lw_p49 : lw_okq (⟨"UnibusMachineModel", "branch", "(I)V"⟩, 28) := ⟨⟨by decide +kernel, by decide +kernel⟩, List.mem_of_getElem? (i := 726) (by decide +kernel), List.mem_of_getElem? (i := 907) (by decide +kernel), List.mem_of_getElem? (i := 908) (by decide +kernel)⟩
theorem lw_p50 : lw_okq (⟨"UnibusMachineModel", "isSet", "(I)Z"⟩, 28) := ⟨⟨by decide +kernel, by decide +kernel⟩, List.mem_of_getElem? (i := 726) (by decide +kernel), List.mem_of_getElem? (i := 911) (by decide +kernel), List.mem_of_getElem? (i := 912) (by decide +kernel)⟩
theorem lw_p51 : lw_okq (⟨"UnibusMachineModel", "one", "(IZ)V"⟩, 28) := ⟨⟨by decide +kernel, by decide +kernel⟩, List.mem_of_getElem? (i := 726) (by decide +kernel), List.mem_of_getElem? (i := 915) (by decide +kernel), List.mem_of_getElem? (i := 916) (by decide +kernel)⟩
theorem lw_p52 : lw_okq (⟨"UnibusMachineModel", "single", "(IIZ)V"⟩, 28) := ⟨⟨by decide +kernel, by decide +kernel⟩, List.mem_of_getElem? (i := 726) (by decide +kernel), List.mem_of_getElem? (i := 919) (by decide +kernel), List.mem_of_getElem? (i := 920) (by decide +kernel)⟩
theorem lw_p53 : lw_okq (⟨"UnibusMachineModel", "find", "(IZ)I"⟩, 28) := ⟨⟨by decide +kernel, by decide +kernel⟩, List.mem_of_getElem? (i := 726) (by decide +kernel), List.mem_of_getElem? (i := 923) (by decide +kernel), List.mem_of_getElem? (i := 924) (by decide +kernel)⟩
theorem lw_p54 : lw_okq (⟨"UnibusMachineModel", "value", "(IZ)I"⟩, 28) := ⟨⟨by decide +kernel, by decide +kernel⟩, List.mem_of_getElem? (i := 726) (by decide +kernel), List.mem_of_getElem? (i := 927) (by decide +kernel), List.mem_of_getElem? (i := 928) (by decide +kernel)⟩
theorem lw_p55 : lw_okq (⟨"UnibusMachineModel", "byteAt", "(II)I"⟩, 28) := ⟨⟨by decide +kernel, by decide +kernel⟩, List.mem_of_getElem? (i := 726) (by decide +kernel), List.mem_of_getElem? (i := 931) (by decide +kernel), List.mem_of_getElem? (i := 932) (by decide +kernel)⟩
theorem lw_p56 : lw_okq (⟨"UnibusMachineModel", "sum", "(IIIZ)I"⟩, 28) := ⟨⟨by decide +kernel, by decide +kernel⟩, List.mem_of_getElem? (i := 726) (by decide +kernel), List.mem_of_getElem? (i := 935) (by decide +kernel), List.mem_of_getElem? (i := 936) (by decide +kernel)⟩
theorem lw_p57 : lw_okq (⟨"UnibusMachineModel", "turned", "(IIII)I"⟩, 28) := ⟨⟨by decide +kernel, by decide +kernel⟩, List.mem_of_getElem? (i := 726) (by decide +kernel), List.mem_of_getElem? (i := 945) (by decide +kernel), List.mem_of_getElem? (i := 946) (by decide +kernel)⟩
theorem lw_p58 : lw_okq (⟨"UnibusMachineModel", "keep", "(IZI)V"⟩, 28) := ⟨⟨by decide +kernel, by decide +kernel⟩, List.mem_of_getElem? (i := 726) (by decide +kernel), List.mem_of_getElem? (i := 949) (by decide +kernel), List.mem_of_getElem? (i := 950) (by decide +kernel)⟩
theorem lw_p59 : lw_okq (⟨"UnibusMachineModel", "setByte", "(III)V"⟩, 28) := ⟨⟨by decide +kernel, by decide +kernel⟩, List.mem_of_getElem? (i := 726) (by decide +kernel), List.mem_of_getElem? (i := 953) (by decide +kernel), List.mem_of_getElem? (i := 954) (by decide +kernel)⟩
theorem lw_p60 : lw_okq (⟨"UnibusMachineModel", "write", "(II)V"⟩, 28) := ⟨⟨by decide +kernel, by decide +kernel⟩, List.mem_of_getElem? (i := 726) (by decide +kernel), List.mem_of_getElem? (i := 957) (by decide +kernel), List.mem_of_getElem? (i := 958) (by decide +kernel)⟩
theorem lw_p61 : lw_okq (⟨"UnibusMachineModel", "print", "(I)V"⟩, 28) := ⟨⟨by decide +kernel, by decide +kernel⟩, List.mem_of_getElem? (i := 726) (by decide +kernel), List.mem_of_getElem? (i := 962) (by decide +kernel), List.mem_of_getElem? (i := 963) (by decide +kernel)⟩
theorem lw_p62 : lw_okq (⟨"UnibusMachineModel", "order", "(I)V"⟩, 28) := ⟨⟨by decide +kernel, by decide +kernel⟩, List.mem_of_getElem? (i := 726) (by decide +kernel), List.mem_of_getElem? (i := 966) (by decide +kernel), List.mem_of_getElem? (i := 967) (by decide +kernel)⟩
theorem lw_p63 : lw_okq (⟨"UnibusMachineModel", "setWord", "(III)V"⟩, 28) := ⟨⟨by decide +kernel, by decide +kernel⟩, List.mem_of_getElem? (i := 726) (by decide +kernel), List.mem_of_getElem? (i := 970) (by decide +kernel), List.mem_of_getElem? (i := 971) (by decide +kernel)⟩
def lw_privs_4 : List (MethodName × Nat) := [(⟨"UnibusMachineModel", "rest", "(I)V"⟩, 28), (⟨"UnibusMachineModel", "branch", "(I)V"⟩, 28), (⟨"UnibusMachineModel", "isSet", "(I)Z"⟩, 28), (⟨"UnibusMachineModel", "one", "(IZ)V"⟩, 28), (⟨"UnibusMachineModel", "single", "(IIZ)V"⟩, 28), (⟨"UnibusMachineModel", "find", "(IZ)I"⟩, 28), (⟨"UnibusMachineModel", "value", "(IZ)I"⟩, 28), (⟨"UnibusMachineModel", "byteAt", "(II)I"⟩, 28), (⟨"UnibusMachineModel", "sum", "(IIIZ)I"⟩, 28), (⟨"UnibusMachineModel", "turned", "(IIII)I"⟩, 28), (⟨"UnibusMachineModel", "keep", "(IZI)V"⟩, 28), (⟨"UnibusMachineModel", "setByte", "(III)V"⟩, 28), (⟨"UnibusMachineModel", "write", "(II)V"⟩, 28), (⟨"UnibusMachineModel", "print", "(I)V"⟩, 28), (⟨"UnibusMachineModel", "order", "(I)V"⟩, 28), (⟨"UnibusMachineModel", "setWord", "(III)V"⟩, 28)]
theorem lw_r4 : ∀ q ∈ lw_privs_4, lw_okq q := List.forall_mem_cons.mpr ⟨lw_p48, List.forall_mem_cons.mpr ⟨lw_p49, List.forall_mem_cons.mpr ⟨lw_p50, List.forall_mem_cons.mpr ⟨lw_p51, List.forall_mem_cons.mpr ⟨lw_p52, List.forall_mem_cons.mpr ⟨lw_p53, List.forall_mem_cons.mpr ⟨lw_p54, List.forall_mem_cons.mpr ⟨lw_p55, List.forall_mem_cons.mpr ⟨lw_p56, List.forall_mem_cons.mpr ⟨lw_p57, List.forall_mem_cons.mpr ⟨lw_p58, List.forall_mem_cons.mpr ⟨lw_p59, List.forall_mem_cons.mpr ⟨lw_p60, List.forall_mem_cons.mpr ⟨lw_p61, List.forall_mem_cons.mpr ⟨lw_p62, List.forall_mem_cons.mpr ⟨lw_p63, fun _ h => absurd h List.not_mem_nil⟩⟩⟩⟩⟩⟩⟩⟩⟩⟩⟩⟩⟩⟩⟩⟩
theorem lw_p64 : lw_okq (⟨"UnibusMachineModel", "show", "(IZ)V"⟩, 28) := ⟨⟨by decide +kernel, by decide +kernel⟩, List.mem_of_getElem? (i := 726) (by decide +kernel), List.mem_of_getElem? (i := 974) (by decide +kernel), List.mem_of_getElem? (i := 975) (by decide +kernel)⟩
theorem lw_p65 : lw_okq (⟨"UnibusMachineModel", "setFlags", "(ZZZZ)V"⟩, 28) := ⟨⟨by decide +kernel, by decide +kernel⟩, List.mem_of_getElem? (i := 726) (by decide +kernel), List.mem_of_getElem? (i := 978) (by decide +kernel), List.mem_of_getElem? (i := 979) (by decide +kernel)⟩
theorem lw_p66 : lw_okq (⟨"UnibusMachineModel", "fromBefore", "(I)V"⟩, 28) := ⟨⟨by decide +kernel, by decide +kernel⟩, List.mem_of_getElem? (i := 726) (by decide +kernel), List.mem_of_getElem? (i := 982) (by decide +kernel), List.mem_of_getElem? (i := 983) (by decide +kernel)⟩
theorem lw_p67 : lw_okq (⟨"UnibusMachineModel", "push", "(I)V"⟩, 28) := ⟨⟨by decide +kernel, by decide +kernel⟩, List.mem_of_getElem? (i := 726) (by decide +kernel), List.mem_of_getElem? (i := 986) (by decide +kernel), List.mem_of_getElem? (i := 987) (by decide +kernel)⟩
theorem lw_p68 : lw_okq (⟨"UnibusMachineModel", "toBefore", "(I)V"⟩, 28) := ⟨⟨by decide +kernel, by decide +kernel⟩, List.mem_of_getElem? (i := 726) (by decide +kernel), List.mem_of_getElem? (i := 990) (by decide +kernel), List.mem_of_getElem? (i := 991) (by decide +kernel)⟩
theorem lw_p69 : lw_okq (⟨"UnibusMachineModel", "pop", "()I"⟩, 28) := ⟨⟨by decide +kernel, by decide +kernel⟩, List.mem_of_getElem? (i := 726) (by decide +kernel), List.mem_of_getElem? (i := 994) (by decide +kernel), List.mem_of_getElem? (i := 995) (by decide +kernel)⟩
theorem lw_p70 : lw_okq (⟨"UnibusMachineModel", "signs", "(I)V"⟩, 28) := ⟨⟨by decide +kernel, by decide +kernel⟩, List.mem_of_getElem? (i := 726) (by decide +kernel), List.mem_of_getElem? (i := 998) (by decide +kernel), List.mem_of_getElem? (i := 999) (by decide +kernel)⟩
theorem lw_p71 : lw_okq (⟨"UnibusMachineModel", "call", "(I)V"⟩, 28) := ⟨⟨by decide +kernel, by decide +kernel⟩, List.mem_of_getElem? (i := 726) (by decide +kernel), List.mem_of_getElem? (i := 1002) (by decide +kernel), List.mem_of_getElem? (i := 1003) (by decide +kernel)⟩
theorem lw_p72 : lw_okq (⟨"UnibusMachineModel", "small", "(I)V"⟩, 28) := ⟨⟨by decide +kernel, by decide +kernel⟩, List.mem_of_getElem? (i := 726) (by decide +kernel), List.mem_of_getElem? (i := 1006) (by decide +kernel), List.mem_of_getElem? (i := 1007) (by decide +kernel)⟩
theorem lw_p73 : lw_okq (⟨"UnibusMachineModel", "special", "(I)V"⟩, 28) := ⟨⟨by decide +kernel, by decide +kernel⟩, List.mem_of_getElem? (i := 726) (by decide +kernel), List.mem_of_getElem? (i := 1010) (by decide +kernel), List.mem_of_getElem? (i := 1011) (by decide +kernel)⟩
theorem lw_p74 : lw_okq (⟨"UnibusMachineModel", "comeBack", "()V"⟩, 28) := ⟨⟨by decide +kernel, by decide +kernel⟩, List.mem_of_getElem? (i := 726) (by decide +kernel), List.mem_of_getElem? (i := 1014) (by decide +kernel), List.mem_of_getElem? (i := 1015) (by decide +kernel)⟩
theorem lw_p75 : lw_okq (⟨"UnibusMachineModel", "reset", "()V"⟩, 28) := ⟨⟨by decide +kernel, by decide +kernel⟩, List.mem_of_getElem? (i := 726) (by decide +kernel), List.mem_of_getElem? (i := 1018) (by decide +kernel), List.mem_of_getElem? (i := 1019) (by decide +kernel)⟩
theorem lw_p76 : lw_okq (⟨"UnibusMachineModel", "swap", "(I)V"⟩, 28) := ⟨⟨by decide +kernel, by decide +kernel⟩, List.mem_of_getElem? (i := 726) (by decide +kernel), List.mem_of_getElem? (i := 1022) (by decide +kernel), List.mem_of_getElem? (i := 1023) (by decide +kernel)⟩
theorem lw_p77 : lw_okq (⟨"UnibusMachineModel", "extended", "(I)V"⟩, 28) := ⟨⟨by decide +kernel, by decide +kernel⟩, List.mem_of_getElem? (i := 726) (by decide +kernel), List.mem_of_getElem? (i := 1026) (by decide +kernel), List.mem_of_getElem? (i := 1027) (by decide +kernel)⟩
theorem lw_p78 : lw_okq (⟨"UnibusMachineModel", "multiply", "(II)V"⟩, 28) := ⟨⟨by decide +kernel, by decide +kernel⟩, List.mem_of_getElem? (i := 726) (by decide +kernel), List.mem_of_getElem? (i := 1030) (by decide +kernel), List.mem_of_getElem? (i := 1031) (by decide +kernel)⟩
theorem lw_p79 : lw_okq (⟨"UnibusMachineModel", "two", "(II)V"⟩, 28) := ⟨⟨by decide +kernel, by decide +kernel⟩, List.mem_of_getElem? (i := 726) (by decide +kernel), List.mem_of_getElem? (i := 1034) (by decide +kernel), List.mem_of_getElem? (i := 1035) (by decide +kernel)⟩
def lw_privs_5 : List (MethodName × Nat) := [(⟨"UnibusMachineModel", "show", "(IZ)V"⟩, 28), (⟨"UnibusMachineModel", "setFlags", "(ZZZZ)V"⟩, 28), (⟨"UnibusMachineModel", "fromBefore", "(I)V"⟩, 28), (⟨"UnibusMachineModel", "push", "(I)V"⟩, 28), (⟨"UnibusMachineModel", "toBefore", "(I)V"⟩, 28), (⟨"UnibusMachineModel", "pop", "()I"⟩, 28), (⟨"UnibusMachineModel", "signs", "(I)V"⟩, 28), (⟨"UnibusMachineModel", "call", "(I)V"⟩, 28), (⟨"UnibusMachineModel", "small", "(I)V"⟩, 28), (⟨"UnibusMachineModel", "special", "(I)V"⟩, 28), (⟨"UnibusMachineModel", "comeBack", "()V"⟩, 28), (⟨"UnibusMachineModel", "reset", "()V"⟩, 28), (⟨"UnibusMachineModel", "swap", "(I)V"⟩, 28), (⟨"UnibusMachineModel", "extended", "(I)V"⟩, 28), (⟨"UnibusMachineModel", "multiply", "(II)V"⟩, 28), (⟨"UnibusMachineModel", "two", "(II)V"⟩, 28)]
theorem lw_r5 : ∀ q ∈ lw_privs_5, lw_okq q := List.forall_mem_cons.mpr ⟨lw_p64, List.forall_mem_cons.mpr ⟨lw_p65, List.forall_mem_cons.mpr ⟨lw_p66, List.forall_mem_cons.mpr ⟨lw_p67, List.forall_mem_cons.mpr ⟨lw_p68, List.forall_mem_cons.mpr ⟨lw_p69, List.forall_mem_cons.mpr ⟨lw_p70, List.forall_mem_cons.mpr ⟨lw_p71, List.forall_mem_cons.mpr ⟨lw_p72, List.forall_mem_cons.mpr ⟨lw_p73, List.forall_mem_cons.mpr ⟨lw_p74, List.forall_mem_cons.mpr ⟨lw_p75, List.forall_mem_cons.mpr ⟨lw_p76, List.forall_mem_cons.mpr ⟨lw_p77, List.forall_mem_cons.mpr ⟨lw_p78, List.forall_mem_cons.mpr ⟨lw_p79, fun _ h => absurd h List.not_mem_nil⟩⟩⟩⟩⟩⟩⟩⟩⟩⟩⟩⟩⟩⟩⟩⟩
theorem lw_p80 : lw_okq (⟨"UnibusMachineModel", "trap", "(I)V"⟩, 28) := ⟨⟨by decide +kernel, by decide +kernel⟩, List.mem_of_getElem? (i := 726) (by decide +kernel), List.mem_of_getElem? (i := 1038) (by decide +kernel), List.mem_of_getElem? (i := 1039) (by decide +kernel)⟩
theorem lw_p81 : lw_okq (⟨"UnibusMachineModel", "goOn", "()V"⟩, 28) := ⟨⟨by decide +kernel, by decide +kernel⟩, List.mem_of_getElem? (i := 726) (by decide +kernel), List.mem_of_getElem? (i := 1042) (by decide +kernel), List.mem_of_getElem? (i := 1043) (by decide +kernel)⟩
theorem lw_p82 : lw_okq (⟨"UnibusMachineModel", "finish", "(I)V"⟩, 28) := ⟨⟨by decide +kernel, by decide +kernel⟩, List.mem_of_getElem? (i := 726) (by decide +kernel), List.mem_of_getElem? (i := 1046) (by decide +kernel), List.mem_of_getElem? (i := 1047) (by decide +kernel)⟩
theorem lw_p83 : lw_okq (⟨"UnibusMachineModel", "move", "()V"⟩, 28) := ⟨⟨by decide +kernel, by decide +kernel⟩, List.mem_of_getElem? (i := 726) (by decide +kernel), List.mem_of_getElem? (i := 1050) (by decide +kernel), List.mem_of_getElem? (i := 1051) (by decide +kernel)⟩
def lw_privs_6 : List (MethodName × Nat) := [(⟨"UnibusMachineModel", "trap", "(I)V"⟩, 28), (⟨"UnibusMachineModel", "goOn", "()V"⟩, 28), (⟨"UnibusMachineModel", "finish", "(I)V"⟩, 28), (⟨"UnibusMachineModel", "move", "()V"⟩, 28)]
theorem lw_r6 : ∀ q ∈ lw_privs_6, lw_okq q := List.forall_mem_cons.mpr ⟨lw_p80, List.forall_mem_cons.mpr ⟨lw_p81, List.forall_mem_cons.mpr ⟨lw_p82, List.forall_mem_cons.mpr ⟨lw_p83, fun _ h => absurd h List.not_mem_nil⟩⟩⟩⟩
def lw_privs : List (MethodName × Nat) := lw_privs_1 ++ (lw_privs_2 ++ (lw_privs_3 ++ (lw_privs_4 ++ (lw_privs_5 ++ (lw_privs_6)))))
def lw_tbl : List Cond := k2_sels lw_privs ++ tables_1
theorem lw_privs_ok : ∀ q ∈ lw_privs, lw_okq q := by
  show ∀ q ∈ lw_privs_1 ++ (lw_privs_2 ++ (lw_privs_3 ++ (lw_privs_4 ++ (lw_privs_5 ++ (lw_privs_6))))), lw_okq q
  exact List.forall_mem_append.mpr ⟨lw_r1, List.forall_mem_append.mpr ⟨lw_r2, List.forall_mem_append.mpr ⟨lw_r3, List.forall_mem_append.mpr ⟨lw_r4, List.forall_mem_append.mpr ⟨lw_r5, lw_r6⟩⟩⟩⟩⟩
-- ===== end of PART A; then your names; then what follows =====
end
section
/-! ===== BEGIN words of one list among another's, by their places ===== -/
theorem goodIn_r {big : List Cond} (ws : List Cond) (ps : List Nat) (hp : ws = ps.filterMap (fun i => big[i]?)) (h : ws.all goodWord = true) : GoodIn big ws := by
  intro w hw
  have h1 := List.all_eq_true.mp h w hw
  rw [hp] at hw
  obtain ⟨i, -, hi⟩ := List.mem_filterMap.mp hw
  have hm : w ∈ big := by first | exact List.mem_of_getElem? hi | exact List.getElem?_mem hi
  exact ⟨hm, good_of_word h1⟩
theorem goodIn_app {big a b : List Cond} (ha : GoodIn big a) (hb : GoodIn big b) : GoodIn big (a ++ b) := fun w h => (List.mem_append.mp h).elim (ha w) (hb w)
theorem goodIn_ca {big a b : List Cond} {c : Cond} (ha : GoodIn big (c :: a)) (hb : GoodIn big b) : GoodIn big (c :: (a ++ b)) := fun w h => (List.mem_cons.mp h).elim (fun e => ha w (List.mem_cons.mpr (Or.inl e))) (fun h => (List.mem_append.mp h).elim (fun h => ha w (List.mem_cons.mpr (Or.inr h))) (hb w))
theorem goodIn_sub {big ws : List Cond} (hm : ∀ w ∈ ws, w ∈ big) (h : ws.all goodWord = true) : GoodIn big ws := fun w hw => ⟨hm w hw, good_of_word (List.all_eq_true.mp h w hw)⟩
/-! ===== END ===== -/

/-! ===== BEGIN exceptions that leave a method, and their catching by the caller (launches without stack traces) ===== -/
section VXA
/-! The laws vx_back, vx_callV, vx_callS, vx_callSW, vx_throw0, vx_throwS follow proofs of the library, with one case more: JvmDerived/Free/Laws.lean (Back.of_free), Shelf42/LK1.lean (callV, callS), Shelf/KitTraced.lean (throwNew0V, throwNewS). -/
/-- where a method has thrown q: the class by its name, the cell, what was written, the world -/
def vx_T (XC : String → State → State → Prop) (st : State) (q : Addr) (t : State) (mc ms : Nat) (free : Addr → Prop) : Prop :=
  ∃ (E : String) (ce : Cell) (L : List Loc), XC E st t ∧ t.heap[q]? = some ce ∧ ce.vm = .none ∧ st.vm.findClass E = some ce.cls ∧ st.WarmedH t.vm ∧ st.sameButNew ({ t with vm := st.vm } : State) L mc ms ∧ ∀ z ∈ L, free z.base
def vx_Q (Qc : Array Value → State → Outcome → State → Prop) (XC : String → State → State → Prop) (mc ms : Nat) (free : Addr → Prop) : Array Value → State → Outcome → State → Prop := fun a st o t =>
  (Qc a st o t ∧ ∃ L, FrameEnd st o t L mc ms ∧ ∀ q ∈ L, free q.base) ∨ ∃ q, o = .threw q ∧ vx_T XC st q t mc ms free
/-- a callee that returns or throws -/
def vx_Met (l : Launch) (y : MethodName) (ws : List Cond) (rm : Room) (Pc : Array Value → State → Prop) (Qc : Array Value → State → Outcome → State → Prop) (XC : String → State → State → Prop) (mc ms : Nat) (free : Addr → Prop) : Prop :=
  MetFree l y (headSpec ws rm) Pc (fun _ _ _ _ _ => True) (vx_Q Qc XC mc ms free)
def vx_Post (XC : String → State → State → Prop) (mc ms : Nat) (free : Addr → Prop) : Pt → Array Value → Addr → Pt → Prop := fun A a q B =>
  ∃ (g : JFrame) (mk : MethodId) (t : State) (L : List Loc) (E : String) (ce : Cell), B.U.heap = t.heap ∧ B.U.vm = t.vm ∧ XC E (A.U.calling g mk a) t ∧ t.heap[q]? = some ce ∧ ce.vm = .none ∧ A.U.vm.findClass E = some ce.cls ∧ B.locs = A.locs ++ L ∧ (∀ z ∈ L, free z.base) ∧ B.cells = A.cells + mc ∧ B.slots = A.slots + ms
def vx_Back (l : Launch) (R : Room) (p : Program) (e : Env) (below : List Frame) (s : State) (sargs : Array Value) (y : MethodName) (len W9 : Nat)
    (Pre : Pt → Array Value → Prop) (Post : Pt → Array Value → Option Value → Pt → Prop) (PostX : Pt → Array Value → Addr → Pt → Prop) : Prop :=
  ∀ (m : MethodId) (meth : Method) (c : Code) (A : Pt) (g : JFrame) (ig : Instr) (mk : MethodId) (a : Array Value),
    Stand p l e R s m sargs below meth c A.U A.locs A.cells A.slots → g.method = m → g.locals.size = c.maxLocals → decode c.code g.pc = .ok (ig, len) →
    2 * g.monitorRoom + (g.stack.map fun v => v.category).sum ≤ W9 → A.U.methodNamed? y = some mk → Pre A a →
    (∃ (v : Option Value) (B : Pt), Stand p l e R s m sargs below meth c B.U B.locs B.cells B.slots ∧ Post A a v B ∧
      Steps p.tables e below (doInvoke e (A.U.setTop g) [] mk a).1 (B.U.setTop { g with pc := g.pc + len, stack := v.toList ++ g.stack })) ∨
    (∃ (q : Addr) (B : Pt), Stand p l e R s m sargs below meth c B.U B.locs B.cells B.slots ∧ PostX A a q B ∧
      Steps p.tables e below (doInvoke e (A.U.setTop g) [] mk a).1 ((B.U.setTop g).pushFrame (.throwing q)))
section Payer
variable {l : Launch} {R : Room} {p : Program} {e : Env} {below : List Frame} {s : State} {sargs : Array Value} {y : MethodName} {len W9 : Nat}
theorem vx_back {ws : List Cond} {rm : Room} {Pc : Array Value → State → Prop} {Qc : Array Value → State → Outcome → State → Prop} {XC : String → State → State → Prop} {mc ms : Nat} {free : Addr → Prop} {bytes : ByteArray} {maxL : Nat} {ret : Option FieldType}
    (hM : vx_Met l y ws rm Pc Qc XC mc ms free) (hblind : FrameBlind Pc) (hrc : rm.cells = mc) (hrs : rm.slots = ms)
    (hframes : rm.frames + 1 ≤ R.frames) (hlocals : W9 + (maxL + 11) + rm.locals ≤ R.locals)
    (hws : ∀ w ∈ ws, ∀ a' U, s.WarmedH U.vm → w.before a' U = true) (hcode : Cond.code y bytes maxL ret ∈ ws) (hinit : ∀ a' U, s.WarmedH U.vm → (Cond.initialized y.cls).before a' U = true) :
    vx_Back l R p e below s sargs y len W9 (PreOf R mc ms Pc) (PostOf Qc mc ms free) (vx_Post XC mc ms free) := by
  intro m meth c A g ig mk a X hg hsize hdg hW hn hp
  have h1 : (headSpec ws rm).pre.before a A.U = true := atoms_intro fun w hw => hws w hw _ _ X.warmed
  have h2 : (Cond.code y bytes maxL ret).before a A.U = true := hws _ hcode _ _ X.warmed
  have h3 : (Cond.initialized y.cls).before a A.U = true := hinit _ _ X.warmed
  have h4 : A.cells + (headSpec ws rm).room.cells ≤ R.cells := by rw [show (headSpec ws rm).room.cells = mc from hrc]; exact hp.1
  have h5 : A.slots + (headSpec ws rm).room.slots ≤ R.slots := by rw [show (headSpec ws rm).room.slots = ms from hrs]; exact hp.2.1
  have hPc : Pc a (A.U.calling g mk a) := hblind _ _ _ _ hp.2.2
  obtain ⟨U, Ls, c0, s0⟩ := A
  dsimp only [Pt.U, Pt.locs, Pt.cells, Pt.slots] at h1 h2 h3 h4 h5 X hn hPc ⊢
  obtain ⟨methY, cY, hmY, hcY, -, hlY, -, -, -, -⟩ := Cond.code_spec hn h2
  obtain ⟨kY, hkY, -⟩ := className_of_methodNamed hn
  have hinitY : kY.init = .initialized := Cond.initialized_spec (findClass_of_methodNamed hn) hkY h3
  have h : At U g.method c below := by rw [hg]; exact X.here
  have hlocals9 : W9 + (maxL + 11) + (headSpec ws rm).room.locals ≤ R.locals := hlocals
  have happ : (headSpec ws rm).appliesLoose y e.platform (U.calling g mk a) = true :=
    Spec.appliesLoose_calling (g := g) h hdg hn hkY hinitY
      (X.room_calling (g := g) (R' := (headSpec ws rm).room) hsize hmY hcY hframes (by rw [hlY]; omega) h4 h5) h1
  obtain ⟨mid, hmid⟩ := h.above
  have hfr : (U.setTop g).frames = (.java g :: mid) ++ below := by rw [State.frames_setTop' g h.top, hmid]; rfl
  obtain ⟨o, s₂, hsteps, -, hend, hq⟩ := Steps.callFree hM p X.admits X.cas X.clock (acts := []) hfr happ hPc trivial
  have hq' : vx_Q Qc XC mc ms free a (U.calling g mk a) o s₂ := hq
  rw [State.frames_setTop' g h.top] at hend
  obtain ⟨g₀, hg0⟩ := Option.isSome_iff_exists.mp h.top
  obtain ⟨r, hr⟩ := State.topJava?_eq_some.mp hg0
  have hr' : (({ U with heap := s₂.heap, slotsUsed := s₂.slotsUsed } : State).setVm s₂.vm).frames = .java g₀ :: r := hr
  rcases hq' with ⟨hqc, L, hfe, hL⟩ | ⟨q, rfl, E, ce, L, hx, hce, hcv, hcl, hW₂, hsm, hL⟩
  · obtain ⟨⟨v, rfl⟩, hW₂, e2, q2, q3, q4, q5, q6⟩ := id hfe
    have e3 : s₂ = ({ (U.calling g mk a).setFrames s₂.frames with heap := s₂.heap, slotsUsed := s₂.slotsUsed } : State).setVm s₂.vm := by
      have : s₂ = ({ s₂ with vm := (U.calling g mk a).vm } : State).setVm s₂.vm := rfl
      rw [e2] at this
      exact this
    obtain ⟨c₂, i₂, len₂, hc₂, hd₂, hf₂⟩ := hend
    have hW' : U.WarmedH s₂.vm := hW₂
    have hcc : c₂ = c := by
      have h1 : s₂.code? g.method = U.code? g.method := by
        rw [State.code?_eq, State.code?_eq, hW'.alike.method?]
      exact Option.some.inj (hc₂.symm.trans (h1.trans h.code))
    subst hcc
    have hlen : len₂ = len := by rw [hdg] at hd₂; cases hd₂; rfl
    subst hlen
    have hs₂ : s₂ = (({ U with heap := s₂.heap, slotsUsed := s₂.slotsUsed } : State).setVm s₂.vm).setTop { g with pc := g.pc + len₂, stack := v.toList ++ g.stack } := by
      refine e3.trans ?_
      rw [hf₂, State.calling_eq h.top, State.setFrames_setFrames, State.setTop_of_frames _ hr', hr]
      rfl
    have hsame : U.sameButNew ({ U with heap := s₂.heap, slotsUsed := s₂.slotsUsed } : State) L mc ms := by
      refine ⟨?_, q2, q3, q4, q5, q6⟩
      obtain ⟨t, ht, -⟩ := State.frames_cons hr
      show ({ U with heap := s₂.heap, slotsUsed := s₂.slotsUsed } : State) = { U.setFrames U.frames with heap := s₂.heap, slotsUsed := s₂.slotsUsed }
      rw [State.setFrames_self ht]
    subst hg
    refine Or.inl ⟨v, ⟨(({ U with heap := s₂.heap, slotsUsed := s₂.slotsUsed } : State).setVm s₂.vm), Ls ++ L, c0 + mc, s0 + ms⟩,
      ⟨X.admits, X.cas, X.clock, X.frames, X.room, X.hears, X.method, X.code, (X.here.setHeapUsed s₂.heap s₂.slotsUsed).setVm hW'.alike, X.tail, State.WarmedH.trans X.warmed hW', X.limits, X.bytes, X.same.trans (hsame.setVm s.vm)⟩,
      ⟨g, mk, s₂, L, rfl, rfl, hqc, rfl, hL, rfl, rfl⟩, ?_⟩
    show Steps p.tables e below _ ((({ U with heap := s₂.heap, slotsUsed := s₂.slotsUsed } : State).setVm s₂.vm).setTop { g with pc := g.pc + len₂, stack := v.toList ++ g.stack })
    rw [← hs₂]
    exact hsteps
  · obtain ⟨e2, q2, q3, q4, q5, q6⟩ := id hsm
    have e3 : s₂ = ({ (U.calling g mk a).setFrames s₂.frames with heap := s₂.heap, slotsUsed := s₂.slotsUsed } : State).setVm s₂.vm := by
      have : s₂ = ({ s₂ with vm := (U.calling g mk a).vm } : State).setVm s₂.vm := rfl
      rw [e2] at this
      exact this
    have hf₂ : s₂.frames = .throwing q :: .java g :: U.frames.tail := hend
    have hW' : U.WarmedH s₂.vm := hW₂
    have hs₂ : s₂ = ((({ U with heap := s₂.heap, slotsUsed := s₂.slotsUsed } : State).setVm s₂.vm).setTop g).pushFrame (.throwing q) := by
      refine e3.trans ?_
      rw [hf₂, State.calling_eq h.top, State.setFrames_setFrames, State.pushFrame, State.frames_setTop _ hr', State.setTop_of_frames _ hr', State.setFrames_setFrames, hr]
      rfl
    have hsame : U.sameButNew ({ U with heap := s₂.heap, slotsUsed := s₂.slotsUsed } : State) L mc ms := by
      refine ⟨?_, q2, q3, q4, q5, q6⟩
      obtain ⟨t, ht, -⟩ := State.frames_cons hr
      show ({ U with heap := s₂.heap, slotsUsed := s₂.slotsUsed } : State) = { U.setFrames U.frames with heap := s₂.heap, slotsUsed := s₂.slotsUsed }
      rw [State.setFrames_self ht]
    subst hg
    refine Or.inr ⟨q, ⟨(({ U with heap := s₂.heap, slotsUsed := s₂.slotsUsed } : State).setVm s₂.vm), Ls ++ L, c0 + mc, s0 + ms⟩,
      ⟨X.admits, X.cas, X.clock, X.frames, X.room, X.hears, X.method, X.code, (X.here.setHeapUsed s₂.heap s₂.slotsUsed).setVm hW'.alike, X.tail, State.WarmedH.trans X.warmed hW', X.limits, X.bytes, X.same.trans (hsame.setVm s.vm)⟩,
      ⟨g, mk, s₂, L, E, ce, rfl, rfl, hx, hce, hcv, hcl, rfl, hL, rfl, rfl⟩, ?_⟩
    show Steps p.tables e below _ (((({ U with heap := s₂.heap, slotsUsed := s₂.slotsUsed } : State).setVm s₂.vm).setTop g).pushFrame (.throwing q))
    rw [← hs₂]
    exact hsteps
end Payer
section Calls
variable {p : Program} {l : Launch} {e : Env} {R : Room} {s : State} {m : MethodId} {args : Array Value} {below : List Frame} {meth : Method} {c : Code} {T : State} {locs : List Loc} {cells slots : Nat}
theorem vx_callV (X : Stand p l e R s m args below meth c T locs cells slots) (hexec : p.tables.exec = Jvm.exec) {own C : String} {index : Nat} {y : MethodName} {bytes : ByteArray} {maxL : Nat} {ret : Option FieldType}
    (hown : s.vm.findClass own = some m.cls) (hlink : (Cond.methodLink own index y).before args s = true) (hinst : (Cond.instanceMethod y).before args s = true) (hsel : (Cond.selects C y y).before args s = true)
    (hcode : (Cond.code y bytes maxL ret).before args s = true) (hy : y.cls ≠ "java/lang/invoke/MethodHandle" ∧ y.cls ≠ "java/lang/invoke/VarHandle")
    {W9 : Nat} {Pre : Pt → Array Value → Prop} {Post : Pt → Array Value → Option Value → Pt → Prop} {PostX : Pt → Array Value → Addr → Pt → Prop} (hK : vx_Back l R p e below s args y 3 W9 Pre Post PostX)
    {b : Addr} {cellB : Cell} (hcell : T.heap[b]? = some cellB) (hobj : cellB.vm.isStatics = false) (hcls : s.vm.findClass C = some cellB.cls)
    {g : JFrame} (hg : g.method = m) (hsize : g.locals.size = c.maxLocals) {argsL rest : List Value} (hlen : ∀ sig, parseMethodDescriptor y.desc = some sig → argsL.length = sig.parameters.length)
    (hstack : g.stack = argsL.reverse ++ .ref b :: rest) (hW : 2 * g.monitorRoom + (rest.map fun v => v.category).sum ≤ W9) (hdg : decode c.code g.pc = .ok (.invokevirtual index, 3))
    (hpre : ∀ vm₁, s.WarmedH vm₁ → Pre ⟨T.setVm vm₁, locs, cells, slots⟩ (Value.ref b :: argsL).toArray) :
    (∃ (v : Option Value) (vm₁ : Vm) (B : Pt), s.WarmedH vm₁ ∧ Stand p l e R s m args below meth c B.U B.locs B.cells B.slots ∧ Post ⟨T.setVm vm₁, locs, cells, slots⟩ (Value.ref b :: argsL).toArray v B ∧
      ∀ target, Steps p.tables e below (B.U.setTop { g with pc := g.pc + 3, stack := v.toList ++ rest }) target → Steps p.tables e below (T.setTop g) target) ∨
    (∃ (q : Addr) (vm₁ : Vm) (B : Pt), s.WarmedH vm₁ ∧ Stand p l e R s m args below meth c B.U B.locs B.cells B.slots ∧ PostX ⟨T.setVm vm₁, locs, cells, slots⟩ (Value.ref b :: argsL).toArray q B ∧
      Steps p.tables e below (T.setTop g) ((B.U.setTop { g with stack := rest }).pushFrame (.throwing q))) := by
  obtain ⟨mk, methM, hnamed, hmethM, hstM, habM⟩ := Cond.instanceMethod_spec hinst
  obtain ⟨methM', cM, hmethM', -, -, -, -, -, -, hsigM⟩ := Cond.code_spec hnamed hcode
  cases hmethM.symm.trans hmethM'
  obtain ⟨c2, r2, m2, q1, q2, q3, q4, kP, hkP, hkPi⟩ := Cond.selects_spec hsel
  cases hcls.symm.trans q1
  cases (State.methodFound?_of_named hnamed hy).symm.trans q2
  cases hnamed.symm.trans q3
  have hselP : selectMethod e.platform s.vm cellB.cls mk = .method mk := by rw [Launch.admits_selectMethod X.admits]; exact q4
  obtain ⟨vm₁, X₁, hstep₁⟩ := X.invokevirtual hexec hown hlink hnamed hmethM hstM hkP hkPi hy (a := b) (cell := cellB) hcell
    (fun z h => by rw [h] at hobj; cases hobj) hselP hmethM habM hkP hkPi (g := g) hg (argsL := argsL) (rest := rest) (hlen _ hsigM) hstack hdg
  rcases hK m meth c ⟨T.setVm vm₁, locs, cells, slots⟩ { g with stack := rest } (.invokevirtual index) mk (Value.ref b :: argsL).toArray X₁ hg hsize hdg hW (X₁.named hnamed) (hpre vm₁ X₁.warmed) with ⟨v, B, X', hpost, hsteps⟩ | ⟨q, B, X', hpost, hsteps⟩
  · exact Or.inl ⟨v, vm₁, B, X₁.warmed, X', hpost, fun target h => hstep₁ _ fun acts => by rw [doInvoke_state]; exact hsteps.trans h⟩
  · exact Or.inr ⟨q, vm₁, B, X₁.warmed, X', hpost, hstep₁ _ fun acts => by rw [doInvoke_state]; exact hsteps⟩
theorem vx_callS (X : Stand p l e R s m args below meth c T locs cells slots) (hexec : p.tables.exec = Jvm.exec) {own : String} {index : Nat} {y : MethodName} {bytes : ByteArray} {maxL : Nat} {ret : Option FieldType}
    (hown : s.vm.findClass own = some m.cls) (hlink : (Cond.methodLink own index y).before args s = true) (hstat : (Cond.static y).before args s = true) (hinit : (Cond.initialized y.cls).before args s = true)
    (hcode : (Cond.code y bytes maxL ret).before args s = true) (hy : y.cls ≠ "java/lang/invoke/MethodHandle" ∧ y.cls ≠ "java/lang/invoke/VarHandle")
    {W9 : Nat} {Pre : Pt → Array Value → Prop} {Post : Pt → Array Value → Option Value → Pt → Prop} {PostX : Pt → Array Value → Addr → Pt → Prop} (hK : vx_Back l R p e below s args y 3 W9 Pre Post PostX)
    {g : JFrame} (hg : g.method = m) (hsize : g.locals.size = c.maxLocals) {argsL rest : List Value} (hlen : ∀ sig, parseMethodDescriptor y.desc = some sig → argsL.length = sig.parameters.length)
    (hstack : g.stack = argsL.reverse ++ rest) (hW : 2 * g.monitorRoom + (rest.map fun v => v.category).sum ≤ W9) (hdg : decode c.code g.pc = .ok (.invokestatic index, 3))
    (hpre : ∀ vm₁, s.WarmedH vm₁ → Pre ⟨T.setVm vm₁, locs, cells, slots⟩ argsL.toArray) :
    (∃ (v : Option Value) (vm₁ : Vm) (B : Pt), s.WarmedH vm₁ ∧ Stand p l e R s m args below meth c B.U B.locs B.cells B.slots ∧ Post ⟨T.setVm vm₁, locs, cells, slots⟩ argsL.toArray v B ∧
      ∀ target, Steps p.tables e below (B.U.setTop { g with pc := g.pc + 3, stack := v.toList ++ rest }) target → Steps p.tables e below (T.setTop g) target) ∨
    (∃ (q : Addr) (vm₁ : Vm) (B : Pt), s.WarmedH vm₁ ∧ Stand p l e R s m args below meth c B.U B.locs B.cells B.slots ∧ PostX ⟨T.setVm vm₁, locs, cells, slots⟩ argsL.toArray q B ∧
      Steps p.tables e below (T.setTop g) ((B.U.setTop { g with stack := rest }).pushFrame (.throwing q))) := by
  obtain ⟨mk, hnamed⟩ := Cond.code_named hcode
  obtain ⟨methM, cM, hmethM, -, -, -, -, -, -, hsigM⟩ := Cond.code_spec hnamed hcode
  have hstatic : methM.isStatic = true := Cond.static_spec hnamed hmethM hstat
  obtain ⟨kP, hkP, -⟩ := className_of_methodNamed hnamed
  have hinitP : kP.init = .initialized := Cond.initialized_spec (findClass_of_methodNamed hnamed) hkP hinit
  obtain ⟨vm₁, X₁, hstep₁⟩ := X.invokestatic hexec hown hlink hnamed hmethM hstatic hkP hinitP hy (g := g) hg (argsL := argsL) (rest := rest) (hlen _ hsigM) hstack hdg
  rcases hK m meth c ⟨T.setVm vm₁, locs, cells, slots⟩ { g with stack := rest } (.invokestatic index) mk argsL.toArray X₁ hg hsize hdg hW (X₁.named hnamed) (hpre vm₁ X₁.warmed) with ⟨v, B, X', hpost, hsteps⟩ | ⟨q, B, X', hpost, hsteps⟩
  · exact Or.inl ⟨v, vm₁, B, X₁.warmed, X', hpost, fun target h => hstep₁ _ fun acts => by rw [doInvoke_state]; exact hsteps.trans h⟩
  · exact Or.inr ⟨q, vm₁, B, X₁.warmed, X', hpost, hstep₁ _ fun acts => by rw [doInvoke_state]; exact hsteps⟩
end Calls
theorem vx_cls {s : State} {T : State} {vm₁ : Vm} {E : String} {k : ClassId} (hW : s.WarmedH vm₁) (h : (T.setVm vm₁).vm.findClass E = some k) : s.vm.findClass E = some k := by
  have h1 : vm₁.findClass E = some k := h
  rw [hW.alike.findClass] at h1
  exact h1
/-- the method's frame g, with q thrown over it -/
def vx_W (p : Program) (l : Launch) (e : Env) (R : Room) (s : State) (m : MethodId) (args : Array Value) (below : List Frame) (meth : Method) (c : Code) (H : Heap) (locs : List Loc) (cells slots : Nat) (Q : State → Prop) (g : JFrame) (q : Addr) : Prop :=
  ∀ T : State, T.heap = H → Stand p l e R s m args below meth c T locs cells slots → ∃ t, Steps p.tables e below ((T.setTop g).pushFrame (.throwing q)) t ∧ Q t
def vx_Run (p : Program) (l : Launch) (e : Env) (R : Room) (s : State) (m : MethodId) (args : Array Value) (below : List Frame) (meth : Method) (c : Code) (H : Heap) (locs : List Loc) (cells slots mc ms : Nat) (g : JFrame) (rest : List Value) (Qa : State → Outcome → State → Prop) (XC : String → State → State → Prop) (free : Addr → Prop) : Prop :=
  ∀ T : State, T.heap = H → Stand p l e R s m args below meth c T locs cells slots →
    (∃ (v : Option Value) (st₀ t T' : State) (L : List Loc), st₀.heap = H ∧ Stand p l e R s m args below meth c T' (locs ++ L) (cells + mc) (slots + ms) ∧ (∀ q ∈ L, free q.base) ∧ T'.heap = t.heap ∧ T'.vm = t.vm ∧ Qa st₀ (.returned v) t ∧
      Goes p e below T g T' { g with pc := g.pc + 3, stack := v.toList ++ rest }) ∨
    (∃ (q : Addr) (st₀ t T' : State) (L : List Loc) (E : String) (ce : Cell), st₀.heap = H ∧ Stand p l e R s m args below meth c T' (locs ++ L) (cells + mc) (slots + ms) ∧ (∀ z ∈ L, free z.base) ∧ T'.heap = t.heap ∧ T'.vm = t.vm ∧ XC E st₀ t ∧ t.heap[q]? = some ce ∧ ce.vm = .none ∧ s.vm.findClass E = some ce.cls ∧
      Steps p.tables e below (T.setTop g) ((T'.setTop { g with stack := rest }).pushFrame (.throwing q)))
def vx_X {S : Type} (px : S → Prop) (B : String → S → State → Prop) (A : Nat → Prop) : String → State → State → Prop := fun E st t => ∃ u : S, px u ∧ B E u t ∧ va_F A st t
section Runs
variable {p : Program} {l : Launch} {e : Env} {R : Room} {s : State} {m : MethodId} {args : Array Value} {below : List Frame} {meth : Method} {c : Code} {H : Heap} {locs : List Loc} {cells slots : Nat}
variable {y : MethodName} {bytes cc : ByteArray} {maxL nL mc ms n index : Nat} {ret : Option FieldType} {ws : List Cond} {rm : Room} {Pc : Array Value → State → Prop} {Qc : Array Value → State → Outcome → State → Prop} {XC : String → State → State → Prop} {free : Addr → Prop} {Ts : List Cond} {own C : String} {b : Addr} {As rest : List Value} {g : JFrame}
theorem vx_callBack (cb : CallB R s args own index y bytes maxL ret ws rm mc ms n) (hM : vx_Met l y ws rm Pc Qc XC mc ms free) (hbl : FrameBlind Pc) : vx_Back l R p e below s args y 3 8 (PreOf R mc ms Pc) (PostOf Qc mc ms free) (vx_Post XC mc ms free) := by
  obtain ⟨hrc, hrs, hfr, hlo, hws, hcw, -, hini, -⟩ := cb
  exact vx_back (bytes := bytes) (maxL := maxL) (ret := ret) hM hbl hrc hrs hfr hlo hws hcw (fun a' U hW => word_at hW (Or.inl (by first | rfl | simp [Cond.onTables, Cond.keeps, Cond.steady])) hini)
theorem vx_runV (S : CallFix p m c cc nL s args Ts own) (hM : vx_Met l y ws rm Pc Qc XC mc ms free) (cw : CallW R s args own C index y bytes maxL ret ws rm mc ms n) (hp : PreV s H C b Pc As)
    (hg : g.method = m) (hn : As.length = n) (hsize : g.locals.size = nL) (hstack : g.stack = As.reverse ++ .ref b :: rest) (hW : 2 * g.monitorRoom + (rest.map fun v => v.category).sum ≤ 8) (hdg : decode cc g.pc = .ok (.invokevirtual index, 3)) (hf : cells + mc ≤ R.cells ∧ slots + ms ≤ R.slots) :
    vx_Run p l e R s m args below meth c H locs cells slots mc ms g rest (Qc (Value.ref b :: As).toArray) XC free := by
  have hK : vx_Back l R p e below s args y 3 8 (PreOf R mc ms Pc) (PostOf Qc mc ms free) (vx_Post XC mc ms free) := vx_callBack cw.1 hM hp.1
  obtain ⟨⟨-, -, -, -, -, -, hcode, -, hy, hlen, hl⟩, hin, hse⟩ := cw
  obtain ⟨hx, hb, hml, ho, -⟩ := S
  obtain ⟨-, ⟨cellB, hcB, hoB, hclB⟩, hPc⟩ := hp
  intro T hT X
  rcases vx_callV X hx (C := C) (bytes := bytes) (maxL := maxL) (ret := ret) ho hl hin hse hcode hy hK (by rw [hT]; exact hcB) hoB hclB hg (hsize.trans hml.symm) (argsL := As) (rest := rest) (fun sig h => hn.trans (hlen sig h)) hstack hW (by rw [hb]; exact hdg)
    (fun vm₁ hW₁ => ⟨hf.1, hf.2, hPc (T.setVm vm₁) hT hW₁⟩) with ⟨v, vm₁, ⟨U', l2, c2, s2⟩, hW₁, X', ⟨g', mk, t, L, e1, e2, hq, h1, hL, h2, h3⟩, st⟩ | ⟨q, vm₁, ⟨U', l2, c2, s2⟩, hW₁, X', ⟨g', mk, t, L, E, ce, e1, e2, hq, hce, hcv, hcl, h1, hL, h2, h3⟩, st⟩
  · dsimp only [Pt.U, Pt.locs, Pt.cells, Pt.slots] at X' e1 e2 h1 h2 h3 st
    subst h1; subst h2; subst h3
    exact Or.inl ⟨v, (T.setVm vm₁).calling g' mk (Value.ref b :: As).toArray, t, U', L, hT, X', hL, e1, e2, hq, st⟩
  · dsimp only [Pt.U, Pt.locs, Pt.cells, Pt.slots] at X' e1 e2 h1 h2 h3 st hcl
    subst h1; subst h2; subst h3
    exact Or.inr ⟨q, (T.setVm vm₁).calling g' mk (Value.ref b :: As).toArray, t, U', L, E, ce, hT, X', hL, e1, e2, hq, hce, hcv, vx_cls hW₁ hcl, st⟩
theorem vx_runS (S : CallFix p m c cc nL s args Ts own) (hM : vx_Met l y ws rm Pc Qc XC mc ms free) (cw : CallB R s args own index y bytes maxL ret ws rm mc ms n ∧ (Cond.static y).before args s = true) (hp : PreS s H Pc As)
    (hg : g.method = m) (hn : As.length = n) (hsize : g.locals.size = nL) (hstack : g.stack = As.reverse ++ rest) (hW : 2 * g.monitorRoom + (rest.map fun v => v.category).sum ≤ 8) (hdg : decode cc g.pc = .ok (.invokestatic index, 3)) (hf : cells + mc ≤ R.cells ∧ slots + ms ≤ R.slots) :
    vx_Run p l e R s m args below meth c H locs cells slots mc ms g rest (Qc As.toArray) XC free := by
  have hK : vx_Back l R p e below s args y 3 8 (PreOf R mc ms Pc) (PostOf Qc mc ms free) (vx_Post XC mc ms free) := vx_callBack cw.1 hM hp.1
  obtain ⟨⟨-, -, -, -, -, -, hcode, hini, hy, hlen, hl⟩, hstt⟩ := cw
  obtain ⟨hx, hb, hml, ho, -⟩ := S
  intro T hT X
  rcases vx_callS X hx (bytes := bytes) (maxL := maxL) (ret := ret) ho hl hstt hini hcode hy hK hg (hsize.trans hml.symm) (argsL := As) (rest := rest) (fun sig h => hn.trans (hlen sig h)) hstack hW (by rw [hb]; exact hdg)
    (fun vm₁ hW₁ => ⟨hf.1, hf.2, hp.2 (T.setVm vm₁) hT hW₁⟩) with ⟨v, vm₁, ⟨U', l2, c2, s2⟩, hW₁, X', ⟨g', mk, t, L, e1, e2, hq, h1, hL, h2, h3⟩, st⟩ | ⟨q, vm₁, ⟨U', l2, c2, s2⟩, hW₁, X', ⟨g', mk, t, L, E, ce, e1, e2, hq, hce, hcv, hcl, h1, hL, h2, h3⟩, st⟩
  · dsimp only [Pt.U, Pt.locs, Pt.cells, Pt.slots] at X' e1 e2 h1 h2 h3 st
    subst h1; subst h2; subst h3
    exact Or.inl ⟨v, (T.setVm vm₁).calling g' mk As.toArray, t, U', L, hT, X', hL, e1, e2, hq, st⟩
  · dsimp only [Pt.U, Pt.locs, Pt.cells, Pt.slots] at X' e1 e2 h1 h2 h3 st hcl
    subst h1; subst h2; subst h3
    exact Or.inr ⟨q, (T.setVm vm₁).calling g' mk As.toArray, t, U', L, E, ce, hT, X', hL, e1, e2, hq, hce, hcv, vx_cls hW₁ hcl, st⟩
end Runs
section Rows
variable {p : Program} {l : Launch} {e : Env} {R : Room} {s : State} {m : MethodId} {args : Array Value} {below : List Frame} {meth : Method} {c : Code} {H : Heap} {locs : List Loc} {cells slots : Nat} {Q : State → Prop}
variable {mc ms : Nat} {free : Addr → Prop} {A0 A1 : Nat → Prop} {H0 : Heap} {a : Array Value} {pc : Nat} {ls : Array Slot} {st0 rest : List Value}
theorem vx_keep {st₀ t T' : State} {L : List Loc} (h0 : st₀.heap = H) (e1 : T'.heap = t.heap) (hS : va_S A0 H0 H locs) (hA : ∀ q, q < H.size → A1 q → A0 q) (hf : ∀ q, free q → A0 q) (hL : ∀ q ∈ L, free q.base) (hF : va_F A1 st₀ t) :
    H.size ≤ T'.heap.size ∧ (∀ q : Nat, q < H.size → ¬ A1 q → T'.heap[q]? = H[q]?) ∧ va_S A0 H0 T'.heap (locs ++ L) := by
  obtain ⟨hz, hk⟩ := hF
  rw [h0] at hz hk
  exact ⟨by rw [e1]; exact hz, fun q h1 h2 => by rw [e1]; exact hk q h1 h2,
    ⟨Nat.le_trans hS.1 (by rw [e1]; exact hz), fun q h1 h2 => by rw [e1, hk q (Nat.lt_of_lt_of_le h1 hS.1) (fun z => h2 (hA q (Nat.lt_of_lt_of_le h1 hS.1) z))]; exact hS.2.1 q h1 h2, fun q hq => by
      rcases List.mem_append.mp hq with h | h
      · exact hS.2.2 q h
      · exact hf _ (hL q h)⟩⟩
theorem vx_calli {S SX : Type} {post : Int32 → S → Prop} {px : SX → Prop} {B : S → State → Prop} {BX : String → SX → State → Prop} {AX : Nat → Prop} (hr : vx_Run p l e R s m args below meth c H locs cells slots mc ms (F0 m pc ls st0) rest (va_Qi post B A1 a) (vx_X px BX AX) free) (hS : va_S A0 H0 H locs) (hA : ∀ q, q < H.size → A1 q → A0 q) (hf : ∀ q, free q → A0 q) (hAX : ∀ q, q < H.size → AX q → A0 q)
    (kx : ∀ (E : String) (ce : Cell) (q9 : Addr) (u : SX) (t : State) (H1 : Heap) (locs1 : List Loc), t.heap = H1 → s.vm.Alike t.vm → px u → BX E u t → H.size ≤ H1.size → (∀ q : Nat, q < H.size → ¬ AX q → H1[q]? = H[q]?) → va_S A0 H0 H1 locs1 → H1[q9]? = some ce → ce.vm = .none → s.vm.findClass E = some ce.cls → vx_W p l e R s m args below meth c H1 locs1 (cells + mc) (slots + ms) Q (F0 m pc ls rest) q9)
    (kk : ∀ (r : Int32) (u : S) (t : State) (H1 : Heap) (locs1 : List Loc), t.heap = H1 → s.vm.Alike t.vm → post r u → B u t → H.size ≤ H1.size → (∀ q : Nat, q < H.size → ¬ A1 q → H1[q]? = H[q]?) → va_S A0 H0 H1 locs1 → W p l e R s m args below meth c H1 locs1 (cells + mc) (slots + ms) Q (F0 m (pc + 3) ls (.int r :: rest))) : W p l e R s m args below meth c H locs cells slots Q (F0 m pc ls st0) := by
  intro T hT X
  rcases hr T hT X with ⟨v, st₀, t, T', L, h0, X', hL, e1, e2, ⟨⟨r, u, hv, hp, hb⟩, hF⟩, st⟩ | ⟨q, st₀, t, T', L, E, ce, h0, X', hL, e1, e2, ⟨u, hp, hb, hF⟩, hce, hcv, hcl, st⟩
  · cases hv
    obtain ⟨k1, k2, k3⟩ := vx_keep h0 e1 hS hA hf hL hF
    obtain ⟨t2, a1, b1⟩ := kk r u t T'.heap (locs ++ L) e1.symm (by rw [← e2]; exact X'.warmed.alike) hp hb k1 k2 k3 T' rfl X'
    exact ⟨t2, st t2 a1, b1⟩
  · obtain ⟨k1, k2, k3⟩ := vx_keep h0 e1 hS hAX hf hL hF
    obtain ⟨t2, a1, b1⟩ := kx E ce q u t T'.heap (locs ++ L) e1.symm (by rw [← e2]; exact X'.warmed.alike) hp hb k1 k2 k3 (by rw [e1]; exact hce) hcv hcl T' rfl X'
    exact ⟨t2, st.trans a1, b1⟩
theorem vx_calll {S SX : Type} {post : Int64 → S → Prop} {px : SX → Prop} {B : S → State → Prop} {BX : String → SX → State → Prop} {AX : Nat → Prop} (hr : vx_Run p l e R s m args below meth c H locs cells slots mc ms (F0 m pc ls st0) rest (va_Ql post B A1 a) (vx_X px BX AX) free) (hS : va_S A0 H0 H locs) (hA : ∀ q, q < H.size → A1 q → A0 q) (hf : ∀ q, free q → A0 q) (hAX : ∀ q, q < H.size → AX q → A0 q)
    (kx : ∀ (E : String) (ce : Cell) (q9 : Addr) (u : SX) (t : State) (H1 : Heap) (locs1 : List Loc), t.heap = H1 → s.vm.Alike t.vm → px u → BX E u t → H.size ≤ H1.size → (∀ q : Nat, q < H.size → ¬ AX q → H1[q]? = H[q]?) → va_S A0 H0 H1 locs1 → H1[q9]? = some ce → ce.vm = .none → s.vm.findClass E = some ce.cls → vx_W p l e R s m args below meth c H1 locs1 (cells + mc) (slots + ms) Q (F0 m pc ls rest) q9)
    (kk : ∀ (r : Int64) (u : S) (t : State) (H1 : Heap) (locs1 : List Loc), t.heap = H1 → s.vm.Alike t.vm → post r u → B u t → H.size ≤ H1.size → (∀ q : Nat, q < H.size → ¬ A1 q → H1[q]? = H[q]?) → va_S A0 H0 H1 locs1 → W p l e R s m args below meth c H1 locs1 (cells + mc) (slots + ms) Q (F0 m (pc + 3) ls (.long r :: rest))) : W p l e R s m args below meth c H locs cells slots Q (F0 m pc ls st0) := by
  intro T hT X
  rcases hr T hT X with ⟨v, st₀, t, T', L, h0, X', hL, e1, e2, ⟨⟨r, u, hv, hp, hb⟩, hF⟩, st⟩ | ⟨q, st₀, t, T', L, E, ce, h0, X', hL, e1, e2, ⟨u, hp, hb, hF⟩, hce, hcv, hcl, st⟩
  · cases hv
    obtain ⟨k1, k2, k3⟩ := vx_keep h0 e1 hS hA hf hL hF
    obtain ⟨t2, a1, b1⟩ := kk r u t T'.heap (locs ++ L) e1.symm (by rw [← e2]; exact X'.warmed.alike) hp hb k1 k2 k3 T' rfl X'
    exact ⟨t2, st t2 a1, b1⟩
  · obtain ⟨k1, k2, k3⟩ := vx_keep h0 e1 hS hAX hf hL hF
    obtain ⟨t2, a1, b1⟩ := kx E ce q u t T'.heap (locs ++ L) e1.symm (by rw [← e2]; exact X'.warmed.alike) hp hb k1 k2 k3 (by rw [e1]; exact hce) hcv hcl T' rfl X'
    exact ⟨t2, st.trans a1, b1⟩
theorem vx_callf {S SX : Type} {post : UInt32 → S → Prop} {px : SX → Prop} {B : S → State → Prop} {BX : String → SX → State → Prop} {AX : Nat → Prop} (hr : vx_Run p l e R s m args below meth c H locs cells slots mc ms (F0 m pc ls st0) rest (va_Qf post B A1 a) (vx_X px BX AX) free) (hS : va_S A0 H0 H locs) (hA : ∀ q, q < H.size → A1 q → A0 q) (hf : ∀ q, free q → A0 q) (hAX : ∀ q, q < H.size → AX q → A0 q)
    (kx : ∀ (E : String) (ce : Cell) (q9 : Addr) (u : SX) (t : State) (H1 : Heap) (locs1 : List Loc), t.heap = H1 → s.vm.Alike t.vm → px u → BX E u t → H.size ≤ H1.size → (∀ q : Nat, q < H.size → ¬ AX q → H1[q]? = H[q]?) → va_S A0 H0 H1 locs1 → H1[q9]? = some ce → ce.vm = .none → s.vm.findClass E = some ce.cls → vx_W p l e R s m args below meth c H1 locs1 (cells + mc) (slots + ms) Q (F0 m pc ls rest) q9)
    (kk : ∀ (r : UInt32) (u : S) (t : State) (H1 : Heap) (locs1 : List Loc), t.heap = H1 → s.vm.Alike t.vm → post r u → B u t → H.size ≤ H1.size → (∀ q : Nat, q < H.size → ¬ A1 q → H1[q]? = H[q]?) → va_S A0 H0 H1 locs1 → W p l e R s m args below meth c H1 locs1 (cells + mc) (slots + ms) Q (F0 m (pc + 3) ls (.float r :: rest))) : W p l e R s m args below meth c H locs cells slots Q (F0 m pc ls st0) := by
  intro T hT X
  rcases hr T hT X with ⟨v, st₀, t, T', L, h0, X', hL, e1, e2, ⟨⟨r, u, hv, hp, hb⟩, hF⟩, st⟩ | ⟨q, st₀, t, T', L, E, ce, h0, X', hL, e1, e2, ⟨u, hp, hb, hF⟩, hce, hcv, hcl, st⟩
  · cases hv
    obtain ⟨k1, k2, k3⟩ := vx_keep h0 e1 hS hA hf hL hF
    obtain ⟨t2, a1, b1⟩ := kk r u t T'.heap (locs ++ L) e1.symm (by rw [← e2]; exact X'.warmed.alike) hp hb k1 k2 k3 T' rfl X'
    exact ⟨t2, st t2 a1, b1⟩
  · obtain ⟨k1, k2, k3⟩ := vx_keep h0 e1 hS hAX hf hL hF
    obtain ⟨t2, a1, b1⟩ := kx E ce q u t T'.heap (locs ++ L) e1.symm (by rw [← e2]; exact X'.warmed.alike) hp hb k1 k2 k3 (by rw [e1]; exact hce) hcv hcl T' rfl X'
    exact ⟨t2, st.trans a1, b1⟩
theorem vx_calld {S SX : Type} {post : UInt64 → S → Prop} {px : SX → Prop} {B : S → State → Prop} {BX : String → SX → State → Prop} {AX : Nat → Prop} (hr : vx_Run p l e R s m args below meth c H locs cells slots mc ms (F0 m pc ls st0) rest (va_Qd post B A1 a) (vx_X px BX AX) free) (hS : va_S A0 H0 H locs) (hA : ∀ q, q < H.size → A1 q → A0 q) (hf : ∀ q, free q → A0 q) (hAX : ∀ q, q < H.size → AX q → A0 q)
    (kx : ∀ (E : String) (ce : Cell) (q9 : Addr) (u : SX) (t : State) (H1 : Heap) (locs1 : List Loc), t.heap = H1 → s.vm.Alike t.vm → px u → BX E u t → H.size ≤ H1.size → (∀ q : Nat, q < H.size → ¬ AX q → H1[q]? = H[q]?) → va_S A0 H0 H1 locs1 → H1[q9]? = some ce → ce.vm = .none → s.vm.findClass E = some ce.cls → vx_W p l e R s m args below meth c H1 locs1 (cells + mc) (slots + ms) Q (F0 m pc ls rest) q9)
    (kk : ∀ (r : UInt64) (u : S) (t : State) (H1 : Heap) (locs1 : List Loc), t.heap = H1 → s.vm.Alike t.vm → post r u → B u t → H.size ≤ H1.size → (∀ q : Nat, q < H.size → ¬ A1 q → H1[q]? = H[q]?) → va_S A0 H0 H1 locs1 → W p l e R s m args below meth c H1 locs1 (cells + mc) (slots + ms) Q (F0 m (pc + 3) ls (.double r :: rest))) : W p l e R s m args below meth c H locs cells slots Q (F0 m pc ls st0) := by
  intro T hT X
  rcases hr T hT X with ⟨v, st₀, t, T', L, h0, X', hL, e1, e2, ⟨⟨r, u, hv, hp, hb⟩, hF⟩, st⟩ | ⟨q, st₀, t, T', L, E, ce, h0, X', hL, e1, e2, ⟨u, hp, hb, hF⟩, hce, hcv, hcl, st⟩
  · cases hv
    obtain ⟨k1, k2, k3⟩ := vx_keep h0 e1 hS hA hf hL hF
    obtain ⟨t2, a1, b1⟩ := kk r u t T'.heap (locs ++ L) e1.symm (by rw [← e2]; exact X'.warmed.alike) hp hb k1 k2 k3 T' rfl X'
    exact ⟨t2, st t2 a1, b1⟩
  · obtain ⟨k1, k2, k3⟩ := vx_keep h0 e1 hS hAX hf hL hF
    obtain ⟨t2, a1, b1⟩ := kx E ce q u t T'.heap (locs ++ L) e1.symm (by rw [← e2]; exact X'.warmed.alike) hp hb k1 k2 k3 (by rw [e1]; exact hce) hcv hcl T' rfl X'
    exact ⟨t2, st.trans a1, b1⟩
theorem vx_callv {S SX : Type} {post : S → Prop} {px : SX → Prop} {B : S → State → Prop} {BX : String → SX → State → Prop} {AX : Nat → Prop} (hr : vx_Run p l e R s m args below meth c H locs cells slots mc ms (F0 m pc ls st0) rest (va_Qv post B A1 a) (vx_X px BX AX) free) (hS : va_S A0 H0 H locs) (hA : ∀ q, q < H.size → A1 q → A0 q) (hf : ∀ q, free q → A0 q) (hAX : ∀ q, q < H.size → AX q → A0 q)
    (kx : ∀ (E : String) (ce : Cell) (q9 : Addr) (u : SX) (t : State) (H1 : Heap) (locs1 : List Loc), t.heap = H1 → s.vm.Alike t.vm → px u → BX E u t → H.size ≤ H1.size → (∀ q : Nat, q < H.size → ¬ AX q → H1[q]? = H[q]?) → va_S A0 H0 H1 locs1 → H1[q9]? = some ce → ce.vm = .none → s.vm.findClass E = some ce.cls → vx_W p l e R s m args below meth c H1 locs1 (cells + mc) (slots + ms) Q (F0 m pc ls rest) q9)
    (kk : ∀ (u : S) (t : State) (H1 : Heap) (locs1 : List Loc), t.heap = H1 → s.vm.Alike t.vm → post u → B u t → H.size ≤ H1.size → (∀ q : Nat, q < H.size → ¬ A1 q → H1[q]? = H[q]?) → va_S A0 H0 H1 locs1 → W p l e R s m args below meth c H1 locs1 (cells + mc) (slots + ms) Q (F0 m (pc + 3) ls (rest))) : W p l e R s m args below meth c H locs cells slots Q (F0 m pc ls st0) := by
  intro T hT X
  rcases hr T hT X with ⟨v, st₀, t, T', L, h0, X', hL, e1, e2, ⟨⟨u, hv, hp, hb⟩, hF⟩, st⟩ | ⟨q, st₀, t, T', L, E, ce, h0, X', hL, e1, e2, ⟨u, hp, hb, hF⟩, hce, hcv, hcl, st⟩
  · cases hv
    obtain ⟨k1, k2, k3⟩ := vx_keep h0 e1 hS hA hf hL hF
    obtain ⟨t2, a1, b1⟩ := kk u t T'.heap (locs ++ L) e1.symm (by rw [← e2]; exact X'.warmed.alike) hp hb k1 k2 k3 T' rfl X'
    exact ⟨t2, st t2 a1, b1⟩
  · obtain ⟨k1, k2, k3⟩ := vx_keep h0 e1 hS hAX hf hL hF
    obtain ⟨t2, a1, b1⟩ := kx E ce q u t T'.heap (locs ++ L) e1.symm (by rw [← e2]; exact X'.warmed.alike) hp hb k1 k2 k3 (by rw [e1]; exact hce) hcv hcl T' rfl X'
    exact ⟨t2, st.trans a1, b1⟩
/-- caught by the row x of this method's table; the rows ahead don't take it -/
theorem vx_catch {own name : String} {E : String} {ce : Cell} {q : Addr} (hown : s.vm.findClass own = some m.cls) (pre : List ExceptionTableEntry) (x : ExceptionTableEntry) (suf : List ExceptionTableEntry) (hsplit : c.exceptionTable.toList = pre ++ x :: suf)
    (hpass : ∀ z ∈ pre, covers z pc = false ∨ (z.catchType ≠ 0 ∧ ∃ nm : String, (Cond.classLink own z.catchType nm).before args s = true ∧ va_Nc E nm s)) (hx : covers x pc = true) (h0 : x.catchType ≠ 0)
    (hlink : (Cond.classLink own x.catchType name).before args s = true) (hcast : (Cond.castable E name).before args s = true) (hcell : H[q]? = some ce) (hv : ce.vm = .none) (hcl : s.vm.findClass E = some ce.cls)
    (kk : W p l e R s m args below meth c H locs cells slots Q (F0 m x.handlerPc ls [.ref q])) : vx_W p l e R s m args below meth c H locs cells slots Q (F0 m pc ls rest) q := by
  intro T hT X
  have hpl : e.platform.magicAccessors = ({} : Platform).magicAccessors := by rw [X.admits.platform]
  obtain ⟨c3, c4, hc3, hc4, hasg⟩ := Cond.castable_spec hcast
  cases Option.some.inj (hc3.symm.trans hcl)
  obtain ⟨c5, hc5, hcl5⟩ := Cond.classLink_spec hown hlink e.platform hpl
  cases Option.some.inj (hc4.symm.trans hc5)
  obtain ⟨vm', X', st⟩ := X.thenCaughtThrough q (g := F0 m pc ls rest) rfl (Steps.refl _) (by rw [hT]; exact hcell) (by rw [hv]; rfl) (by obtain ⟨k9, h9, -⟩ := Vm.findClass_spec hcl; exact ⟨k9, h9⟩) pre x suf hsplit
    (fun z hz => by
      rcases hpass z hz with h | ⟨hz0, nm, hl1, hn1⟩
      · exact Or.inl h
      · obtain ⟨c6, hc6, hcl6⟩ := Cond.classLink_spec hown hl1 e.platform hpl
        obtain ⟨a8, b8, h1, h2, h3⟩ := hn1
        cases Option.some.inj (h1.symm.trans hcl)
        cases Option.some.inj (h2.symm.trans hc6)
        exact Or.inr ⟨hz0, _, hcl6, h3⟩) hx (Or.inr ⟨h0, c4, hcl5, hasg⟩)
  obtain ⟨t, a1, b1⟩ := kk (T.setVm vm') hT X'
  exact ⟨t, st.trans a1, b1⟩
end Rows
section Ends
variable {p : Program} {l : Launch} {e : Env} {R : Room} {s : State} {m : MethodId} {args : Array Value} {below : List Frame} {meth : Method} {c : Code} {H : Heap} {locs : List Loc} {cells slots : Nat} {Q : State → Prop}
variable {mc ms : Nat} {free : Addr → Prop} {A0 A1 : Nat → Prop} {H0 : Heap} {a : Array Value} {ls : Array Slot} {st0 rest : List Value}
variable {Qc : Array Value → State → Outcome → State → Prop} {XC : String → State → State → Prop}
/-- what a body that may throw owes at its end -/
def vx_MQ (below : List Frame) (Qc : Array Value → State → Outcome → State → Prop) (XC : String → State → State → Prop) (a : Array Value) (s : State) (mc ms : Nat) (free : Addr → Prop) : State → Prop := fun t =>
  ∃ o, t.status = .running ∧ Ended t below o ∧ vx_Q Qc XC mc ms free a s o t
theorem vx_ret {g : JFrame} {mc ms : Nat} (k : W p l e R s m args below meth c H locs cells slots (MQ below Qc args s mc ms free) g) : W p l e R s m args below meth c H locs cells slots (vx_MQ below Qc XC args s mc ms free) g := by
  intro T hT X
  obtain ⟨t, a1, o, b1, b2, b3, b4⟩ := k T hT X
  exact ⟨t, a1, o, b1, b2, Or.inl ⟨b3, b4⟩⟩
/-- not caught here: it goes on to the caller -/
theorem vx_widen {g : JFrame} {q : Addr} {k n : Nat} (h1 : cells ≤ k) (h2 : slots ≤ n) (kk : vx_W p l e R s m args below meth c H locs k n Q g q) : vx_W p l e R s m args below meth c H locs cells slots Q g q := fun T hT X => kk T hT (stand_widen X h1 h2)
theorem vx_out {pc : Nat} {E : String} {ce : Cell} {q : Addr} {mc ms : Nat} (hout : ∀ x ∈ c.exceptionTable.toList, covers x pc = false) (hlocks : meth.locks = false) (hcell : H[q]? = some ce) (hv : ce.vm = .none) (hcl : s.vm.findClass E = some ce.cls)
    (hx : ∀ t : State, t.heap = H → s.vm.Alike t.vm → XC E s t) (hf : ∀ z ∈ locs, free z.base) (hc : cells ≤ mc) (hs : slots ≤ ms) :
    vx_W p l e R s m args below meth c H locs cells slots (vx_MQ below Qc XC args s mc ms free) (F0 m pc ls rest) q := by
  intro T hT X
  obtain ⟨st1, hrun, hend, hW, hsm⟩ := X.leaveThrown q (g := F0 m pc ls rest) rfl rfl rfl hout hlocks
  have hcell9 : (T.setFrames (.throwing q :: below)).heap[q]? = some ce := by
    show T.heap[q]? = some ce
    rw [hT]; exact hcell
  exact ⟨_, st1, .threw q, hrun, hend, Or.inr ⟨q, rfl, E, ce, locs, hx _ hT hW.alike, hcell9, hv, hcl, hW, hsm.mono hc hs, hf⟩⟩
theorem vx_frame {U : State} {k n : Nat} (h : s.sameButNew ({ U with vm := s.vm } : State) locs k n) : s.heap.size ≤ U.heap.size ∧ ∀ q : Nat, q < s.heap.size → (∀ z ∈ locs, z.base ≠ q) → U.heap[q]? = s.heap[q]? := by
  obtain ⟨-, h2, -, -, -, h6⟩ := h
  refine ⟨h2, fun q hq hz => ?_⟩
  obtain ⟨c9, e1, e2, e3, e4⟩ := h6 q _ (Array.getElem?_eq_getElem hq)
  have hs : c9.slots = (s.heap[q]).slots := Array.ext_getElem? fun i => e4 i fun hm => hz _ hm rfl
  have h9 : c9 = s.heap[q] := by
    rw [hs] at e2
    exact e2
  have e5 : U.heap[q]? = some c9 := e1
  rw [e5, h9, Array.getElem?_eq_getElem hq]
/-- the words of a throw but the four that speak of the heap -/
def vx_no (w : Cond) : Bool := decide (w ≠ .isRef (.static Bundle.tN "UNASSIGNED_STACK" Bundle.steD)) && decide (w ≠ .isRef (.static Bundle.tN "SUPPRESSED_SENTINEL" Bundle.listD)) && decide (w ≠ .laysStatic Bundle.tN "UNASSIGNED_STACK" Bundle.steD) && decide (w ≠ .laysStatic Bundle.tN "SUPPRESSED_SENTINEL" Bundle.listD)
def vx_at0 (own : String) (ic : Nat) (X : String) (names : List String) : List Cond := (Bundle.ownAtoms0 own ic X names).filter vx_no
def vx_atS (own : String) (ic : Nat) (X : String) (names : List String) : List Cond := (Bundle.ownAtoms own ic X names).filter vx_no
/-- a word that the tables alone decide, or a good one -/
def vx_ot (w : Cond) : Bool := w.onTables || goodWord w
theorem vx_ot_at {args a' : Array Value} {s U : State} {w : Cond} (hW : s.WarmedH U.vm) (hvm : s.vm = U.vm) (hg : vx_ot w = true) (h : w.before args s = true) : w.before a' U = true := by
  simp only [vx_ot, Bool.or_eq_true] at hg
  rcases hg with hg | hg
  · exact va_tabs hg hvm h
  · exact word_at hW (good_of_word hg) h
/-- a list's words: the good ones out of the method's own list, the others by premises of their own -/
theorem vx_hat {args : Array Value} {s : State} {L B : List Cond} (h1 : ∀ w ∈ L.filter goodWord, w.before args s = true) (h2 : ∀ w ∈ L.filter (fun w => !goodWord w), w ∈ B) (h3 : ∀ w ∈ B, w.before args s = true) : ∀ w ∈ L, w.before args s = true := by
  intro w hw
  by_cases g : goodWord w = true
  · exact h1 w (List.mem_filter.mpr ⟨hw, g⟩)
  · refine h3 w (h2 w (List.mem_filter.mpr ⟨hw, ?_⟩))
    show (!goodWord w) = true
    cases hgw : goodWord w
    · rfl
    · exact absurd hgw g
theorem vx_c {args : Array Value} {s : State} {w : Cond} {B : List Cond} (h : w.before args s = true) (t : ∀ w ∈ B, w.before args s = true) : ∀ w' ∈ w :: B, w'.before args s = true := fun w' h' => (List.mem_cons.mp h').elim (fun e => by rw [e]; exact h) (t w')
theorem vx_n {args : Array Value} {s : State} : ∀ w ∈ ([] : List Cond), w.before args s = true := fun _ h => nomatch h
theorem vx_own {args : Array Value} {s : State} {L : List Cond} (h1 : ∀ w ∈ L.filter vx_no, w.before args s = true)
    (hU : (Cond.isRef (.static Bundle.tN "UNASSIGNED_STACK" Bundle.steD)).before args s = true) (hN : (Cond.isRef (.static Bundle.tN "SUPPRESSED_SENTINEL" Bundle.listD)).before args s = true)
    (lU : (Cond.laysStatic Bundle.tN "UNASSIGNED_STACK" Bundle.steD).before args s = true) (lN : (Cond.laysStatic Bundle.tN "SUPPRESSED_SENTINEL" Bundle.listD).before args s = true) : ∀ w ∈ L, w.before args s = true := by
  intro w hw
  by_cases e1 : w = .isRef (.static Bundle.tN "UNASSIGNED_STACK" Bundle.steD)
  · rw [e1]; exact hU
  · by_cases e2 : w = .isRef (.static Bundle.tN "SUPPRESSED_SENTINEL" Bundle.listD)
    · rw [e2]; exact hN
    · by_cases e3 : w = .laysStatic Bundle.tN "UNASSIGNED_STACK" Bundle.steD
      · rw [e3]; exact lU
      · by_cases e4 : w = .laysStatic Bundle.tN "SUPPRESSED_SENTINEL" Bundle.listD
        · rw [e4]; exact lN
        · exact h1 w (List.mem_filter.mpr ⟨hw, by unfold vx_no; rw [decide_eq_true e1, decide_eq_true e2, decide_eq_true e3, decide_eq_true e4]; rfl⟩)
/-- where a static field lies, its class's statics cell in H -/
def vx_L (C n d : String) (A : Nat → Prop) (U : State) (H : Heap) : Prop := ∃ (c : ClassId) (k : Class) (i : Nat) (f : Field) (a : Nat) (cell : Cell), U.vm.findClass C = some c ∧ U.fieldFound? C n d = some (c, k, i, f) ∧ f.isStatic = true ∧ k.statics = some a ∧ H[a]? = some cell ∧ cell.vm.isStatics = true ∧ cell.cls = c ∧ f.slot < cell.slots.size ∧ k.staticTypes[f.slot]? = some f.type ∧ ¬ A a
theorem vx_L.moved {C n d : String} {A : Nat → Prop} {u U : State} {H : Heap} (hvm : u.vm.Alike U.vm) (h : vx_L C n d A u H) : vx_L C n d A U H := by
  obtain ⟨c, k, i, f, a, cell, h1, h2, h3, h4, h5, h6, h7, h8, h9, h10⟩ := h
  obtain ⟨k', hi', he⟩ := State.fieldFound?_setVm hvm h2
  exact ⟨c, k', i, f, a, cell, by rw [hvm.findClass]; exact h1, hi', h3, by rw [he]; exact h4, h5, h6, h7, h8, by rw [he]; exact h9, h10⟩
theorem vx_L.kept {C n d : String} {A : Nat → Prop} {U : State} {H H1 : Heap} (h : vx_L C n d A U H) (hq : ∀ a : Nat, a < H.size → ¬ A a → H1[a]? = H[a]?) : vx_L C n d A U H1 := by
  obtain ⟨c, k, i, f, a, cell, h1, h2, h3, h4, h5, h6, h7, h8, h9, h10⟩ := h
  exact ⟨c, k, i, f, a, cell, h1, h2, h3, h4, by rw [hq a (Array.getElem?_eq_some_iff.mp h5).1 h10]; exact h5, h6, h7, h8, h9, h10⟩
theorem vx_L.narrow {C n d : String} {A B : Nat → Prop} {U : State} {H : Heap} (h : vx_L C n d A U H) (hAB : ∀ q, B q → A q) : vx_L C n d B U H := by
  obtain ⟨c, k, i, f, a, cell, h1, h2, h3, h4, h5, h6, h7, h8, h9, h10⟩ := h
  exact ⟨c, k, i, f, a, cell, h1, h2, h3, h4, h5, h6, h7, h8, h9, fun z => h10 (hAB _ z)⟩
theorem vx_L.word {C n d : String} {A : Nat → Prop} {s : State} {args : Array Value} (h : vx_L C n d A s s.heap) : (Cond.laysStatic C n d).before args s = true := by
  obtain ⟨c, k, i, f, a, cell, h1, h2, h3, h4, h5, h6, h7, h8, h9, -⟩ := h
  show (Cond.laysStatic C n d).holds args s none s [] = true
  exact Cond.laysStatic_of h1 h2 h3 h4 h5 h6 h7 h8 h9
/-- .. and what it holds: null or some reference -/
def vx_Zq (C n d : String) (A : Nat → Prop) (U : State) (H : Heap) : Prop := va_Zq C n d A U H ∧ vx_L C n d A U H
theorem vx_Zq.moved {C n d : String} {A : Nat → Prop} {u U : State} {H : Heap} (hvm : u.vm.Alike U.vm) (h : vx_Zq C n d A u H) : vx_Zq C n d A U H := ⟨va_Zq.moved hvm h.1, vx_L.moved hvm h.2⟩
theorem vx_Zq.kept {C n d : String} {A : Nat → Prop} {U : State} {H H1 : Heap} (h : vx_Zq C n d A U H) (hq : ∀ a : Nat, a < H.size → ¬ A a → H1[a]? = H[a]?) : vx_Zq C n d A U H1 := ⟨va_Zq.kept h.1 hq, vx_L.kept h.2 hq⟩
theorem vx_Zq.narrow {C n d : String} {A B : Nat → Prop} {U : State} {H : Heap} (h : vx_Zq C n d A U H) (hAB : ∀ q, B q → A q) : vx_Zq C n d B U H := ⟨va_Zq.narrow h.1 hAB, vx_L.narrow h.2 hAB⟩
theorem vx_Zqof {args : Array Value} {s : State} {C n d : String} {A : Nat → Prop} (hl : (Cond.laysStatic C n d).before args s = true) (hini : (Cond.initialized C).before args s = true) (h : (Cond.isRef (.static C n d)).before args s = true) (hA : ∀ a : Nat, a < s.heap.size → ¬ A a) : vx_Zq C n d A s s.heap := by
  refine ⟨va_Zqof hl hini h hA, ?_⟩
  obtain ⟨c, k, i, f, a, cell, h1, h2, h3, h4, h5, h6, h7, h8, h9⟩ := Cond.laysStatic_spec hl
  exact ⟨c, k, i, f, a, cell, h1, h2, h3, h4, h5, h6, h7, h8, h9, hA a (Array.getElem?_eq_some_iff.mp h5).1⟩
theorem vx_isRef {C n d : String} {v : Value} {A : Nat → Prop} {s : State} {args : Array Value} (h : va_Z C n d v A s s.heap) (hv : v.isRef = true) : (Cond.isRef (.static C n d)).before args s = true := by
  obtain ⟨cf, kf, fi, f, a, cell, h1, h2, h3, h4, h5, h6, h7, -⟩ := h
  have he : (Term.static C n d).eval args s none [] s = some v := by
    simp [Term.eval, State.fieldNamed?, h1, h2, h4, h5, h6, h7]
  simp only [Cond.before, Cond.holds, Cond.value, he]
  cases v <;> simp_all [Value.isRef]
theorem vx_isRefq {C n d : String} {A : Nat → Prop} {s : State} {args : Array Value} (h : va_Zq C n d A s s.heap) : (Cond.isRef (.static C n d)).before args s = true := by
  rcases h with h | ⟨t, h⟩
  · exact vx_isRef h rfl
  · exact vx_isRef h rfl
/-- the same frame, seen from here: as if the method were called anew in this heap -/
theorem vx_rebase {T : State} (X : Stand p l e R s m args below meth c T locs cells slots) {R' : Room} (hf : R'.frames ≤ R.frames) (hl : R'.locals ≤ R.locals) (hc : cells + R'.cells ≤ R.cells) (hs : slots + R'.slots ≤ R.slots) :
    Stand p l e R' ((T.setVm s.vm).setFrames (.invoking m args :: below)) m args below meth c T [] 0 0 := by
  have htop : (T.setVm s.vm).topJava?.isSome := X.here.top
  have hF : ((T.setVm s.vm).setFrames (.invoking m args :: below)).frames = .invoking m args :: below := State.frames_setFrames _ (State.cur_lt_of_top htop)
  obtain ⟨g₀, hg0⟩ := Option.isSome_iff_exists.mp htop
  obtain ⟨r, hr⟩ := State.topJava?_eq_some.mp hg0
  have hl9 : e.platform.stackLimits (T.setVm s.vm).me = e.platform.stackLimits s.me := X.limits
  have hb9 : (T.setVm s.vm).me.stackBytes = s.me.stackBytes := X.bytes
  refine ⟨X.admits, X.cas, X.clock, hF, ?_, X.hears, X.method, X.code, X.here, X.tail, X.warmed, ?_, ?_, ?_⟩
  · have h := X.room
    have hU : ((T.setVm s.vm).setFrames (.invoking m args :: below)).localsInUse = s.localsInUse := by
      rw [State.localsInUse_invoking hF (meth := meth) (c := c) X.method X.code, State.localsInUse_invoking X.frames X.method X.code]
    simp only [State.hasRoom, Bool.and_eq_true, decide_eq_true_eq] at h ⊢
    obtain ⟨⟨⟨⟨h1, h2, h3, h4, h5, h6⟩, h7⟩, h8⟩, h9⟩ := h
    rw [X.frames, List.length_cons] at h2 h3
    have q1 := X.heapSize
    have q2 := X.used
    simp only [hF, hU, List.length_cons, State.stackLimits_setFrames, State.stackBytes_setFrames, hl9, hb9]
    refine ⟨⟨⟨⟨by omega, by omega, by omega, by omega, by omega, h6⟩, ?_⟩, ?_⟩, X.book⟩
    · show T.heap.size + R'.cells ≤ e.platform.maxCells
      omega
    · show T.slotsUsed + R'.slots ≤ e.platform.maxSlots
      omega
  · rw [State.stackLimits_setFrames]; rfl
  · rw [State.stackBytes_setFrames]; rfl
  · refine ⟨?_, Nat.le_refl _, Nat.le_refl _, ?_, ?_, fun a c9 h9 => ⟨c9, h9, rfl, rfl, fun _ _ => rfl⟩⟩
    · obtain ⟨t, ht, -⟩ := State.frames_cons hr
      show T.setVm s.vm = { ((T.setVm s.vm).setFrames (.invoking m args :: below)).setFrames (T.setVm s.vm).frames with heap := T.heap, slotsUsed := T.slotsUsed }
      rw [State.setFrames_setFrames, State.setFrames_self ht]
      rfl
    · show T.slotsUsed = T.slotsUsed + ((T.heap.toList.drop T.heap.size).map (·.slots.size)).sum
      rw [List.drop_eq_nil_of_le (Nat.le_of_eq Array.length_toList)]
      rfl
    · show ((T.heap.toList.drop T.heap.size).map (·.slots.size)).sum ≤ 0
      rw [List.drop_eq_nil_of_le (Nat.le_of_eq Array.length_toList)]
      exact Nat.le_refl _
/-- 'throw new E()': new; dup; invokespecial; athrow -/
theorem vx_throw0 {cc : ByteArray} {pc : Nat} (hexec : p.tables.exec = Jvm.exec) (hb : c.code = cc) (hl : l.stackTraces = false) {own cls : String} {names : List String} {ik ic mc ms : Nat} {A : Nat → Prop}
    (hown : s.vm.findClass own = some m.cls) (hcls : Bundle.fit cls = true) (hnames : ∀ n ∈ names, Bundle.fit n = true)
    (hk : (Cond.classLink own ik cls).before args s = true) (hini : (Cond.initialized cls).before args s = true) (hat : ∀ w ∈ vx_at0 own ic cls names, w.before args s = true)
    (hgood : ∀ w ∈ Cond.classLink own ik cls :: Cond.initialized cls :: vx_at0 own ic cls names, vx_ot w = true)
    (hU : vx_Zq Bundle.tN "UNASSIGNED_STACK" Bundle.steD A s s.heap) (hN : vx_Zq Bundle.tN "SUPPRESSED_SENTINEL" Bundle.listD A s s.heap) (hS : va_S A s.heap H locs) (hsize : ls.size = c.maxLocals)
    (d0 : decode cc pc = .ok (.new ik, 3)) (d3 : decode cc (pc + 3) = .ok (.dup, 1)) (d4 : decode cc (pc + 4) = .ok (.invokespecial ic, 3)) (d7 : decode cc (pc + 7) = .ok (.athrow, 1))
    (hout : ∀ x ∈ c.exceptionTable.toList, covers x (pc + 7) = false)
    (hRframes : names.length + 3 < R.frames) (hRlocals : (rest.map fun v => v.category).sum + (13 * (names.length + 1) + 42) ≤ R.locals) (hRcells : cells + 1 ≤ R.cells) (hRslots : slots + 6 ≤ R.slots) (hlocks : meth.locks = false)
    (hx : ∀ t : State, s.vm.Alike t.vm → H.size ≤ t.heap.size → (∀ q : Nat, q < H.size → t.heap[q]? = H[q]?) → XC cls s t)
    (hf : ∀ z ∈ locs, free z.base) (hc : cells + 1 ≤ mc) (hs : slots + 6 ≤ ms) :
    W p l e R s m args below meth c H locs cells slots (vx_MQ below Qc XC args s mc ms free) (F0 m pc ls rest) := by
  intro T hT X
  have htr : e.platform.stackTraces = false := (show e.platform.stackTraces = l.stackTraces by rw [X.admits.platform]).trans hl
  have Y := vx_rebase X (R' := { frames := R.frames, locals := R.locals, cells := 1, slots := 6 }) (Nat.le_refl _) (Nat.le_refl _) hRcells hRslots
  obtain ⟨s', hA⟩ : ∃ z, z = (T.setVm s.vm).setFrames (.invoking m args :: below) := ⟨_, rfl⟩
  rw [← hA] at Y
  have hvm : s'.vm = s.vm := by rw [hA]; rfl
  have hhp : s'.heap = H := by rw [hA]; exact hT
  have hW0 : s.WarmedH s'.vm := by rw [hvm]; exact State.WarmedH.refl s
  have hat' : ∀ w ∈ vx_at0 own ic cls names, w.before args s' = true := fun w hw => vx_ot_at hW0 hvm.symm (hgood w (List.mem_cons_of_mem _ (List.mem_cons_of_mem _ hw))) (hat w hw)
  have hk' : (Cond.classLink own ik cls).before args s' = true := vx_ot_at hW0 hvm.symm (hgood _ List.mem_cons_self) hk
  have hini' : (Cond.initialized cls).before args s' = true := vx_ot_at hW0 hvm.symm (hgood _ (List.mem_cons_of_mem _ List.mem_cons_self)) hini
  have hU' : vx_Zq Bundle.tN "UNASSIGNED_STACK" Bundle.steD A s' s'.heap := by rw [hhp]; exact vx_Zq.moved hW0.alike (hU.kept hS.2.1)
  have hN' : vx_Zq Bundle.tN "SUPPRESSED_SENTINEL" Bundle.listD A s' s'.heap := by rw [hhp]; exact vx_Zq.moved hW0.alike (hN.kept hS.2.1)
  have h : ∀ w ∈ Bundle.ownAtoms0 own ic cls names, w.before args s' = true := vx_own hat' (vx_isRefq hU'.1) (vx_isRefq hN'.1) hU'.2.word hN'.2.word
  have hown' : s'.vm.findClass own = some m.cls := by rw [hvm]; exact hown
  have hins : (Cond.instantiable cls 6).before args s' = true := h _ (by simp [Bundle.ownAtoms0])
  obtain ⟨vm₁, cX, kX, hfX, hkX, -, -, X₁, st1⟩ := Y.newCold hexec (own := own) (C := cls) (index := ik) (n := 6) hown' hk' hins hini'
    (g := F0 m pc ls rest) rfl (by rw [hb]; exact d0) (Nat.le_refl _) (Nat.le_refl _)
  generalize hT1 : (T.setVm vm₁).pushCell { cls := cX, slots := kX.instanceTypes.map defaultValue, vm := .none } = T1 at X₁ st1
  have hcat : (Value.ref T.heap.size).category = 1 := rfl
  have hcellA : T1.heap[T.heap.size]? = some (freshCell cX kX) := by rw [← hT1]; exact State.heap_pushCell_size _ _
  have d3' : decode c.code (pc + 3) = .ok (.dup, 1) := by rw [hb]; exact d3
  obtain ⟨U, hsteps, hrun, hend, hW, hsame, ce, hce, hO⟩ := X₁.ctorThrow0 hexec htr (own := own) (cls := cls) (names := names) (ic := ic) hown' hcls hnames h (fun x hx => nomatch hx) hfX hkX hcellA (by rw [hhp, hT]; exact Nat.le_refl _)
    (g := { method := m, pc := pc + 4, locals := ls, stack := .ref T.heap.size :: .ref T.heap.size :: rest, locked := none }) rfl hsize rfl rfl (rest := rest) rfl
    (by rw [hb]; exact d4) (by rw [hb]; exact d7) hout hRframes (by simp only [List.map_cons, List.sum_cons, hcat]; omega) hlocks
  obtain ⟨f1, f2⟩ := vx_frame hsame
  rw [hhp] at f1 f2
  have hWs : s.WarmedH U.vm := State.WarmedH.trans hW0 hW
  have hcl : s.vm.findClass cls = some ce.cls := by
    have h9 := hO.cls
    rw [hvm] at h9
    exact h9
  have hall : s.sameButNew ({ U with vm := s.vm } : State) locs mc ms := by
    subst hA
    obtain ⟨e1, e2⟩ := hsame
    rw [State.setFrames_setFrames] at e1
    have h2 : (T.setVm s.vm).sameButNew ({ U with vm := s.vm } : State) [] (0 + 1) (0 + 6) := ⟨e1, e2⟩
    have h3 := X.same.trans h2
    rw [List.append_nil] at h3
    exact h3.mono hc hs
  refine ⟨U, ?_, .threw T.heap.size, hrun, hend, Or.inr ⟨T.heap.size, rfl, cls, ce, locs, hx U hWs.alike f1 (fun q hq => f2 q hq (fun z hz => nomatch hz)), hce, hO.vm, hcl, hWs, hall, hf⟩⟩
  refine st1 _ ?_
  show Steps p.tables e below (T1.setTop { method := m, pc := pc + 3, locals := ls, stack := .ref T.heap.size :: rest, locked := none }) _
  jvm_step X₁.here [X₁.here.top, hexec, d3', Value.category]
  exact hsteps
/-- 'throw new E("text")': new; dup; ldc; invokespecial; athrow -/
theorem vx_throwS {cc : ByteArray} {pc : Nat} (hexec : p.tables.exec = Jvm.exec) (hb : c.code = cc) (hl : l.stackTraces = false) {own cls text : String} {names : List String} {ik is ic mc ms sa : Nat} {A : Nat → Prop}
    (hown : s.vm.findClass own = some m.cls) (hcls : Bundle.fit cls = true) (hnames : ∀ n ∈ names, Bundle.fit n = true)
    (hk : (Cond.classLink own ik cls).before args s = true) (hini : (Cond.initialized cls).before args s = true) (hstr : vk_R own is text sa s) (hat : ∀ w ∈ vx_atS own ic cls names, w.before args s = true)
    (hgood : ∀ w ∈ Cond.classLink own ik cls :: Cond.initialized cls :: vx_atS own ic cls names, vx_ot w = true)
    (hU : vx_Zq Bundle.tN "UNASSIGNED_STACK" Bundle.steD A s s.heap) (hN : vx_Zq Bundle.tN "SUPPRESSED_SENTINEL" Bundle.listD A s s.heap) (hS : va_S A s.heap H locs) (hsize : ls.size = c.maxLocals)
    (d0 : decode cc pc = .ok (.new ik, 3)) (d3 : decode cc (pc + 3) = .ok (.dup, 1)) (d4 : decode cc (pc + 4) = .ok (.ldc is, 2)) (d6 : decode cc (pc + 6) = .ok (.invokespecial ic, 3)) (d9 : decode cc (pc + 9) = .ok (.athrow, 1))
    (hout : ∀ x ∈ c.exceptionTable.toList, covers x (pc + 9) = false)
    (hRframes : names.length + 3 < R.frames) (hRlocals : (rest.map fun v => v.category).sum + (13 * (names.length + 1) + 43) ≤ R.locals) (hRcells : cells + 1 ≤ R.cells) (hRslots : slots + 6 ≤ R.slots) (hlocks : meth.locks = false)
    (hx : ∀ t : State, s.vm.Alike t.vm → H.size ≤ t.heap.size → (∀ q : Nat, q < H.size → t.heap[q]? = H[q]?) → XC cls s t)
    (hf : ∀ z ∈ locs, free z.base) (hc : cells + 1 ≤ mc) (hs : slots + 6 ≤ ms) :
    W p l e R s m args below meth c H locs cells slots (vx_MQ below Qc XC args s mc ms free) (F0 m pc ls rest) := by
  intro T hT X
  have htr : e.platform.stackTraces = false := (show e.platform.stackTraces = l.stackTraces by rw [X.admits.platform]).trans hl
  have Y := vx_rebase X (R' := { frames := R.frames, locals := R.locals, cells := 1, slots := 6 }) (Nat.le_refl _) (Nat.le_refl _) hRcells hRslots
  obtain ⟨s', hA⟩ : ∃ z, z = (T.setVm s.vm).setFrames (.invoking m args :: below) := ⟨_, rfl⟩
  rw [← hA] at Y
  have hvm : s'.vm = s.vm := by rw [hA]; rfl
  have hhp : s'.heap = H := by rw [hA]; exact hT
  have hW0 : s.WarmedH s'.vm := by rw [hvm]; exact State.WarmedH.refl s
  have hat' : ∀ w ∈ vx_atS own ic cls names, w.before args s' = true := fun w hw => vx_ot_at hW0 hvm.symm (hgood w (List.mem_cons_of_mem _ (List.mem_cons_of_mem _ hw))) (hat w hw)
  have hk' : (Cond.classLink own ik cls).before args s' = true := vx_ot_at hW0 hvm.symm (hgood _ List.mem_cons_self) hk
  have hini' : (Cond.initialized cls).before args s' = true := vx_ot_at hW0 hvm.symm (hgood _ (List.mem_cons_of_mem _ List.mem_cons_self)) hini
  have hU' : vx_Zq Bundle.tN "UNASSIGNED_STACK" Bundle.steD A s' s'.heap := by rw [hhp]; exact vx_Zq.moved hW0.alike (hU.kept hS.2.1)
  have hN' : vx_Zq Bundle.tN "SUPPRESSED_SENTINEL" Bundle.listD A s' s'.heap := by rw [hhp]; exact vx_Zq.moved hW0.alike (hN.kept hS.2.1)
  have h : ∀ w ∈ Bundle.ownAtoms own ic cls names, w.before args s' = true := vx_own hat' (vx_isRefq hU'.1) (vx_isRefq hN'.1) hU'.2.word hN'.2.word
  have hown' : s'.vm.findClass own = some m.cls := by rw [hvm]; exact hown
  have hins : (Cond.instantiable cls 6).before args s' = true := h _ (by simp [Bundle.ownAtoms])
  obtain ⟨vm₁, cX, kX, hfX, hkX, -, -, X₁, st1⟩ := Y.newCold hexec (own := own) (C := cls) (index := ik) (n := 6) hown' hk' hins hini'
    (g := F0 m pc ls rest) rfl (by rw [hb]; exact d0) (Nat.le_refl _) (Nat.le_refl _)
  generalize hT1 : (T.setVm vm₁).pushCell { cls := cX, slots := kX.instanceTypes.map defaultValue, vm := .none } = T1 at X₁ st1
  have hcat : (Value.ref T.heap.size).category = 1 := rfl
  have hcellA : T1.heap[T.heap.size]? = some (freshCell cX kX) := by rw [← hT1]; exact State.heap_pushCell_size _ _
  have d3' : decode c.code (pc + 3) = .ok (.dup, 1) := by rw [hb]; exact d3
  have d4' : decode c.code (pc + 4) = .ok (.ldc is, 2) := by rw [hb]; exact d4
  have hstr' : vk_R own is text sa s' := vk_R.warm hW0 hstr
  obtain ⟨U, hsteps, hrun, hend, hW, hsame, ce, hce, hO⟩ := X₁.ctorThrowS hexec htr (own := own) (cls := cls) (names := names) (ic := ic) hown' hcls hnames h (fun x hx => nomatch hx) hfX hkX hcellA (by rw [hhp, hT]; exact Nat.le_refl _) (msg := .ref sa) rfl
    (g := { method := m, pc := pc + 6, locals := ls, stack := .ref sa :: .ref T.heap.size :: .ref T.heap.size :: rest, locked := none }) rfl hsize rfl rfl (rest := rest) rfl
    (by rw [hb]; exact d6) (by rw [hb]; exact d9) hout hRframes (by simp only [List.map_cons, List.sum_cons, hcat]; omega) hlocks
  obtain ⟨f1, f2⟩ := vx_frame hsame
  rw [hhp] at f1 f2
  have hWs : s.WarmedH U.vm := State.WarmedH.trans hW0 hW
  have hcl : s.vm.findClass cls = some ce.cls := by
    have h9 := hO.cls
    rw [hvm] at h9
    exact h9
  have hall : s.sameButNew ({ U with vm := s.vm } : State) locs mc ms := by
    subst hA
    obtain ⟨e1, e2⟩ := hsame
    rw [State.setFrames_setFrames] at e1
    have h2 : (T.setVm s.vm).sameButNew ({ U with vm := s.vm } : State) [] (0 + 1) (0 + 6) := ⟨e1, e2⟩
    have h3 := X.same.trans h2
    rw [List.append_nil] at h3
    exact h3.mono hc hs
  refine ⟨U, ?_, .threw T.heap.size, hrun, hend, Or.inr ⟨T.heap.size, rfl, cls, ce, locs, hx U hWs.alike f1 (fun q hq => f2 q hq (fun z hz => nomatch hz)), hce, hO.vm, hcl, hWs, hall, hf⟩⟩
  refine st1 _ ?_
  show Steps p.tables e below (T1.setTop { method := m, pc := pc + 3, locals := ls, stack := .ref T.heap.size :: rest, locked := none }) _
  jvm_step X₁.here [X₁.here.top, hexec, d3', Value.category]
  exact X₁.ldcString hexec (own := own) (text := text) (index := is) (a := sa) hown' hstr'.1 hstr'.2
    (g := { method := m, pc := pc + 4, locals := ls, stack := .ref T.heap.size :: .ref T.heap.size :: rest, locked := none }) rfl d4' _ hsteps
/-- 'throw new E("text")', the text by a wide index -/
theorem vx_throwSW {cc : ByteArray} {pc : Nat} (hexec : p.tables.exec = Jvm.exec) (hb : c.code = cc) (hl : l.stackTraces = false) {own cls text : String} {names : List String} {ik is ic mc ms sa : Nat} {A : Nat → Prop}
    (hown : s.vm.findClass own = some m.cls) (hcls : Bundle.fit cls = true) (hnames : ∀ n ∈ names, Bundle.fit n = true)
    (hk : (Cond.classLink own ik cls).before args s = true) (hini : (Cond.initialized cls).before args s = true) (hstr : vk_R own is text sa s) (hat : ∀ w ∈ vx_atS own ic cls names, w.before args s = true)
    (hgood : ∀ w ∈ Cond.classLink own ik cls :: Cond.initialized cls :: vx_atS own ic cls names, vx_ot w = true)
    (hU : vx_Zq Bundle.tN "UNASSIGNED_STACK" Bundle.steD A s s.heap) (hN : vx_Zq Bundle.tN "SUPPRESSED_SENTINEL" Bundle.listD A s s.heap) (hS : va_S A s.heap H locs) (hsize : ls.size = c.maxLocals)
    (d0 : decode cc pc = .ok (.new ik, 3)) (d3 : decode cc (pc + 3) = .ok (.dup, 1)) (d4 : decode cc (pc + 4) = .ok (.ldc_w is, 3)) (d7 : decode cc (pc + 7) = .ok (.invokespecial ic, 3)) (d10 : decode cc (pc + 10) = .ok (.athrow, 1))
    (hout : ∀ x ∈ c.exceptionTable.toList, covers x (pc + 10) = false)
    (hRframes : names.length + 3 < R.frames) (hRlocals : (rest.map fun v => v.category).sum + (13 * (names.length + 1) + 43) ≤ R.locals) (hRcells : cells + 1 ≤ R.cells) (hRslots : slots + 6 ≤ R.slots) (hlocks : meth.locks = false)
    (hx : ∀ t : State, s.vm.Alike t.vm → H.size ≤ t.heap.size → (∀ q : Nat, q < H.size → t.heap[q]? = H[q]?) → XC cls s t)
    (hf : ∀ z ∈ locs, free z.base) (hc : cells + 1 ≤ mc) (hs : slots + 6 ≤ ms) :
    W p l e R s m args below meth c H locs cells slots (vx_MQ below Qc XC args s mc ms free) (F0 m pc ls rest) := by
  intro T hT X
  have htr : e.platform.stackTraces = false := (show e.platform.stackTraces = l.stackTraces by rw [X.admits.platform]).trans hl
  have Y := vx_rebase X (R' := { frames := R.frames, locals := R.locals, cells := 1, slots := 6 }) (Nat.le_refl _) (Nat.le_refl _) hRcells hRslots
  obtain ⟨s', hA⟩ : ∃ z, z = (T.setVm s.vm).setFrames (.invoking m args :: below) := ⟨_, rfl⟩
  rw [← hA] at Y
  have hvm : s'.vm = s.vm := by rw [hA]; rfl
  have hhp : s'.heap = H := by rw [hA]; exact hT
  have hW0 : s.WarmedH s'.vm := by rw [hvm]; exact State.WarmedH.refl s
  have hat' : ∀ w ∈ vx_atS own ic cls names, w.before args s' = true := fun w hw => vx_ot_at hW0 hvm.symm (hgood w (List.mem_cons_of_mem _ (List.mem_cons_of_mem _ hw))) (hat w hw)
  have hk' : (Cond.classLink own ik cls).before args s' = true := vx_ot_at hW0 hvm.symm (hgood _ List.mem_cons_self) hk
  have hini' : (Cond.initialized cls).before args s' = true := vx_ot_at hW0 hvm.symm (hgood _ (List.mem_cons_of_mem _ List.mem_cons_self)) hini
  have hU' : vx_Zq Bundle.tN "UNASSIGNED_STACK" Bundle.steD A s' s'.heap := by rw [hhp]; exact vx_Zq.moved hW0.alike (hU.kept hS.2.1)
  have hN' : vx_Zq Bundle.tN "SUPPRESSED_SENTINEL" Bundle.listD A s' s'.heap := by rw [hhp]; exact vx_Zq.moved hW0.alike (hN.kept hS.2.1)
  have h : ∀ w ∈ Bundle.ownAtoms own ic cls names, w.before args s' = true := vx_own hat' (vx_isRefq hU'.1) (vx_isRefq hN'.1) hU'.2.word hN'.2.word
  have hown' : s'.vm.findClass own = some m.cls := by rw [hvm]; exact hown
  have hins : (Cond.instantiable cls 6).before args s' = true := h _ (by simp [Bundle.ownAtoms])
  obtain ⟨vm₁, cX, kX, hfX, hkX, -, -, X₁, st1⟩ := Y.newCold hexec (own := own) (C := cls) (index := ik) (n := 6) hown' hk' hins hini'
    (g := F0 m pc ls rest) rfl (by rw [hb]; exact d0) (Nat.le_refl _) (Nat.le_refl _)
  generalize hT1 : (T.setVm vm₁).pushCell { cls := cX, slots := kX.instanceTypes.map defaultValue, vm := .none } = T1 at X₁ st1
  have hcat : (Value.ref T.heap.size).category = 1 := rfl
  have hcellA : T1.heap[T.heap.size]? = some (freshCell cX kX) := by rw [← hT1]; exact State.heap_pushCell_size _ _
  have d3' : decode c.code (pc + 3) = .ok (.dup, 1) := by rw [hb]; exact d3
  have d4' : decode c.code (pc + 4) = .ok (.ldc_w is, 3) := by rw [hb]; exact d4
  have hstr' : vk_R own is text sa s' := vk_R.warm hW0 hstr
  obtain ⟨U, hsteps, hrun, hend, hW, hsame, ce, hce, hO⟩ := X₁.ctorThrowS hexec htr (own := own) (cls := cls) (names := names) (ic := ic) hown' hcls hnames h (fun x hx => nomatch hx) hfX hkX hcellA (by rw [hhp, hT]; exact Nat.le_refl _) (msg := .ref sa) rfl
    (g := { method := m, pc := pc + 7, locals := ls, stack := .ref sa :: .ref T.heap.size :: .ref T.heap.size :: rest, locked := none }) rfl hsize rfl rfl (rest := rest) rfl
    (by rw [hb]; exact d7) (by rw [hb]; exact d10) hout hRframes (by simp only [List.map_cons, List.sum_cons, hcat]; omega) hlocks
  obtain ⟨f1, f2⟩ := vx_frame hsame
  rw [hhp] at f1 f2
  have hWs : s.WarmedH U.vm := State.WarmedH.trans hW0 hW
  have hcl : s.vm.findClass cls = some ce.cls := by
    have h9 := hO.cls
    rw [hvm] at h9
    exact h9
  have hall : s.sameButNew ({ U with vm := s.vm } : State) locs mc ms := by
    subst hA
    obtain ⟨e1, e2⟩ := hsame
    rw [State.setFrames_setFrames] at e1
    have h2 : (T.setVm s.vm).sameButNew ({ U with vm := s.vm } : State) [] (0 + 1) (0 + 6) := ⟨e1, e2⟩
    have h3 := X.same.trans h2
    rw [List.append_nil] at h3
    exact h3.mono hc hs
  refine ⟨U, ?_, .threw T.heap.size, hrun, hend, Or.inr ⟨T.heap.size, rfl, cls, ce, locs, hx U hWs.alike f1 (fun q hq => f2 q hq (fun z hz => nomatch hz)), hce, hO.vm, hcl, hWs, hall, hf⟩⟩
  refine st1 _ ?_
  show Steps p.tables e below (T1.setTop { method := m, pc := pc + 3, locals := ls, stack := .ref T.heap.size :: rest, locked := none }) _
  jvm_step X₁.here [X₁.here.top, hexec, d3', Value.category]
  exact X₁.ldcStringW hexec (own := own) (text := text) (index := is) (a := sa) hown' hstr'.1 hstr'.2
    (g := { method := m, pc := pc + 4, locals := ls, stack := .ref T.heap.size :: .ref T.heap.size :: rest, locked := none }) rfl d4' _ hsteps
end Ends
section Bodies
variable {l : Launch}
theorem vx_ofW {y : MethodName} {ws ws' : List Cond} {rm : Room} {Pc : Array Value → State → Prop} {Qc : Array Value → State → Outcome → State → Prop} {XC : String → State → State → Prop} {mc ms : Nat} {free : Addr → Prop} {cc : ByteArray} {maxL : Nat} {ret : Option FieldType}
    (hy : plainName y.cls = true) (hw : ws = Cond.code y cc maxL ret :: ws')
    (body : ∀ p e s m args below meth c s₁, BodyLoose p l y (headSpec ws rm) cc maxL ret e s m args below meth c s₁ → c.maxLocals = maxL → (∀ x ∈ c.exceptionTable.toList, False) → Pc args s →
      W p l e (headSpec ws rm).room s m args below meth c s.heap [] 0 0 (vx_MQ below Qc XC args s mc ms free) (entryFrame m args maxL)) : vx_Met l y ws rm Pc Qc XC mc ms free := by
  refine MetFree.of_bodyS (code := cc) (maxLocals := maxL) (ret := ret) hy ?_ ?_
  · intro args s m h hn
    obtain ⟨meth, c, h1, h2, h3, h4, h5, h6, -, -⟩ := Cond.code_spec hn (atoms_spec (ws := ws) h _ (by rw [hw]; exact List.mem_cons_self))
    exact ⟨meth, c, h1, h2, h3, h4, h5, h6⟩
  · intro p e s m args below meth c s₁ B hml hP _
    have hh0 : s₁.heap = s.heap := by rw [B.state]; rfl
    have ht : ∀ x ∈ c.exceptionTable.toList, False := by
      obtain ⟨meth9, c9, h1, h2, -, -, -, -, h7, -⟩ := Cond.code_spec B.named (atoms_spec (ws := ws) B.pre _ (by rw [hw]; exact List.mem_cons_self))
      cases Option.some.inj (h1.symm.trans B.method)
      cases Option.some.inj (h2.symm.trans (Stand.of_body B).code)
      intro x hx
      rw [Array.isEmpty_iff.mp h7] at hx
      cases hx
    obtain ⟨t, a1, o, b1, b2, b3⟩ := body p e s m args below meth c s₁ B hml ht hP s₁ hh0 (Stand.of_body B)
    exact ⟨t, o, a1, b1, b2, b3⟩
/-- the table of a body with handlers -/
theorem vx_table {p : Program} {x y : MethodName} {S : Spec} {cc bytes : ByteArray} {maxL maxL' : Nat} {ret ret' : Option FieldType} {e : Env} {s s₁ : State} {m : MethodId} {args : Array Value} {below : List Frame} {meth : Method} {c : Code} {hh : List (Nat × Nat × Nat × Nat)}
    (B : BodyLoose p l y S cc maxL ret e s m args below meth c s₁) (h : (Cond.codeWith y bytes maxL' ret' hh).before args s = true) : c.exceptionTable.toList = tableOf hh := by
  obtain ⟨m9, meth9, c9, hn9, h1, h2, -, -, h6, -⟩ := Cond.codeWith_spec h
  cases Option.some.inj (hn9.symm.trans B.named)
  cases Option.some.inj (h1.symm.trans B.method)
  cases Option.some.inj (h2.symm.trans (Stand.of_body B).code)
  rw [← h6, table_eq]
end Bodies
end VXA
/-! ===== END ===== -/
/-! ===== BEGIN a static call of a method with an exception table ===== -/
section VXS
variable {p : Program} {l : Launch} {e : Env} {R : Room} {s : State} {m : MethodId} {args : Array Value} {below : List Frame} {meth : Method} {c : Code} {T : State} {H : Heap} {locs : List Loc} {cells slots : Nat}
abbrev vx_CSW (R : Room) (s : State) (args : Array Value) (own : String) (index : Nat) (y : MethodName) (bytes : ByteArray) (maxL : Nat) (ret : Option FieldType) (hh : List (Nat × Nat × Nat × Nat)) (ws : List Cond) (rm : Room) (mc ms n : Nat) : Prop :=
  (rm.cells = mc ∧ rm.slots = ms ∧ rm.frames + 1 ≤ R.frames ∧ 8 + (maxL + 11) + rm.locals ≤ R.locals ∧ (∀ w ∈ ws, ∀ (a' : Array Value) (U : State), s.WarmedH U.vm → w.before a' U = true) ∧ Cond.codeWith y bytes maxL ret hh ∈ ws) ∧
  (Cond.codeWith y bytes maxL ret hh).before args s = true ∧ (Cond.initialized y.cls).before args s = true ∧ (y.cls ≠ "java/lang/invoke/MethodHandle" ∧ y.cls ≠ "java/lang/invoke/VarHandle") ∧
  (∀ sig, parseMethodDescriptor y.desc = some sig → n = sig.parameters.length) ∧ (Cond.methodLink own index y).before args s = true ∧ (Cond.static y).before args s = true
theorem vx_cwSW {own : String} {index maxL mc ms : Nat} {y : MethodName} {bytes : ByteArray} {ret : Option FieldType} {hh : List (Nat × Nat × Nat × Nat)} {Ts ws ws' : List Cond} {rm : Room} (n : Nat) (ht : ∀ w ∈ Ts, w.before args s = true) (hT : GoodIn Ts (va_wsS own index y ws)) (hw : ws = Cond.codeWith y bytes maxL ret hh :: ws') (hrc : rm.cells = mc) (hrs : rm.slots = ms)
    (hd : y.cls ≠ "java/lang/invoke/MethodHandle" ∧ y.cls ≠ "java/lang/invoke/VarHandle" ∧ (parseMethodDescriptor y.desc).map (fun d => d.parameters.length) = some n) (hR : rm.frames + 1 ≤ R.frames ∧ 8 + (maxL + 11) + rm.locals ≤ R.locals) :
    vx_CSW R s args own index y bytes maxL ret hh ws rm mc ms n := by
  have ok : ∀ w ∈ va_wsS own index y ws, w.before args s = true := fun w h => ht w (hT w h).1
  have hG : GoodIn Ts ws := fun w h => hT w (by unfold va_wsS; exact List.mem_append_right _ h)
  have hc : Cond.codeWith y bytes maxL ret hh ∈ ws := by rw [hw]; exact List.mem_cons_self
  refine ⟨⟨hrc, hrs, hR.1, hR.2, pay_in ht hG, hc⟩, ht _ (hG _ hc).1, ok _ (by simp [va_wsS]), ⟨hd.1, hd.2.1⟩, fun sig h => ?_, ok _ (by simp [va_wsS]), ok _ (by simp [va_wsS])⟩
  have h2 := hd.2.2
  rw [h] at h2
  exact (Option.some.inj h2).symm
theorem vx_callSW (X : Stand p l e R s m args below meth c T locs cells slots) (hexec : p.tables.exec = Jvm.exec) {own : String} {index : Nat} {y : MethodName} {bytes : ByteArray} {maxL : Nat} {ret : Option FieldType} {hh : List (Nat × Nat × Nat × Nat)}
    (hown : s.vm.findClass own = some m.cls) (hlink : (Cond.methodLink own index y).before args s = true) (hstat : (Cond.static y).before args s = true) (hinit : (Cond.initialized y.cls).before args s = true)
    (hcode : (Cond.codeWith y bytes maxL ret hh).before args s = true) (hy : y.cls ≠ "java/lang/invoke/MethodHandle" ∧ y.cls ≠ "java/lang/invoke/VarHandle")
    {W9 : Nat} {Pre : Pt → Array Value → Prop} {Post : Pt → Array Value → Option Value → Pt → Prop} (hK : Back l R p e below s args y 3 W9 Pre Post)
    {g : JFrame} (hg : g.method = m) (hsize : g.locals.size = c.maxLocals) {argsL rest : List Value} (hlen : ∀ sig, parseMethodDescriptor y.desc = some sig → argsL.length = sig.parameters.length)
    (hstack : g.stack = argsL.reverse ++ rest) (hW : 2 * g.monitorRoom + (rest.map fun v => v.category).sum ≤ W9) (hdg : decode c.code g.pc = .ok (.invokestatic index, 3))
    (hpre : ∀ vm₁, s.WarmedH vm₁ → Pre ⟨T.setVm vm₁, locs, cells, slots⟩ argsL.toArray) :
    ∃ (v : Option Value) (vm₁ : Vm) (B : Pt), s.WarmedH vm₁ ∧ Stand p l e R s m args below meth c B.U B.locs B.cells B.slots ∧ Post ⟨T.setVm vm₁, locs, cells, slots⟩ argsL.toArray v B ∧
      ∀ target, Steps p.tables e below (B.U.setTop { g with pc := g.pc + 3, stack := v.toList ++ rest }) target → Steps p.tables e below (T.setTop g) target := by
  obtain ⟨mk, methM, cM, hnamed, hmethM, -, -, -, -, -, -, hsigM⟩ := Cond.codeWith_spec hcode
  have hstatic : methM.isStatic = true := Cond.static_spec hnamed hmethM hstat
  obtain ⟨kP, hkP, -⟩ := className_of_methodNamed hnamed
  have hinitP : kP.init = .initialized := Cond.initialized_spec (findClass_of_methodNamed hnamed) hkP hinit
  obtain ⟨vm₁, X₁, hstep₁⟩ := X.invokestatic hexec hown hlink hnamed hmethM hstatic hkP hinitP hy (g := g) hg (argsL := argsL) (rest := rest) (hlen _ hsigM) hstack hdg
  obtain ⟨v, B, X', hpost, hsteps⟩ := hK m meth c ⟨T.setVm vm₁, locs, cells, slots⟩ { g with stack := rest } (.invokestatic index) mk argsL.toArray X₁ hg hsize hdg hW (X₁.named hnamed) (hpre vm₁ X₁.warmed)
  exact ⟨v, vm₁, B, X₁.warmed, X', hpost, fun target h => hstep₁ _ fun acts => by rw [doInvoke_state]; exact hsteps.trans h⟩
theorem vx_runSW {y : MethodName} {bytes cc : ByteArray} {maxL nL mc ms n index : Nat} {ret : Option FieldType} {hh : List (Nat × Nat × Nat × Nat)} {ws : List Cond} {rm : Room} {Pc : Array Value → State → Prop} {Qc : Array Value → State → Outcome → State → Prop} {free : Addr → Prop} {Ts : List Cond} {own : String} {As rest : List Value} {g : JFrame}
    (S : CallFix p m c cc nL s args Ts own) (hM : Met l y ws rm Pc Qc mc ms free) (cw : vx_CSW R s args own index y bytes maxL ret hh ws rm mc ms n) (hp : PreS s H Pc As)
    (hg : g.method = m) (hn : As.length = n) (hsize : g.locals.size = nL) (hstack : g.stack = As.reverse ++ rest) (hW : 2 * g.monitorRoom + (rest.map fun v => v.category).sum ≤ 8) (hdg : decode cc g.pc = .ok (.invokestatic index, 3)) (hf : cells + mc ≤ R.cells ∧ slots + ms ≤ R.slots) :
    va_Run p l e R s m args below meth c H locs cells slots mc ms g rest (Qc As.toArray) (free) := by
  obtain ⟨⟨hrc, hrs, hfr, hlo, hws, hcw⟩, hcode, hini, hy, hlen, hl, hstt⟩ := cw
  have hK : Back l R p e below s args y 3 8 (PreOf R mc ms Pc) (PostOf Qc mc ms free) := va_backW (hh := hh) (bytes := bytes) (maxL := maxL) (ret := ret) hM hp.1 hrc hrs hfr hlo hws hcw (fun a' U hW => word_at hW (Or.inl (by first | rfl | simp [Cond.onTables, Cond.keeps, Cond.steady])) hini)
  obtain ⟨hx, hb, hml, ho, -⟩ := S
  intro T hT X
  obtain ⟨v, vm₁, ⟨U', l2, c2, s2⟩, hW₁, X', ⟨g', mk, t, L, e1, e2, hq, h1, hL, h2, h3⟩, st⟩ := vx_callSW X hx (hh := hh) (bytes := bytes) (maxL := maxL) (ret := ret) ho hl hstt hini hcode hy hK hg (hsize.trans hml.symm) (argsL := As) (rest := rest) (fun sig h => hn.trans (hlen sig h)) hstack hW (by rw [hb]; exact hdg)
    (fun vm₁ hW₁ => ⟨hf.1, hf.2, hp.2 (T.setVm vm₁) hT hW₁⟩)
  dsimp only [Pt.U, Pt.locs, Pt.cells, Pt.slots] at X' e1 e2 h1 h2 h3 st
  subst h1; subst h2; subst h3
  exact ⟨v, (T.setVm vm₁).calling g' mk As.toArray, t, U', L, hT, X', hL, e1, e2, hq, st⟩
/-- not caught here, past rows that name other classes: it goes on to the caller -/
theorem vx_outP {p : Program} {l : Launch} {e : Env} {R : Room} {s : State} {m : MethodId} {args : Array Value} {below : List Frame} {meth : Method} {c : Code} {H : Heap} {locs : List Loc} {cells slots : Nat} {free : Addr → Prop} {ls : Array Slot} {rest : List Value} {Qc : Array Value → State → Outcome → State → Prop} {XC : String → State → State → Prop}
    {pc : Nat} {own E : String} {ce : Cell} {q : Addr} {mc ms : Nat} (hown : s.vm.findClass own = some m.cls) (hlocks : meth.locks = false)
    (hpass : ∀ z ∈ c.exceptionTable.toList, covers z pc = false ∨ (z.catchType ≠ 0 ∧ ∃ nm : String, (Cond.classLink own z.catchType nm).before args s = true ∧ va_Nc E nm s)) (hcell : H[q]? = some ce) (hv : ce.vm = .none) (hcl : s.vm.findClass E = some ce.cls)
    (hx : ∀ t : State, t.heap = H → s.vm.Alike t.vm → XC E s t) (hf : ∀ z ∈ locs, free z.base) (hc : cells ≤ mc) (hs : slots ≤ ms) :
    vx_W p l e R s m args below meth c H locs cells slots (vx_MQ below Qc XC args s mc ms free) (F0 m pc ls rest) q := by
  intro T hT X
  have hpl : e.platform.magicAccessors = ({} : Platform).magicAccessors := by rw [X.admits.platform]
  obtain ⟨vm', hW', X', st⟩ := X.outThrough hlocks q (g := F0 m pc ls rest) rfl rfl rfl (cell := ce) (by rw [hT]; exact hcell) (by rw [hv]; rfl)
    (by obtain ⟨k9, h9, -⟩ := Vm.findClass_spec hcl; exact ⟨k9, h9⟩) (fun z hz => by
      rcases hpass z hz with h | ⟨hz0, nm, hl1, hn1⟩
      · exact Or.inl h
      · obtain ⟨c6, hc6, hcl6⟩ := Cond.classLink_spec hown hl1 e.platform hpl
        obtain ⟨a8, b8, h1, h2, h3⟩ := hn1
        cases Option.some.inj (h1.symm.trans hcl)
        cases Option.some.inj (h2.symm.trans hc6)
        exact Or.inr ⟨hz0, _, hcl6, h3⟩)
  obtain ⟨g₀, hfr⟩ := X'.frames_eq
  have hcell9 : ((T.setVm vm').setFrames (.throwing q :: below)).heap[q]? = some ce := by
    show T.heap[q]? = some ce
    rw [hT]; exact hcell
  have hend : Ended ((T.setVm vm').setFrames (.throwing q :: below)) below (.threw q) := State.frames_setFrames _ (State.cur_lt_of_frames hfr)
  refine ⟨(T.setVm vm').setFrames (.throwing q :: below), ?_, .threw q, X'.here.running, hend, Or.inr ⟨q, rfl, E, ce, locs, hx _ hT (X'.ends _).1.alike, hcell9, hv, hcl, (X'.ends _).1, (X'.ends _).2.mono hc hs, hf⟩⟩
  rw [X.pushThrowing_eq]
  exact st
/-- a thing of a world lies in the heap -/
theorem vx_lt {D : va_G} {cl : List vw_C} {ws : va_W} {H1 : Heap} (h : va_P D cl ws H1) {k : Nat} {q : Nat × va_E} (hk : ws[k]? = some q) : q.1 < H1.size := (h k q hk).lt
end VXS
/-! ===== END ===== -/
/-! ===== BEGIN methods with a table of their own: called by a name, returning or throwing ===== -/
section VXH
/-! vx_backW, vx_callVX, vx_callSX, vx_callVW, vx_runVW, vx_runVX, vx_runSX, vx_ofWH follow the same proofs as their sisters above (Free/Laws.lean, Shelf42/LK1.lean); vx_outP calls Shelf42/NT130.lean (outThrough). -/
section
variable {l : Launch} {R : Room} {p : Program} {e : Env} {below : List Frame} {s : State} {sargs : Array Value} {y : MethodName} {len W9 : Nat}
theorem vx_backW {ws : List Cond} {rm : Room} {Pc : Array Value → State → Prop} {Qc : Array Value → State → Outcome → State → Prop} {XC : String → State → State → Prop} {mc ms : Nat} {free : Addr → Prop} {bytes : ByteArray} {maxL : Nat} {ret : Option FieldType} {hh : List (Nat × Nat × Nat × Nat)}
    (hM : vx_Met l y ws rm Pc Qc XC mc ms free) (hblind : FrameBlind Pc) (hrc : rm.cells = mc) (hrs : rm.slots = ms)
    (hframes : rm.frames + 1 ≤ R.frames) (hlocals : W9 + (maxL + 11) + rm.locals ≤ R.locals)
    (hws : ∀ w ∈ ws, ∀ a' U, s.WarmedH U.vm → w.before a' U = true) (hcode : Cond.codeWith y bytes maxL ret hh ∈ ws) (hinit : ∀ a' U, s.WarmedH U.vm → (Cond.initialized y.cls).before a' U = true) :
    vx_Back l R p e below s sargs y len W9 (PreOf R mc ms Pc) (PostOf Qc mc ms free) (vx_Post XC mc ms free) := by
  intro m meth c A g ig mk a X hg hsize hdg hW hn hp
  have h1 : (headSpec ws rm).pre.before a A.U = true := atoms_intro fun w hw => hws w hw _ _ X.warmed
  have h2 : (Cond.codeWith y bytes maxL ret hh).before a A.U = true := hws _ hcode _ _ X.warmed
  have h3 : (Cond.initialized y.cls).before a A.U = true := hinit _ _ X.warmed
  have h4 : A.cells + (headSpec ws rm).room.cells ≤ R.cells := by rw [show (headSpec ws rm).room.cells = mc from hrc]; exact hp.1
  have h5 : A.slots + (headSpec ws rm).room.slots ≤ R.slots := by rw [show (headSpec ws rm).room.slots = ms from hrs]; exact hp.2.1
  have hPc : Pc a (A.U.calling g mk a) := hblind _ _ _ _ hp.2.2
  obtain ⟨U, Ls, c0, s0⟩ := A
  dsimp only [Pt.U, Pt.locs, Pt.cells, Pt.slots] at h1 h2 h3 h4 h5 X hn hPc ⊢
  obtain ⟨m9, methY, cY, hn9, hmY, hcY, -, hlY, -⟩ := Cond.codeWith_spec h2
  cases Option.some.inj (hn9.symm.trans hn)
  obtain ⟨kY, hkY, -⟩ := className_of_methodNamed hn
  have hinitY : kY.init = .initialized := Cond.initialized_spec (findClass_of_methodNamed hn) hkY h3
  have h : At U g.method c below := by rw [hg]; exact X.here
  have hlocals9 : W9 + (maxL + 11) + (headSpec ws rm).room.locals ≤ R.locals := hlocals
  have happ : (headSpec ws rm).appliesLoose y e.platform (U.calling g mk a) = true :=
    Spec.appliesLoose_calling (g := g) h hdg hn hkY hinitY
      (X.room_calling (g := g) (R' := (headSpec ws rm).room) hsize hmY hcY hframes (by rw [hlY]; omega) h4 h5) h1
  obtain ⟨mid, hmid⟩ := h.above
  have hfr : (U.setTop g).frames = (.java g :: mid) ++ below := by rw [State.frames_setTop' g h.top, hmid]; rfl
  obtain ⟨o, s₂, hsteps, -, hend, hq⟩ := Steps.callFree hM p X.admits X.cas X.clock (acts := []) hfr happ hPc trivial
  have hq' : vx_Q Qc XC mc ms free a (U.calling g mk a) o s₂ := hq
  rw [State.frames_setTop' g h.top] at hend
  obtain ⟨g₀, hg0⟩ := Option.isSome_iff_exists.mp h.top
  obtain ⟨r, hr⟩ := State.topJava?_eq_some.mp hg0
  have hr' : (({ U with heap := s₂.heap, slotsUsed := s₂.slotsUsed } : State).setVm s₂.vm).frames = .java g₀ :: r := hr
  rcases hq' with ⟨hqc, L, hfe, hL⟩ | ⟨q, rfl, E, ce, L, hx, hce, hcv, hcl, hW₂, hsm, hL⟩
  · obtain ⟨⟨v, rfl⟩, hW₂, e2, q2, q3, q4, q5, q6⟩ := id hfe
    have e3 : s₂ = ({ (U.calling g mk a).setFrames s₂.frames with heap := s₂.heap, slotsUsed := s₂.slotsUsed } : State).setVm s₂.vm := by
      have : s₂ = ({ s₂ with vm := (U.calling g mk a).vm } : State).setVm s₂.vm := rfl
      rw [e2] at this
      exact this
    obtain ⟨c₂, i₂, len₂, hc₂, hd₂, hf₂⟩ := hend
    have hW' : U.WarmedH s₂.vm := hW₂
    have hcc : c₂ = c := by
      have h1 : s₂.code? g.method = U.code? g.method := by
        rw [State.code?_eq, State.code?_eq, hW'.alike.method?]
      exact Option.some.inj (hc₂.symm.trans (h1.trans h.code))
    subst hcc
    have hlen : len₂ = len := by rw [hdg] at hd₂; cases hd₂; rfl
    subst hlen
    have hs₂ : s₂ = (({ U with heap := s₂.heap, slotsUsed := s₂.slotsUsed } : State).setVm s₂.vm).setTop { g with pc := g.pc + len₂, stack := v.toList ++ g.stack } := by
      refine e3.trans ?_
      rw [hf₂, State.calling_eq h.top, State.setFrames_setFrames, State.setTop_of_frames _ hr', hr]
      rfl
    have hsame : U.sameButNew ({ U with heap := s₂.heap, slotsUsed := s₂.slotsUsed } : State) L mc ms := by
      refine ⟨?_, q2, q3, q4, q5, q6⟩
      obtain ⟨t, ht, -⟩ := State.frames_cons hr
      show ({ U with heap := s₂.heap, slotsUsed := s₂.slotsUsed } : State) = { U.setFrames U.frames with heap := s₂.heap, slotsUsed := s₂.slotsUsed }
      rw [State.setFrames_self ht]
    subst hg
    refine Or.inl ⟨v, ⟨(({ U with heap := s₂.heap, slotsUsed := s₂.slotsUsed } : State).setVm s₂.vm), Ls ++ L, c0 + mc, s0 + ms⟩,
      ⟨X.admits, X.cas, X.clock, X.frames, X.room, X.hears, X.method, X.code, (X.here.setHeapUsed s₂.heap s₂.slotsUsed).setVm hW'.alike, X.tail, State.WarmedH.trans X.warmed hW', X.limits, X.bytes, X.same.trans (hsame.setVm s.vm)⟩,
      ⟨g, mk, s₂, L, rfl, rfl, hqc, rfl, hL, rfl, rfl⟩, ?_⟩
    show Steps p.tables e below _ ((({ U with heap := s₂.heap, slotsUsed := s₂.slotsUsed } : State).setVm s₂.vm).setTop { g with pc := g.pc + len₂, stack := v.toList ++ g.stack })
    rw [← hs₂]
    exact hsteps
  · obtain ⟨e2, q2, q3, q4, q5, q6⟩ := id hsm
    have e3 : s₂ = ({ (U.calling g mk a).setFrames s₂.frames with heap := s₂.heap, slotsUsed := s₂.slotsUsed } : State).setVm s₂.vm := by
      have : s₂ = ({ s₂ with vm := (U.calling g mk a).vm } : State).setVm s₂.vm := rfl
      rw [e2] at this
      exact this
    have hf₂ : s₂.frames = .throwing q :: .java g :: U.frames.tail := hend
    have hW' : U.WarmedH s₂.vm := hW₂
    have hs₂ : s₂ = ((({ U with heap := s₂.heap, slotsUsed := s₂.slotsUsed } : State).setVm s₂.vm).setTop g).pushFrame (.throwing q) := by
      refine e3.trans ?_
      rw [hf₂, State.calling_eq h.top, State.setFrames_setFrames, State.pushFrame, State.frames_setTop _ hr', State.setTop_of_frames _ hr', State.setFrames_setFrames, hr]
      rfl
    have hsame : U.sameButNew ({ U with heap := s₂.heap, slotsUsed := s₂.slotsUsed } : State) L mc ms := by
      refine ⟨?_, q2, q3, q4, q5, q6⟩
      obtain ⟨t, ht, -⟩ := State.frames_cons hr
      show ({ U with heap := s₂.heap, slotsUsed := s₂.slotsUsed } : State) = { U.setFrames U.frames with heap := s₂.heap, slotsUsed := s₂.slotsUsed }
      rw [State.setFrames_self ht]
    subst hg
    refine Or.inr ⟨q, ⟨(({ U with heap := s₂.heap, slotsUsed := s₂.slotsUsed } : State).setVm s₂.vm), Ls ++ L, c0 + mc, s0 + ms⟩,
      ⟨X.admits, X.cas, X.clock, X.frames, X.room, X.hears, X.method, X.code, (X.here.setHeapUsed s₂.heap s₂.slotsUsed).setVm hW'.alike, X.tail, State.WarmedH.trans X.warmed hW', X.limits, X.bytes, X.same.trans (hsame.setVm s.vm)⟩,
      ⟨g, mk, s₂, L, E, ce, rfl, rfl, hx, hce, hcv, hcl, rfl, hL, rfl, rfl⟩, ?_⟩
    show Steps p.tables e below _ (((({ U with heap := s₂.heap, slotsUsed := s₂.slotsUsed } : State).setVm s₂.vm).setTop g).pushFrame (.throwing q))
    rw [← hs₂]
    exact hsteps
end
variable {p : Program} {l : Launch} {e : Env} {R : Room} {s : State} {m : MethodId} {args : Array Value} {below : List Frame} {meth : Method} {c : Code} {T : State} {H : Heap} {locs : List Loc} {cells slots : Nat}
theorem vx_callVX (X : Stand p l e R s m args below meth c T locs cells slots) (hexec : p.tables.exec = Jvm.exec) {own C : String} {index : Nat} {y : MethodName} {bytes : ByteArray} {maxL : Nat} {ret : Option FieldType} {hh : List (Nat × Nat × Nat × Nat)}
    (hown : s.vm.findClass own = some m.cls) (hlink : (Cond.methodLink own index y).before args s = true) (hinst : (Cond.instanceMethod y).before args s = true) (hsel : (Cond.selects C y y).before args s = true)
    (hcode : (Cond.codeWith y bytes maxL ret hh).before args s = true) (hy : y.cls ≠ "java/lang/invoke/MethodHandle" ∧ y.cls ≠ "java/lang/invoke/VarHandle")
    {W9 : Nat} {Pre : Pt → Array Value → Prop} {Post : Pt → Array Value → Option Value → Pt → Prop} {PostX : Pt → Array Value → Addr → Pt → Prop} (hK : vx_Back l R p e below s args y 3 W9 Pre Post PostX)
    {b : Addr} {cellB : Cell} (hcell : T.heap[b]? = some cellB) (hobj : cellB.vm.isStatics = false) (hcls : s.vm.findClass C = some cellB.cls)
    {g : JFrame} (hg : g.method = m) (hsize : g.locals.size = c.maxLocals) {argsL rest : List Value} (hlen : ∀ sig, parseMethodDescriptor y.desc = some sig → argsL.length = sig.parameters.length)
    (hstack : g.stack = argsL.reverse ++ .ref b :: rest) (hW : 2 * g.monitorRoom + (rest.map fun v => v.category).sum ≤ W9) (hdg : decode c.code g.pc = .ok (.invokevirtual index, 3))
    (hpre : ∀ vm₁, s.WarmedH vm₁ → Pre ⟨T.setVm vm₁, locs, cells, slots⟩ (Value.ref b :: argsL).toArray) :
    (∃ (v : Option Value) (vm₁ : Vm) (B : Pt), s.WarmedH vm₁ ∧ Stand p l e R s m args below meth c B.U B.locs B.cells B.slots ∧ Post ⟨T.setVm vm₁, locs, cells, slots⟩ (Value.ref b :: argsL).toArray v B ∧
      ∀ target, Steps p.tables e below (B.U.setTop { g with pc := g.pc + 3, stack := v.toList ++ rest }) target → Steps p.tables e below (T.setTop g) target) ∨
    (∃ (q : Addr) (vm₁ : Vm) (B : Pt), s.WarmedH vm₁ ∧ Stand p l e R s m args below meth c B.U B.locs B.cells B.slots ∧ PostX ⟨T.setVm vm₁, locs, cells, slots⟩ (Value.ref b :: argsL).toArray q B ∧
      Steps p.tables e below (T.setTop g) ((B.U.setTop { g with stack := rest }).pushFrame (.throwing q))) := by
  obtain ⟨mk, methM, hnamed, hmethM, hstM, habM⟩ := Cond.instanceMethod_spec hinst
  obtain ⟨m8, methM', cM, hn8, hmethM', -, -, -, -, -, -, hsigM⟩ := Cond.codeWith_spec hcode
  cases Option.some.inj (hn8.symm.trans hnamed)
  cases hmethM.symm.trans hmethM'
  obtain ⟨c2, r2, m2, q1, q2, q3, q4, kP, hkP, hkPi⟩ := Cond.selects_spec hsel
  cases hcls.symm.trans q1
  cases (State.methodFound?_of_named hnamed hy).symm.trans q2
  cases hnamed.symm.trans q3
  have hselP : selectMethod e.platform s.vm cellB.cls mk = .method mk := by rw [Launch.admits_selectMethod X.admits]; exact q4
  obtain ⟨vm₁, X₁, hstep₁⟩ := X.invokevirtual hexec hown hlink hnamed hmethM hstM hkP hkPi hy (a := b) (cell := cellB) hcell
    (fun z h => by rw [h] at hobj; cases hobj) hselP hmethM habM hkP hkPi (g := g) hg (argsL := argsL) (rest := rest) (hlen _ hsigM) hstack hdg
  rcases hK m meth c ⟨T.setVm vm₁, locs, cells, slots⟩ { g with stack := rest } (.invokevirtual index) mk (Value.ref b :: argsL).toArray X₁ hg hsize hdg hW (X₁.named hnamed) (hpre vm₁ X₁.warmed) with ⟨v, B, X', hpost, hsteps⟩ | ⟨q, B, X', hpost, hsteps⟩
  · exact Or.inl ⟨v, vm₁, B, X₁.warmed, X', hpost, fun target h => hstep₁ _ fun acts => by rw [doInvoke_state]; exact hsteps.trans h⟩
  · exact Or.inr ⟨q, vm₁, B, X₁.warmed, X', hpost, hstep₁ _ fun acts => by rw [doInvoke_state]; exact hsteps⟩
theorem vx_callSX (X : Stand p l e R s m args below meth c T locs cells slots) (hexec : p.tables.exec = Jvm.exec) {own : String} {index : Nat} {y : MethodName} {bytes : ByteArray} {maxL : Nat} {ret : Option FieldType} {hh : List (Nat × Nat × Nat × Nat)}
    (hown : s.vm.findClass own = some m.cls) (hlink : (Cond.methodLink own index y).before args s = true) (hstat : (Cond.static y).before args s = true) (hinit : (Cond.initialized y.cls).before args s = true)
    (hcode : (Cond.codeWith y bytes maxL ret hh).before args s = true) (hy : y.cls ≠ "java/lang/invoke/MethodHandle" ∧ y.cls ≠ "java/lang/invoke/VarHandle")
    {W9 : Nat} {Pre : Pt → Array Value → Prop} {Post : Pt → Array Value → Option Value → Pt → Prop} {PostX : Pt → Array Value → Addr → Pt → Prop} (hK : vx_Back l R p e below s args y 3 W9 Pre Post PostX)
    {g : JFrame} (hg : g.method = m) (hsize : g.locals.size = c.maxLocals) {argsL rest : List Value} (hlen : ∀ sig, parseMethodDescriptor y.desc = some sig → argsL.length = sig.parameters.length)
    (hstack : g.stack = argsL.reverse ++ rest) (hW : 2 * g.monitorRoom + (rest.map fun v => v.category).sum ≤ W9) (hdg : decode c.code g.pc = .ok (.invokestatic index, 3))
    (hpre : ∀ vm₁, s.WarmedH vm₁ → Pre ⟨T.setVm vm₁, locs, cells, slots⟩ argsL.toArray) :
    (∃ (v : Option Value) (vm₁ : Vm) (B : Pt), s.WarmedH vm₁ ∧ Stand p l e R s m args below meth c B.U B.locs B.cells B.slots ∧ Post ⟨T.setVm vm₁, locs, cells, slots⟩ argsL.toArray v B ∧
      ∀ target, Steps p.tables e below (B.U.setTop { g with pc := g.pc + 3, stack := v.toList ++ rest }) target → Steps p.tables e below (T.setTop g) target) ∨
    (∃ (q : Addr) (vm₁ : Vm) (B : Pt), s.WarmedH vm₁ ∧ Stand p l e R s m args below meth c B.U B.locs B.cells B.slots ∧ PostX ⟨T.setVm vm₁, locs, cells, slots⟩ argsL.toArray q B ∧
      Steps p.tables e below (T.setTop g) ((B.U.setTop { g with stack := rest }).pushFrame (.throwing q))) := by
  obtain ⟨mk, methM, cM, hnamed, hmethM, -, -, -, -, -, -, hsigM⟩ := Cond.codeWith_spec hcode
  have hstatic : methM.isStatic = true := Cond.static_spec hnamed hmethM hstat
  obtain ⟨kP, hkP, -⟩ := className_of_methodNamed hnamed
  have hinitP : kP.init = .initialized := Cond.initialized_spec (findClass_of_methodNamed hnamed) hkP hinit
  obtain ⟨vm₁, X₁, hstep₁⟩ := X.invokestatic hexec hown hlink hnamed hmethM hstatic hkP hinitP hy (g := g) hg (argsL := argsL) (rest := rest) (hlen _ hsigM) hstack hdg
  rcases hK m meth c ⟨T.setVm vm₁, locs, cells, slots⟩ { g with stack := rest } (.invokestatic index) mk argsL.toArray X₁ hg hsize hdg hW (X₁.named hnamed) (hpre vm₁ X₁.warmed) with ⟨v, B, X', hpost, hsteps⟩ | ⟨q, B, X', hpost, hsteps⟩
  · exact Or.inl ⟨v, vm₁, B, X₁.warmed, X', hpost, fun target h => hstep₁ _ fun acts => by rw [doInvoke_state]; exact hsteps.trans h⟩
  · exact Or.inr ⟨q, vm₁, B, X₁.warmed, X', hpost, hstep₁ _ fun acts => by rw [doInvoke_state]; exact hsteps⟩
theorem vx_callVW (X : Stand p l e R s m args below meth c T locs cells slots) (hexec : p.tables.exec = Jvm.exec) {own C : String} {index : Nat} {y : MethodName} {bytes : ByteArray} {maxL : Nat} {ret : Option FieldType} {hh : List (Nat × Nat × Nat × Nat)}
    (hown : s.vm.findClass own = some m.cls) (hlink : (Cond.methodLink own index y).before args s = true) (hinst : (Cond.instanceMethod y).before args s = true) (hsel : (Cond.selects C y y).before args s = true)
    (hcode : (Cond.codeWith y bytes maxL ret hh).before args s = true) (hy : y.cls ≠ "java/lang/invoke/MethodHandle" ∧ y.cls ≠ "java/lang/invoke/VarHandle")
    {W9 : Nat} {Pre : Pt → Array Value → Prop} {Post : Pt → Array Value → Option Value → Pt → Prop} (hK : Back l R p e below s args y 3 W9 Pre Post)
    {b : Addr} {cellB : Cell} (hcell : T.heap[b]? = some cellB) (hobj : cellB.vm.isStatics = false) (hcls : s.vm.findClass C = some cellB.cls)
    {g : JFrame} (hg : g.method = m) (hsize : g.locals.size = c.maxLocals) {argsL rest : List Value} (hlen : ∀ sig, parseMethodDescriptor y.desc = some sig → argsL.length = sig.parameters.length)
    (hstack : g.stack = argsL.reverse ++ .ref b :: rest) (hW : 2 * g.monitorRoom + (rest.map fun v => v.category).sum ≤ W9) (hdg : decode c.code g.pc = .ok (.invokevirtual index, 3))
    (hpre : ∀ vm₁, s.WarmedH vm₁ → Pre ⟨T.setVm vm₁, locs, cells, slots⟩ (Value.ref b :: argsL).toArray) :
    ∃ (v : Option Value) (vm₁ : Vm) (B : Pt), s.WarmedH vm₁ ∧ Stand p l e R s m args below meth c B.U B.locs B.cells B.slots ∧ Post ⟨T.setVm vm₁, locs, cells, slots⟩ (Value.ref b :: argsL).toArray v B ∧
      ∀ target, Steps p.tables e below (B.U.setTop { g with pc := g.pc + 3, stack := v.toList ++ rest }) target → Steps p.tables e below (T.setTop g) target := by
  obtain ⟨mk, methM, hnamed, hmethM, hstM, habM⟩ := Cond.instanceMethod_spec hinst
  obtain ⟨m8, methM', cM, hn8, hmethM', -, -, -, -, -, -, hsigM⟩ := Cond.codeWith_spec hcode
  cases Option.some.inj (hn8.symm.trans hnamed)
  cases hmethM.symm.trans hmethM'
  obtain ⟨c2, r2, m2, q1, q2, q3, q4, kP, hkP, hkPi⟩ := Cond.selects_spec hsel
  cases hcls.symm.trans q1
  cases (State.methodFound?_of_named hnamed hy).symm.trans q2
  cases hnamed.symm.trans q3
  have hselP : selectMethod e.platform s.vm cellB.cls mk = .method mk := by rw [Launch.admits_selectMethod X.admits]; exact q4
  obtain ⟨vm₁, X₁, hstep₁⟩ := X.invokevirtual hexec hown hlink hnamed hmethM hstM hkP hkPi hy (a := b) (cell := cellB) hcell
    (fun z h => by rw [h] at hobj; cases hobj) hselP hmethM habM hkP hkPi (g := g) hg (argsL := argsL) (rest := rest) (hlen _ hsigM) hstack hdg
  obtain ⟨v, B, X', hpost, hsteps⟩ := hK m meth c ⟨T.setVm vm₁, locs, cells, slots⟩ { g with stack := rest } (.invokevirtual index) mk (Value.ref b :: argsL).toArray X₁ hg hsize hdg hW (X₁.named hnamed) (hpre vm₁ X₁.warmed)
  exact ⟨v, vm₁, B, X₁.warmed, X', hpost, fun target h => hstep₁ _ fun acts => by rw [doInvoke_state]; exact hsteps.trans h⟩
abbrev vx_CVW (R : Room) (s : State) (args : Array Value) (own C : String) (index : Nat) (y : MethodName) (bytes : ByteArray) (maxL : Nat) (ret : Option FieldType) (hh : List (Nat × Nat × Nat × Nat)) (ws : List Cond) (rm : Room) (mc ms n : Nat) : Prop :=
  (rm.cells = mc ∧ rm.slots = ms ∧ rm.frames + 1 ≤ R.frames ∧ 8 + (maxL + 11) + rm.locals ≤ R.locals ∧ (∀ w ∈ ws, ∀ (a' : Array Value) (U : State), s.WarmedH U.vm → w.before a' U = true) ∧ Cond.codeWith y bytes maxL ret hh ∈ ws) ∧
  (Cond.codeWith y bytes maxL ret hh).before args s = true ∧ (Cond.initialized y.cls).before args s = true ∧ (y.cls ≠ "java/lang/invoke/MethodHandle" ∧ y.cls ≠ "java/lang/invoke/VarHandle") ∧
  (∀ sig, parseMethodDescriptor y.desc = some sig → n = sig.parameters.length) ∧ (Cond.methodLink own index y).before args s = true ∧ (Cond.instanceMethod y).before args s = true ∧ (Cond.selects C y y).before args s = true
theorem vx_cwVW {own C : String} {index maxL mc ms : Nat} {y : MethodName} {bytes : ByteArray} {ret : Option FieldType} {hh : List (Nat × Nat × Nat × Nat)} {Ts ws ws' : List Cond} {rm : Room} (n : Nat) (ht : ∀ w ∈ Ts, w.before args s = true) (hT : GoodIn Ts (wsV own index C y ws)) (hw : ws = Cond.codeWith y bytes maxL ret hh :: ws') (hrc : rm.cells = mc) (hrs : rm.slots = ms)
    (hd : y.cls = C ∧ y.cls ≠ "java/lang/invoke/MethodHandle" ∧ y.cls ≠ "java/lang/invoke/VarHandle" ∧ (parseMethodDescriptor y.desc).map (fun d => d.parameters.length) = some n) (hR : rm.frames + 1 ≤ R.frames ∧ 8 + (maxL + 11) + rm.locals ≤ R.locals) :
    vx_CVW R s args own C index y bytes maxL ret hh ws rm mc ms n := by
  obtain ⟨hC, hd⟩ := hd
  subst hC
  have ok : ∀ w ∈ wsV own index y.cls y ws, w.before args s = true := fun w h => ht w (hT w h).1
  have hG : GoodIn Ts ws := fun w h => hT w (by unfold wsV; exact List.mem_append_right _ h)
  have hc : Cond.codeWith y bytes maxL ret hh ∈ ws := by rw [hw]; exact List.mem_cons_self
  refine ⟨⟨hrc, hrs, hR.1, hR.2, pay_in ht hG, hc⟩, ht _ (hG _ hc).1, ok _ (by simp [wsV]), ⟨hd.1, hd.2.1⟩, fun sig h => ?_, ok _ (by simp [wsV]), ok _ (by simp [wsV]), ok _ (by simp [wsV])⟩
  have h2 := hd.2.2
  rw [h] at h2
  exact (Option.some.inj h2).symm
theorem vx_runVW {y : MethodName} {bytes cc : ByteArray} {maxL nL mc ms n index : Nat} {ret : Option FieldType} {hh : List (Nat × Nat × Nat × Nat)} {ws : List Cond} {rm : Room} {Pc : Array Value → State → Prop} {Qc : Array Value → State → Outcome → State → Prop} {free : Addr → Prop} {Ts : List Cond} {own C : String} {b : Addr} {As rest : List Value} {g : JFrame}
    (S : CallFix p m c cc nL s args Ts own) (hM : Met l y ws rm Pc Qc mc ms free) (cw : vx_CVW R s args own C index y bytes maxL ret hh ws rm mc ms n) (hp : PreV s H C b Pc As)
    (hg : g.method = m) (hn : As.length = n) (hsize : g.locals.size = nL) (hstack : g.stack = As.reverse ++ .ref b :: rest) (hW : 2 * g.monitorRoom + (rest.map fun v => v.category).sum ≤ 8) (hdg : decode cc g.pc = .ok (.invokevirtual index, 3)) (hf : cells + mc ≤ R.cells ∧ slots + ms ≤ R.slots) :
    va_Run p l e R s m args below meth c H locs cells slots mc ms g rest (Qc (Value.ref b :: As).toArray) free := by
  obtain ⟨⟨hrc, hrs, hfr, hlo, hws, hcw⟩, hcode, hini, hy, hlen, hl, hin, hse⟩ := cw
  have hK : Back l R p e below s args y 3 8 (PreOf R mc ms Pc) (PostOf Qc mc ms free) := va_backW (hh := hh) (bytes := bytes) (maxL := maxL) (ret := ret) hM hp.1 hrc hrs hfr hlo hws hcw (fun a' U hW => word_at hW (Or.inl (by first | rfl | simp [Cond.onTables, Cond.keeps, Cond.steady])) hini)
  obtain ⟨hx, hb, hml, ho, -⟩ := S
  obtain ⟨-, ⟨cellB, hcB, hoB, hclB⟩, hPc⟩ := hp
  intro T hT X
  obtain ⟨v, vm₁, ⟨U', l2, c2, s2⟩, hW₁, X', ⟨g', mk, t, L, e1, e2, hq, h1, hL, h2, h3⟩, st⟩ := vx_callVW X hx (C := C) (hh := hh) (bytes := bytes) (maxL := maxL) (ret := ret) ho hl hin hse hcode hy hK (by rw [hT]; exact hcB) hoB hclB hg (hsize.trans hml.symm) (argsL := As) (rest := rest) (fun sig h => hn.trans (hlen sig h)) hstack hW (by rw [hb]; exact hdg)
    (fun vm₁ hW₁ => ⟨hf.1, hf.2, hPc (T.setVm vm₁) hT hW₁⟩)
  dsimp only [Pt.U, Pt.locs, Pt.cells, Pt.slots] at X' e1 e2 h1 h2 h3 st
  subst h1; subst h2; subst h3
  exact ⟨v, (T.setVm vm₁).calling g' mk (Value.ref b :: As).toArray, t, U', L, hT, X', hL, e1, e2, hq, st⟩
section
variable {y : MethodName} {bytes cc : ByteArray} {maxL nL mc ms n index : Nat} {ret : Option FieldType} {ws : List Cond} {rm : Room} {Pc : Array Value → State → Prop} {Qc : Array Value → State → Outcome → State → Prop} {XC : String → State → State → Prop} {free : Addr → Prop} {Ts : List Cond} {own C : String} {b : Addr} {As rest : List Value} {g : JFrame}
theorem vx_runVX {hh : List (Nat × Nat × Nat × Nat)} (S : CallFix p m c cc nL s args Ts own) (hM : vx_Met l y ws rm Pc Qc XC mc ms free) (cw : vx_CVW R s args own C index y bytes maxL ret hh ws rm mc ms n) (hp : PreV s H C b Pc As)
    (hg : g.method = m) (hn : As.length = n) (hsize : g.locals.size = nL) (hstack : g.stack = As.reverse ++ .ref b :: rest) (hW : 2 * g.monitorRoom + (rest.map fun v => v.category).sum ≤ 8) (hdg : decode cc g.pc = .ok (.invokevirtual index, 3)) (hf : cells + mc ≤ R.cells ∧ slots + ms ≤ R.slots) :
    vx_Run p l e R s m args below meth c H locs cells slots mc ms g rest (Qc (Value.ref b :: As).toArray) XC free := by
  obtain ⟨⟨hrc, hrs, hfr, hlo, hws, hcw⟩, hcode, hini, hy, hlen, hl, hin, hse⟩ := cw
  have hK : vx_Back l R p e below s args y 3 8 (PreOf R mc ms Pc) (PostOf Qc mc ms free) (vx_Post XC mc ms free) := vx_backW (hh := hh) (bytes := bytes) (maxL := maxL) (ret := ret) hM hp.1 hrc hrs hfr hlo hws hcw (fun a' U hW => word_at hW (Or.inl (by first | rfl | simp [Cond.onTables, Cond.keeps, Cond.steady])) hini)
  obtain ⟨hx, hb, hml, ho, -⟩ := S
  obtain ⟨-, ⟨cellB, hcB, hoB, hclB⟩, hPc⟩ := hp
  intro T hT X
  rcases vx_callVX X hx (C := C) (hh := hh) (bytes := bytes) (maxL := maxL) (ret := ret) ho hl hin hse hcode hy hK (by rw [hT]; exact hcB) hoB hclB hg (hsize.trans hml.symm) (argsL := As) (rest := rest) (fun sig h => hn.trans (hlen sig h)) hstack hW (by rw [hb]; exact hdg)
    (fun vm₁ hW₁ => ⟨hf.1, hf.2, hPc (T.setVm vm₁) hT hW₁⟩) with ⟨v, vm₁, ⟨U', l2, c2, s2⟩, hW₁, X', ⟨g', mk, t, L, e1, e2, hq, h1, hL, h2, h3⟩, st⟩ | ⟨q, vm₁, ⟨U', l2, c2, s2⟩, hW₁, X', ⟨g', mk, t, L, E, ce, e1, e2, hq, hce, hcv, hcl, h1, hL, h2, h3⟩, st⟩
  · dsimp only [Pt.U, Pt.locs, Pt.cells, Pt.slots] at X' e1 e2 h1 h2 h3 st
    subst h1; subst h2; subst h3
    exact Or.inl ⟨v, (T.setVm vm₁).calling g' mk (Value.ref b :: As).toArray, t, U', L, hT, X', hL, e1, e2, hq, st⟩
  · dsimp only [Pt.U, Pt.locs, Pt.cells, Pt.slots] at X' e1 e2 h1 h2 h3 st hcl
    subst h1; subst h2; subst h3
    exact Or.inr ⟨q, (T.setVm vm₁).calling g' mk (Value.ref b :: As).toArray, t, U', L, E, ce, hT, X', hL, e1, e2, hq, hce, hcv, vx_cls hW₁ hcl, st⟩
theorem vx_runSX {hh : List (Nat × Nat × Nat × Nat)} (S : CallFix p m c cc nL s args Ts own) (hM : vx_Met l y ws rm Pc Qc XC mc ms free) (cw : vx_CSW R s args own index y bytes maxL ret hh ws rm mc ms n) (hp : PreS s H Pc As)
    (hg : g.method = m) (hn : As.length = n) (hsize : g.locals.size = nL) (hstack : g.stack = As.reverse ++ rest) (hW : 2 * g.monitorRoom + (rest.map fun v => v.category).sum ≤ 8) (hdg : decode cc g.pc = .ok (.invokestatic index, 3)) (hf : cells + mc ≤ R.cells ∧ slots + ms ≤ R.slots) :
    vx_Run p l e R s m args below meth c H locs cells slots mc ms g rest (Qc As.toArray) XC free := by
  obtain ⟨⟨hrc, hrs, hfr, hlo, hws, hcw⟩, hcode, hini, hy, hlen, hl, hstt⟩ := cw
  have hK : vx_Back l R p e below s args y 3 8 (PreOf R mc ms Pc) (PostOf Qc mc ms free) (vx_Post XC mc ms free) := vx_backW (hh := hh) (bytes := bytes) (maxL := maxL) (ret := ret) hM hp.1 hrc hrs hfr hlo hws hcw (fun a' U hW => word_at hW (Or.inl (by first | rfl | simp [Cond.onTables, Cond.keeps, Cond.steady])) hini)
  obtain ⟨hx, hb, hml, ho, -⟩ := S
  intro T hT X
  rcases vx_callSX X hx (hh := hh) (bytes := bytes) (maxL := maxL) (ret := ret) ho hl hstt hini hcode hy hK hg (hsize.trans hml.symm) (argsL := As) (rest := rest) (fun sig h => hn.trans (hlen sig h)) hstack hW (by rw [hb]; exact hdg)
    (fun vm₁ hW₁ => ⟨hf.1, hf.2, hp.2 (T.setVm vm₁) hT hW₁⟩) with ⟨v, vm₁, ⟨U', l2, c2, s2⟩, hW₁, X', ⟨g', mk, t, L, e1, e2, hq, h1, hL, h2, h3⟩, st⟩ | ⟨q, vm₁, ⟨U', l2, c2, s2⟩, hW₁, X', ⟨g', mk, t, L, E, ce, e1, e2, hq, hce, hcv, hcl, h1, hL, h2, h3⟩, st⟩
  · dsimp only [Pt.U, Pt.locs, Pt.cells, Pt.slots] at X' e1 e2 h1 h2 h3 st
    subst h1; subst h2; subst h3
    exact Or.inl ⟨v, (T.setVm vm₁).calling g' mk As.toArray, t, U', L, hT, X', hL, e1, e2, hq, st⟩
  · dsimp only [Pt.U, Pt.locs, Pt.cells, Pt.slots] at X' e1 e2 h1 h2 h3 st hcl
    subst h1; subst h2; subst h3
    exact Or.inr ⟨q, (T.setVm vm₁).calling g' mk As.toArray, t, U', L, E, ce, hT, X', hL, e1, e2, hq, hce, hcv, vx_cls hW₁ hcl, st⟩
end
end VXH
theorem vx_ofWH {l : Launch} {y : MethodName} {ws ws' : List Cond} {rm : Room} {Pc : Array Value → State → Prop} {Qc : Array Value → State → Outcome → State → Prop} {XC : String → State → State → Prop} {mc ms : Nat} {free : Addr → Prop} {cc : ByteArray} {maxL : Nat} {ret : Option FieldType} {hh : List (Nat × Nat × Nat × Nat)}
    (hy : plainName y.cls = true) (hw : ws = Cond.codeWith y cc maxL ret hh :: ws')
    (body : ∀ p e s m args below meth c s₁, BodyLoose p l y (headSpec ws rm) cc maxL ret e s m args below meth c s₁ → c.maxLocals = maxL → Pc args s →
      W p l e (headSpec ws rm).room s m args below meth c s.heap [] 0 0 (vx_MQ below Qc XC args s mc ms free) (entryFrame m args maxL)) : vx_Met l y ws rm Pc Qc XC mc ms free := by
  refine MetFree.of_bodyS (code := cc) (maxLocals := maxL) (ret := ret) hy ?_ ?_
  · intro args s m h hn
    obtain ⟨m9, meth, c, hn9, h1, h2, h3, h4, -, h5, h6, -⟩ := Cond.codeWith_spec (atoms_spec (ws := ws) h _ (by rw [hw]; exact List.mem_cons_self))
    cases hn.symm.trans hn9
    exact ⟨meth, c, h1, h2, h3, h4, h5, h6⟩
  · intro p e s m args below meth c s₁ B hml hP _
    have hh0 : s₁.heap = s.heap := by rw [B.state]; rfl
    obtain ⟨t, a1, o, b1, b2, b3⟩ := body p e s m args below meth c s₁ B hml hP s₁ hh0 (Stand.of_body B)
    exact ⟨t, o, a1, b1, b2, b3⟩
/-! ===== END ===== -/
end
section
/-! ===== BEGIN printed: names, fields, word lists, decode rows ===== -/
def RX0 : String := "UnibusMachine$Bus"
def TX0 : u_T := fun k => match k with
  | 0 => ("UnibusMachine$Bus", "memory", "[I", true)
  | 1 => ("UnibusMachine$Bus", "map", "LUnibusMachine$PageMap;", true)
  | 2 => ("UnibusMachine$Bus", "status", "LUnibusMachine$Status;", true)
  | 3 => ("UnibusMachine$Bus", "keyboard", "LUnibusMachine$Keyboard;", true)
  | 4 => ("UnibusMachine$Bus", "printer", "LUnibusMachine$Printer;", true)
  | _ => ("UnibusMachine$Bus", "drive", "LUnibusMachine$Drive;", true)
def tyX0 : Nat → FieldType := fun k => match k with
  | 0 => .array .int
  | 1 => .object "UnibusMachine$PageMap"
  | 2 => .object "UnibusMachine$Status"
  | 3 => .object "UnibusMachine$Keyboard"
  | 4 => .object "UnibusMachine$Printer"
  | _ => .object "UnibusMachine$Drive"
abbrev wsX00 : List Cond := u_ws RX0 TX0 6
theorem nmX0 : ∀ a, a < 6 → ∀ b, b < 6 → a ≠ b → (TX0 a).2.1 ≠ (TX0 b).2.1 := by decide +kernel
theorem tyX0_ok : ∀ k, k < 6 → parseFieldDescriptor (TX0 k).2.2.1 = some (tyX0 k) := by decide +kernel
abbrev cX0_init : ByteArray := prog_2_method_1_code
def yX0_init : MethodName := ⟨RX0, "<init>", "()V"⟩
abbrev cX0_peek : ByteArray := prog_2_method_2_code
def yX0_peek : MethodName := ⟨RX0, "peek", "(I)I"⟩
abbrev cX0_read : ByteArray := prog_2_method_3_code
def yX0_read : MethodName := ⟨RX0, "read", "(I)I"⟩
abbrev cX0_write : ByteArray := prog_2_method_4_code
def yX0_write : MethodName := ⟨RX0, "write", "(II)Z"⟩
abbrev cX0_nextInstruction : ByteArray := prog_2_method_5_code
def yX0_nextInstruction : MethodName := ⟨RX0, "nextInstruction", "()V"⟩
abbrev cX0_goOn : ByteArray := prog_2_method_6_code
def yX0_goOn : MethodName := ⟨RX0, "goOn", "()V"⟩
abbrev cX0_reset : ByteArray := prog_2_method_7_code
def yX0_reset : MethodName := ⟨RX0, "reset", "()V"⟩
def RX1 : String := "UnibusMachine$Drive"
def TX1 : u_T := fun k => match k with
  | 0 => ("UnibusMachine$Line", "bits", "I", false)
  | 1 => ("UnibusMachine$Line", "wanting", "Z", false)
  | 2 => ("UnibusMachine$Drive", "words", "[I", true)
  | 3 => ("UnibusMachine$Drive", "writing", "I", false)
  | 4 => ("UnibusMachine$Drive", "wrong", "I", false)
  | 5 => ("UnibusMachine$Drive", "count", "I", false)
  | 6 => ("UnibusMachine$Drive", "address", "I", false)
  | 7 => ("UnibusMachine$Drive", "sector", "I", false)
  | 8 => ("UnibusMachine$Drive", "left", "I", false)
  | _ => ("UnibusMachine$Drive", "fresh", "Z", false)
def tyX1 : Nat → FieldType := fun k => match k with
  | 0 => .int
  | 1 => .boolean
  | 2 => .array .int
  | 3 => .int
  | 4 => .int
  | 5 => .int
  | 6 => .int
  | 7 => .int
  | 8 => .int
  | _ => .boolean
abbrev wsX10 : List Cond := u_ws RX1 TX1 10
theorem nmX1 : ∀ a, a < 10 → ∀ b, b < 10 → a ≠ b → (TX1 a).2.1 ≠ (TX1 b).2.1 := by decide +kernel
theorem tyX1_ok : ∀ k, k < 10 → parseFieldDescriptor (TX1 k).2.2.1 = some (tyX1 k) := by decide +kernel
abbrev cX1_init : ByteArray := prog_3_method_1_code
def yX1_init : MethodName := ⟨RX1, "<init>", "()V"⟩
abbrev cX1_begin : ByteArray := prog_3_method_2_code
def yX1_begin : MethodName := ⟨RX1, "begin", "(I)V"⟩
abbrev cX1_goOn : ByteArray := prog_3_method_3_code
def yX1_goOn : MethodName := ⟨RX1, "goOn", "([I)V"⟩
abbrev cX1_transfer : ByteArray := prog_3_method_4_code
def yX1_transfer : MethodName := ⟨RX1, "transfer", "([I)V"⟩
abbrev cX1_reset : ByteArray := prog_3_method_5_code
def yX1_reset : MethodName := ⟨RX1, "reset", "()V"⟩
def RX2 : String := "UnibusMachine$Keyboard"
def TX2 : u_T := fun k => match k with
  | 0 => ("UnibusMachine$Line", "bits", "I", false)
  | 1 => ("UnibusMachine$Line", "wanting", "Z", false)
  | _ => ("UnibusMachine$Keyboard", "character", "I", false)
def tyX2 : Nat → FieldType := fun k => match k with
  | 0 => .int
  | 1 => .boolean
  | _ => .int
abbrev wsX20 : List Cond := u_ws RX2 TX2 3
theorem nmX2 : ∀ a, a < 3 → ∀ b, b < 3 → a ≠ b → (TX2 a).2.1 ≠ (TX2 b).2.1 := by decide +kernel
theorem tyX2_ok : ∀ k, k < 3 → parseFieldDescriptor (TX2 k).2.2.1 = some (tyX2 k) := by decide +kernel
abbrev cX2_init : ByteArray := prog_4_method_1_code
def yX2_init : MethodName := ⟨RX2, "<init>", "()V"⟩
abbrev cX2_type : ByteArray := prog_4_method_2_code
def yX2_type : MethodName := ⟨RX2, "type", "(I)V"⟩
def RX3 : String := "UnibusMachine$Line"
def TX3 : u_T := fun k => match k with
  | _ => ("", "", "", false)
def tyX3 : Nat → FieldType := fun k => match k with
  | _ => .int
abbrev wsX30 : List Cond := u_ws RX3 TX3 0
theorem nmX3 : ∀ a, a < 0 → ∀ b, b < 0 → a ≠ b → (TX3 a).2.1 ≠ (TX3 b).2.1 := by decide +kernel
theorem tyX3_ok : ∀ k, k < 0 → parseFieldDescriptor (TX3 k).2.2.1 = some (tyX3 k) := by decide +kernel
abbrev cX3_init : ByteArray := prog_5_method_1_code
def yX3_init : MethodName := ⟨RX3, "<init>", "()V"⟩
abbrev cX3_become : ByteArray := prog_5_method_2_code
def yX3_become : MethodName := ⟨RX3, "become", "(I)V"⟩
def RX4 : String := "UnibusMachine$PageMap"
def TX4 : u_T := fun k => match k with
  | 0 => ("UnibusMachine$PageMap", "descriptors", "[I", true)
  | 1 => ("UnibusMachine$PageMap", "bases", "[I", true)
  | _ => ("UnibusMachine$PageMap", "control", "I", false)
def tyX4 : Nat → FieldType := fun k => match k with
  | 0 => .array .int
  | 1 => .array .int
  | _ => .int
abbrev wsX40 : List Cond := u_ws RX4 TX4 3
theorem nmX4 : ∀ a, a < 3 → ∀ b, b < 3 → a ≠ b → (TX4 a).2.1 ≠ (TX4 b).2.1 := by decide +kernel
theorem tyX4_ok : ∀ k, k < 3 → parseFieldDescriptor (TX4 k).2.2.1 = some (tyX4 k) := by decide +kernel
abbrev cX4_init : ByteArray := prog_6_method_1_code
def yX4_init : MethodName := ⟨RX4, "<init>", "()V"⟩
abbrev cX4_locate : ByteArray := prog_6_method_2_code
def yX4_locate : MethodName := ⟨RX4, "locate", "(IIZ)I"⟩
def RX5 : String := "UnibusMachine$Printer"
def TX5 : u_T := fun k => match k with
  | 0 => ("UnibusMachine$Line", "bits", "I", false)
  | 1 => ("UnibusMachine$Line", "wanting", "Z", false)
  | 2 => ("UnibusMachine$Printer", "paper", "[I", true)
  | 3 => ("UnibusMachine$Printer", "count", "I", false)
  | 4 => ("UnibusMachine$Printer", "character", "I", false)
  | 5 => ("UnibusMachine$Printer", "left", "I", false)
  | _ => ("UnibusMachine$Printer", "fresh", "Z", false)
def tyX5 : Nat → FieldType := fun k => match k with
  | 0 => .int
  | 1 => .boolean
  | 2 => .array .int
  | 3 => .int
  | 4 => .int
  | 5 => .int
  | _ => .boolean
abbrev wsX50 : List Cond := u_ws RX5 TX5 7
theorem nmX5 : ∀ a, a < 7 → ∀ b, b < 7 → a ≠ b → (TX5 a).2.1 ≠ (TX5 b).2.1 := by decide +kernel
theorem tyX5_ok : ∀ k, k < 7 → parseFieldDescriptor (TX5 k).2.2.1 = some (tyX5 k) := by decide +kernel
abbrev cX5_init : ByteArray := prog_7_method_1_code
def yX5_init : MethodName := ⟨RX5, "<init>", "()V"⟩
abbrev cX5_begin : ByteArray := prog_7_method_2_code
def yX5_begin : MethodName := ⟨RX5, "begin", "(I)V"⟩
abbrev cX5_goOn : ByteArray := prog_7_method_3_code
def yX5_goOn : MethodName := ⟨RX5, "goOn", "()V"⟩
abbrev cX5_reset : ByteArray := prog_7_method_4_code
def yX5_reset : MethodName := ⟨RX5, "reset", "()V"⟩
def RX6 : String := "UnibusMachine$Processor"
def TX6 : u_T := fun k => match k with
  | 0 => ("UnibusMachine$Processor", "registers", "[I", true)
  | 1 => ("UnibusMachine$Processor", "bus", "LUnibusMachine$Bus;", true)
  | 2 => ("UnibusMachine$Processor", "status", "LUnibusMachine$Status;", true)
  | 3 => ("UnibusMachine$Processor", "otherStack", "I", false)
  | 4 => ("UnibusMachine$Processor", "halted", "I", false)
  | 5 => ("UnibusMachine$Processor", "waiting", "Z", false)
  | 6 => ("UnibusMachine$Processor", "vector", "I", false)
  | 7 => ("UnibusMachine$Processor", "named", "I", false)
  | _ => ("UnibusMachine$Processor", "flags", "I", false)
def tyX6 : Nat → FieldType := fun k => match k with
  | 0 => .array .int
  | 1 => .object "UnibusMachine$Bus"
  | 2 => .object "UnibusMachine$Status"
  | 3 => .int
  | 4 => .int
  | 5 => .boolean
  | 6 => .int
  | 7 => .int
  | _ => .int
abbrev wsX60 : List Cond := u_ws RX6 TX6 9
theorem nmX6 : ∀ a, a < 9 → ∀ b, b < 9 → a ≠ b → (TX6 a).2.1 ≠ (TX6 b).2.1 := by decide +kernel
theorem tyX6_ok : ∀ k, k < 9 → parseFieldDescriptor (TX6 k).2.2.1 = some (tyX6 k) := by decide +kernel
abbrev cX6_init : ByteArray := prog_8_method_1_code
def yX6_init : MethodName := ⟨RX6, "<init>", "(LUnibusMachine$Bus;)V"⟩
abbrev cX6_mode : ByteArray := prog_8_method_2_code
def yX6_mode : MethodName := ⟨RX6, "mode", "()I"⟩
abbrev cX6_modeBefore : ByteArray := prog_8_method_3_code
def yX6_modeBefore : MethodName := ⟨RX6, "modeBefore", "()I"⟩
abbrev cX6_takeStatus : ByteArray := prog_8_method_4_code
def yX6_takeStatus : MethodName := ⟨RX6, "takeStatus", "(I)V"⟩
abbrev cX6_perform : ByteArray := prog_8_method_5_code
def yX6_perform : MethodName := ⟨RX6, "perform", "()V"⟩
abbrev cX6_settle : ByteArray := prog_8_method_6_code
def yX6_settle : MethodName := ⟨RX6, "settle", "()V"⟩
abbrev cX6_lookForInterrupt : ByteArray := prog_8_method_7_code
def yX6_lookForInterrupt : MethodName := ⟨RX6, "lookForInterrupt", "()V"⟩
abbrev cX6_enter : ByteArray := prog_8_method_8_code
def yX6_enter : MethodName := ⟨RX6, "enter", "(I)V"⟩
abbrev cX6_trap : ByteArray := prog_8_method_9_code
def yX6_trap : MethodName := ⟨RX6, "trap", "(I)V"⟩
abbrev cX6_stop : ByteArray := prog_8_method_10_code
def yX6_stop : MethodName := ⟨RX6, "stop", "(I)V"⟩
abbrev cX6_readWord : ByteArray := prog_8_method_11_code
def yX6_readWord : MethodName := ⟨RX6, "readWord", "(II)I"⟩
abbrev cX6_writeWord : ByteArray := prog_8_method_12_code
def yX6_writeWord : MethodName := ⟨RX6, "writeWord", "(III)V"⟩
abbrev cX6_readByte : ByteArray := prog_8_method_13_code
def yX6_readByte : MethodName := ⟨RX6, "readByte", "(I)I"⟩
abbrev cX6_writeByte : ByteArray := prog_8_method_14_code
def yX6_writeByte : MethodName := ⟨RX6, "writeByte", "(II)V"⟩
abbrev cX6_place : ByteArray := prog_8_method_15_code
def yX6_place : MethodName := ⟨RX6, "place", "(IIZ)I"⟩
abbrev cX6_push : ByteArray := prog_8_method_16_code
def yX6_push : MethodName := ⟨RX6, "push", "(I)V"⟩
abbrev cX6_pop : ByteArray := prog_8_method_17_code
def yX6_pop : MethodName := ⟨RX6, "pop", "()I"⟩
abbrev cX6_grow : ByteArray := prog_8_method_18_code
def yX6_grow : MethodName := ⟨RX6, "grow", "(II)I"⟩
abbrev cX6_fall : ByteArray := prog_8_method_19_code
def yX6_fall : MethodName := ⟨RX6, "fall", "(II)I"⟩
abbrev cX6_find : ByteArray := prog_8_method_20_code
def yX6_find : MethodName := ⟨RX6, "find", "(IZ)I"⟩
abbrev cX6_contents : ByteArray := prog_8_method_21_code
def yX6_contents : MethodName := ⟨RX6, "contents", "(IZ)I"⟩
abbrev cX6_put : ByteArray := prog_8_method_22_code
def yX6_put : MethodName := ⟨RX6, "put", "(IIZ)V"⟩
abbrev cX6_execute : ByteArray := prog_8_method_23_code
def yX6_execute : MethodName := ⟨RX6, "execute", "(I)V"⟩
abbrev cX6_mark : ByteArray := prog_8_method_24_code
def yX6_mark : MethodName := ⟨RX6, "mark", "(IIZI)V"⟩
abbrev cX6_doubleOperand : ByteArray := prog_8_method_25_code
def yX6_doubleOperand : MethodName := ⟨RX6, "doubleOperand", "(I)V"⟩
abbrev cX6_joined : ByteArray := prog_8_method_26_code
def yX6_joined : MethodName := ⟨RX6, "joined", "(IIII)I"⟩
abbrev cX6_overflowOfDouble : ByteArray := prog_8_method_27_code
def yX6_overflowOfDouble : MethodName := ⟨RX6, "overflowOfDouble", "(IIIII)Z"⟩
abbrev cX6_carryOfDouble : ByteArray := prog_8_method_28_code
def yX6_carryOfDouble : MethodName := ⟨RX6, "carryOfDouble", "(III)I"⟩
abbrev cX6_singleOperand : ByteArray := prog_8_method_29_code
def yX6_singleOperand : MethodName := ⟨RX6, "singleOperand", "(IIZ)V"⟩
abbrev cX6_changed : ByteArray := prog_8_method_30_code
def yX6_changed : MethodName := ⟨RX6, "changed", "(IIII)I"⟩
abbrev cX6_carryOfSingle : ByteArray := prog_8_method_31_code
def yX6_carryOfSingle : MethodName := ⟨RX6, "carryOfSingle", "(IIIII)I"⟩
abbrev cX6_overflowOfSingle : ByteArray := prog_8_method_32_code
def yX6_overflowOfSingle : MethodName := ⟨RX6, "overflowOfSingle", "(IIIII)Z"⟩
abbrev cX6_multiply : ByteArray := prog_8_method_33_code
def yX6_multiply : MethodName := ⟨RX6, "multiply", "(I)V"⟩
abbrev cX6_exclusiveOr : ByteArray := prog_8_method_34_code
def yX6_exclusiveOr : MethodName := ⟨RX6, "exclusiveOr", "(I)V"⟩
abbrev cX6_countDown : ByteArray := prog_8_method_35_code
def yX6_countDown : MethodName := ⟨RX6, "countDown", "(I)V"⟩
abbrev cX6_signed : ByteArray := prog_8_method_36_code
def yX6_signed : MethodName := ⟨RX6, "signed", "(I)I"⟩
abbrev cX6_branch : ByteArray := prog_8_method_37_code
def yX6_branch : MethodName := ⟨RX6, "branch", "(I)V"⟩
abbrev cX6_branches : ByteArray := prog_8_method_38_code
def yX6_branches : MethodName := ⟨RX6, "branches", "(I)Z"⟩
abbrev cX6_withoutOperand : ByteArray := prog_8_method_39_code
def yX6_withoutOperand : MethodName := ⟨RX6, "withoutOperand", "(I)V"⟩
abbrev cX6_returnFromTrap : ByteArray := prog_8_method_40_code
def yX6_returnFromTrap : MethodName := ⟨RX6, "returnFromTrap", "()V"⟩
abbrev cX6_returnOrFlags : ByteArray := prog_8_method_41_code
def yX6_returnOrFlags : MethodName := ⟨RX6, "returnOrFlags", "(I)V"⟩
abbrev cX6_jump : ByteArray := prog_8_method_42_code
def yX6_jump : MethodName := ⟨RX6, "jump", "(I)V"⟩
abbrev cX6_jumpToSubroutine : ByteArray := prog_8_method_43_code
def yX6_jumpToSubroutine : MethodName := ⟨RX6, "jumpToSubroutine", "(I)V"⟩
abbrev cX6_swapBytes : ByteArray := prog_8_method_44_code
def yX6_swapBytes : MethodName := ⟨RX6, "swapBytes", "(I)V"⟩
abbrev cX6_extendSign : ByteArray := prog_8_method_45_code
def yX6_extendSign : MethodName := ⟨RX6, "extendSign", "(I)V"⟩
abbrev cX6_moveFromBefore : ByteArray := prog_8_method_46_code
def yX6_moveFromBefore : MethodName := ⟨RX6, "moveFromBefore", "(I)V"⟩
abbrev cX6_moveToBefore : ByteArray := prog_8_method_47_code
def yX6_moveToBefore : MethodName := ⟨RX6, "moveToBefore", "(I)V"⟩
abbrev cX6_isOtherStack : ByteArray := prog_8_method_48_code
def yX6_isOtherStack : MethodName := ⟨RX6, "isOtherStack", "(I)Z"⟩
def RX7 : String := "UnibusMachine$Status"
def TX7 : u_T := fun k => match k with
  | 0 => ("UnibusMachine$Status", "now", "I", false)
  | _ => ("UnibusMachine$Status", "written", "I", false)
def tyX7 : Nat → FieldType := fun k => match k with
  | 0 => .int
  | _ => .int
abbrev wsX70 : List Cond := u_ws RX7 TX7 2
theorem nmX7 : ∀ a, a < 2 → ∀ b, b < 2 → a ≠ b → (TX7 a).2.1 ≠ (TX7 b).2.1 := by decide +kernel
theorem tyX7_ok : ∀ k, k < 2 → parseFieldDescriptor (TX7 k).2.2.1 = some (tyX7 k) := by decide +kernel
abbrev cX7_init : ByteArray := prog_9_method_1_code
def yX7_init : MethodName := ⟨RX7, "<init>", "()V"⟩
def RX8 : String := "UnibusMachine"
def TX8 : u_T := fun k => match k with
  | 0 => ("UnibusMachine", "bus", "LUnibusMachine$Bus;", true)
  | _ => ("UnibusMachine", "processor", "LUnibusMachine$Processor;", true)
def tyX8 : Nat → FieldType := fun k => match k with
  | 0 => .object "UnibusMachine$Bus"
  | _ => .object "UnibusMachine$Processor"
abbrev wsX80 : List Cond := u_ws RX8 TX8 2
theorem nmX8 : ∀ a, a < 2 → ∀ b, b < 2 → a ≠ b → (TX8 a).2.1 ≠ (TX8 b).2.1 := by decide +kernel
theorem tyX8_ok : ∀ k, k < 2 → parseFieldDescriptor (TX8 k).2.2.1 = some (tyX8 k) := by decide +kernel
abbrev cX8_init : ByteArray := prog_1_method_1_code
def yX8_init : MethodName := ⟨RX8, "<init>", "()V"⟩
abbrev cX8_deposit : ByteArray := prog_1_method_2_code
def yX8_deposit : MethodName := ⟨RX8, "deposit", "(II)V"⟩
abbrev cX8_examine : ByteArray := prog_1_method_3_code
def yX8_examine : MethodName := ⟨RX8, "examine", "(I)I"⟩
abbrev cX8_set : ByteArray := prog_1_method_4_code
def yX8_set : MethodName := ⟨RX8, "set", "(II)V"⟩
abbrev cX8_register : ByteArray := prog_1_method_5_code
def yX8_register : MethodName := ⟨RX8, "register", "(I)I"⟩
abbrev cX8_start : ByteArray := prog_1_method_6_code
def yX8_start : MethodName := ⟨RX8, "start", "(I)V"⟩
abbrev cX8_run : ByteArray := prog_1_method_7_code
def yX8_run : MethodName := ⟨RX8, "run", "(I)I"⟩
abbrev cX8_key : ByteArray := prog_1_method_8_code
def yX8_key : MethodName := ⟨RX8, "key", "(I)V"⟩
abbrev cX8_printed : ByteArray := prog_1_method_9_code
def yX8_printed : MethodName := ⟨RX8, "printed", "(I)I"⟩
abbrev cX8_load : ByteArray := prog_1_method_10_code
def yX8_load : MethodName := ⟨RX8, "load", "(III)V"⟩
abbrev cX8_disk : ByteArray := prog_1_method_11_code
def yX8_disk : MethodName := ⟨RX8, "disk", "(II)I"⟩
abbrev cX8_device : ByteArray := prog_1_method_12_code
def yX8_device : MethodName := ⟨RX8, "device", "(I)I"⟩
abbrev cX8_state : ByteArray := prog_1_method_13_code
def yX8_state : MethodName := ⟨RX8, "state", "()I"⟩
abbrev cX8_isWord : ByteArray := prog_1_method_14_code
def yX8_isWord : MethodName := ⟨RX8, "isWord", "(I)Z"⟩
abbrev cX8_isMemory : ByteArray := prog_1_method_15_code
def yX8_isMemory : MethodName := ⟨RX8, "isMemory", "(I)Z"⟩
abbrev cX8_isDiskWord : ByteArray := prog_1_method_16_code
def yX8_isDiskWord : MethodName := ⟨RX8, "isDiskWord", "(II)Z"⟩
def RX9 : String := "UnibusMachineModel"
def TX9 : u_T := fun k => match k with
  | 0 => ("UnibusMachineModel", "thrown", "I", false)
  | 1 => ("UnibusMachineModel", "memory", "[I", true)
  | 2 => ("UnibusMachineModel", "descriptor", "[I", true)
  | 3 => ("UnibusMachineModel", "base", "[I", true)
  | 4 => ("UnibusMachineModel", "control", "I", false)
  | 5 => ("UnibusMachineModel", "status", "I", false)
  | 6 => ("UnibusMachineModel", "reg", "[I", true)
  | 7 => ("UnibusMachineModel", "farStack", "I", false)
  | 8 => ("UnibusMachineModel", "mode", "I", false)
  | 9 => ("UnibusMachineModel", "state", "I", false)
  | 10 => ("UnibusMachineModel", "wrong", "I", false)
  | 11 => ("UnibusMachineModel", "over", "Z", false)
  | 12 => ("UnibusMachineModel", "carry", "Z", false)
  | 13 => ("UnibusMachineModel", "ready", "[Z", true)
  | 14 => ("UnibusMachineModel", "enabled", "[Z", true)
  | 15 => ("UnibusMachineModel", "both", "[Z", true)
  | 16 => ("UnibusMachineModel", "wants", "[Z", true)
  | 17 => ("UnibusMachineModel", "busy", "[I", true)
  | 18 => ("UnibusMachineModel", "typed", "I", false)
  | 19 => ("UnibusMachineModel", "printing", "I", false)
  | 20 => ("UnibusMachineModel", "count", "I", false)
  | 21 => ("UnibusMachineModel", "paper", "[I", true)
  | 22 => ("UnibusMachineModel", "sectors", "[I", true)
  | 23 => ("UnibusMachineModel", "writes", "Z", false)
  | 24 => ("UnibusMachineModel", "failed", "Z", false)
  | 25 => ("UnibusMachineModel", "many", "I", false)
  | 26 => ("UnibusMachineModel", "from", "I", false)
  | _ => ("UnibusMachineModel", "sector", "I", false)
def tyX9 : Nat → FieldType := fun k => match k with
  | 0 => .int
  | 1 => .array .int
  | 2 => .array .int
  | 3 => .array .int
  | 4 => .int
  | 5 => .int
  | 6 => .array .int
  | 7 => .int
  | 8 => .int
  | 9 => .int
  | 10 => .int
  | 11 => .boolean
  | 12 => .boolean
  | 13 => .array .boolean
  | 14 => .array .boolean
  | 15 => .array .boolean
  | 16 => .array .boolean
  | 17 => .array .int
  | 18 => .int
  | 19 => .int
  | 20 => .int
  | 21 => .array .int
  | 22 => .array .int
  | 23 => .boolean
  | 24 => .boolean
  | 25 => .int
  | 26 => .int
  | _ => .int
abbrev wsX90 : List Cond := u_ws RX9 TX9 28
theorem nmX9 : ∀ a, a < 28 → ∀ b, b < 28 → a ≠ b → (TX9 a).2.1 ≠ (TX9 b).2.1 := by decide +kernel
theorem tyX9_ok : ∀ k, k < 28 → parseFieldDescriptor (TX9 k).2.2.1 = some (tyX9 k) := by decide +kernel
abbrev cX9_init : ByteArray := prog_11_method_1_code
def yX9_init : MethodName := ⟨RX9, "<init>", "()V"⟩
abbrev cX9_thrown : ByteArray := prog_11_method_2_code
def yX9_thrown : MethodName := ⟨RX9, "thrown", "()I"⟩
abbrev cX9_out : ByteArray := prog_11_method_3_code
def yX9_out : MethodName := ⟨RX9, "out", "(II)Z"⟩
abbrev cX9_fail : ByteArray := prog_11_method_4_code
def yX9_fail : MethodName := ⟨RX9, "fail", "(I)I"⟩
abbrev cX9_signed : ByteArray := prog_11_method_5_code
def yX9_signed : MethodName := ⟨RX9, "signed", "(I)I"⟩
abbrev cX9_bit : ByteArray := prog_11_method_6_code
def yX9_bit : MethodName := ⟨RX9, "bit", "(ZI)I"⟩
abbrev cX9_statusOf : ByteArray := prog_11_method_7_code
def yX9_statusOf : MethodName := ⟨RX9, "statusOf", "(I)I"⟩
abbrev cX9_at : ByteArray := prog_11_method_8_code
def yX9_at : MethodName := ⟨RX9, "at", "(I)I"⟩
abbrev cX9_read : ByteArray := prog_11_method_9_code
def yX9_read : MethodName := ⟨RX9, "read", "(I)I"⟩
abbrev cX9_write : ByteArray := prog_11_method_10_code
def yX9_write : MethodName := ⟨RX9, "write", "(II)V"⟩
abbrev cX9_print : ByteArray := prog_11_method_11_code
def yX9_print : MethodName := ⟨RX9, "print", "(I)V"⟩
abbrev cX9_order : ByteArray := prog_11_method_12_code
def yX9_order : MethodName := ⟨RX9, "order", "(I)V"⟩
abbrev cX9_move : ByteArray := prog_11_method_13_code
def yX9_move : MethodName := ⟨RX9, "move", "()V"⟩
abbrev cX9_mapped : ByteArray := prog_11_method_14_code
def yX9_mapped : MethodName := ⟨RX9, "mapped", "(IIZ)I"⟩
abbrev cX9_wordAt : ByteArray := prog_11_method_15_code
def yX9_wordAt : MethodName := ⟨RX9, "wordAt", "(II)I"⟩
abbrev cX9_setWord : ByteArray := prog_11_method_16_code
def yX9_setWord : MethodName := ⟨RX9, "setWord", "(III)V"⟩
abbrev cX9_byteAt : ByteArray := prog_11_method_17_code
def yX9_byteAt : MethodName := ⟨RX9, "byteAt", "(II)I"⟩
abbrev cX9_setByte : ByteArray := prog_11_method_18_code
def yX9_setByte : MethodName := ⟨RX9, "setByte", "(III)V"⟩
abbrev cX9_settle : ByteArray := prog_11_method_19_code
def yX9_settle : MethodName := ⟨RX9, "settle", "()V"⟩
abbrev cX9_put : ByteArray := prog_11_method_20_code
def yX9_put : MethodName := ⟨RX9, "put", "(II)V"⟩
abbrev cX9_fetch : ByteArray := prog_11_method_21_code
def yX9_fetch : MethodName := ⟨RX9, "fetch", "()I"⟩
abbrev cX9_push : ByteArray := prog_11_method_22_code
def yX9_push : MethodName := ⟨RX9, "push", "(I)V"⟩
abbrev cX9_pop : ByteArray := prog_11_method_23_code
def yX9_pop : MethodName := ⟨RX9, "pop", "()I"⟩
abbrev cX9_find : ByteArray := prog_11_method_24_code
def yX9_find : MethodName := ⟨RX9, "find", "(IZ)I"⟩
abbrev cX9_value : ByteArray := prog_11_method_25_code
def yX9_value : MethodName := ⟨RX9, "value", "(IZ)I"⟩
abbrev cX9_keep : ByteArray := prog_11_method_26_code
def yX9_keep : MethodName := ⟨RX9, "keep", "(IZI)V"⟩
abbrev cX9_isSet : ByteArray := prog_11_method_27_code
def yX9_isSet : MethodName := ⟨RX9, "isSet", "(I)Z"⟩
abbrev cX9_setFlags : ByteArray := prog_11_method_28_code
def yX9_setFlags : MethodName := ⟨RX9, "setFlags", "(ZZZZ)V"⟩
abbrev cX9_show : ByteArray := prog_11_method_29_code
def yX9_show : MethodName := ⟨RX9, "show", "(IZ)V"⟩
abbrev cX9_number : ByteArray := prog_11_method_30_code
def yX9_number : MethodName := ⟨RX9, "number", "(IZ)I"⟩
abbrev cX9_sum : ByteArray := prog_11_method_31_code
def yX9_sum : MethodName := ⟨RX9, "sum", "(IIIZ)I"⟩
abbrev cX9_step : ByteArray := prog_11_method_32_code
def yX9_step : MethodName := ⟨RX9, "step", "()V"⟩
abbrev cX9_two : ByteArray := prog_11_method_33_code
def yX9_two : MethodName := ⟨RX9, "two", "(II)V"⟩
abbrev cX9_extended : ByteArray := prog_11_method_34_code
def yX9_extended : MethodName := ⟨RX9, "extended", "(I)V"⟩
abbrev cX9_multiply : ByteArray := prog_11_method_35_code
def yX9_multiply : MethodName := ⟨RX9, "multiply", "(II)V"⟩
abbrev cX9_rest : ByteArray := prog_11_method_36_code
def yX9_rest : MethodName := ⟨RX9, "rest", "(I)V"⟩
abbrev cX9_branch : ByteArray := prog_11_method_37_code
def yX9_branch : MethodName := ⟨RX9, "branch", "(I)V"⟩
abbrev cX9_call : ByteArray := prog_11_method_38_code
def yX9_call : MethodName := ⟨RX9, "call", "(I)V"⟩
abbrev cX9_small : ByteArray := prog_11_method_39_code
def yX9_small : MethodName := ⟨RX9, "small", "(I)V"⟩
abbrev cX9_special : ByteArray := prog_11_method_40_code
def yX9_special : MethodName := ⟨RX9, "special", "(I)V"⟩
abbrev cX9_comeBack : ByteArray := prog_11_method_41_code
def yX9_comeBack : MethodName := ⟨RX9, "comeBack", "()V"⟩
abbrev cX9_reset : ByteArray := prog_11_method_42_code
def yX9_reset : MethodName := ⟨RX9, "reset", "()V"⟩
abbrev cX9_swap : ByteArray := prog_11_method_43_code
def yX9_swap : MethodName := ⟨RX9, "swap", "(I)V"⟩
abbrev cX9_one : ByteArray := prog_11_method_44_code
def yX9_one : MethodName := ⟨RX9, "one", "(IZ)V"⟩
abbrev cX9_signs : ByteArray := prog_11_method_45_code
def yX9_signs : MethodName := ⟨RX9, "signs", "(I)V"⟩
abbrev cX9_fromBefore : ByteArray := prog_11_method_46_code
def yX9_fromBefore : MethodName := ⟨RX9, "fromBefore", "(I)V"⟩
abbrev cX9_toBefore : ByteArray := prog_11_method_47_code
def yX9_toBefore : MethodName := ⟨RX9, "toBefore", "(I)V"⟩
abbrev cX9_single : ByteArray := prog_11_method_48_code
def yX9_single : MethodName := ⟨RX9, "single", "(IIZ)V"⟩
abbrev cX9_turned : ByteArray := prog_11_method_49_code
def yX9_turned : MethodName := ⟨RX9, "turned", "(IIII)I"⟩
abbrev cX9_trap : ByteArray := prog_11_method_50_code
def yX9_trap : MethodName := ⟨RX9, "trap", "(I)V"⟩
abbrev cX9_goOn : ByteArray := prog_11_method_51_code
def yX9_goOn : MethodName := ⟨RX9, "goOn", "()V"⟩
abbrev cX9_finish : ByteArray := prog_11_method_52_code
def yX9_finish : MethodName := ⟨RX9, "finish", "(I)V"⟩
abbrev cX9_isWord : ByteArray := prog_11_method_53_code
def yX9_isWord : MethodName := ⟨RX9, "isWord", "(I)Z"⟩
abbrev cX9_cell : ByteArray := prog_11_method_54_code
def yX9_cell : MethodName := ⟨RX9, "cell", "(I)Z"⟩
abbrev cX9_deposit : ByteArray := prog_11_method_55_code
def yX9_deposit : MethodName := ⟨RX9, "deposit", "(II)V"⟩
abbrev cX9_examine : ByteArray := prog_11_method_56_code
def yX9_examine : MethodName := ⟨RX9, "examine", "(I)I"⟩
abbrev cX9_set : ByteArray := prog_11_method_57_code
def yX9_set : MethodName := ⟨RX9, "set", "(II)V"⟩
abbrev cX9_register : ByteArray := prog_11_method_58_code
def yX9_register : MethodName := ⟨RX9, "register", "(I)I"⟩
abbrev cX9_start : ByteArray := prog_11_method_59_code
def yX9_start : MethodName := ⟨RX9, "start", "(I)V"⟩
abbrev cX9_run : ByteArray := prog_11_method_60_code
def yX9_run : MethodName := ⟨RX9, "run", "(I)I"⟩
abbrev cX9_key : ByteArray := prog_11_method_61_code
def yX9_key : MethodName := ⟨RX9, "key", "(I)V"⟩
abbrev cX9_printed : ByteArray := prog_11_method_62_code
def yX9_printed : MethodName := ⟨RX9, "printed", "(I)I"⟩
abbrev cX9_load : ByteArray := prog_11_method_63_code
def yX9_load : MethodName := ⟨RX9, "load", "(III)V"⟩
abbrev cX9_disk : ByteArray := prog_11_method_64_code
def yX9_disk : MethodName := ⟨RX9, "disk", "(II)I"⟩
abbrev cX9_device : ByteArray := prog_11_method_65_code
def yX9_device : MethodName := ⟨RX9, "device", "(I)I"⟩
abbrev cX9_state : ByteArray := prog_11_method_66_code
def yX9_state : MethodName := ⟨RX9, "state", "()I"⟩
def RL : String := "UnibusMachineLaw"
abbrev cL_deposit : ByteArray := method_3_code
def yL_deposit : MethodName := ⟨RL, "deposit", "(LUnibusMachine;II)I"⟩
abbrev cL_examine : ByteArray := method_4_code
def yL_examine : MethodName := ⟨RL, "examine", "(LUnibusMachine;I[J)I"⟩
abbrev cL_set : ByteArray := method_5_code
def yL_set : MethodName := ⟨RL, "set", "(LUnibusMachine;II)I"⟩
abbrev cL_register : ByteArray := method_6_code
def yL_register : MethodName := ⟨RL, "register", "(LUnibusMachine;I[J)I"⟩
abbrev cL_start : ByteArray := method_7_code
def yL_start : MethodName := ⟨RL, "start", "(LUnibusMachine;I)I"⟩
abbrev cL_run : ByteArray := method_8_code
def yL_run : MethodName := ⟨RL, "run", "(LUnibusMachine;I[J)I"⟩
abbrev cL_key : ByteArray := method_9_code
def yL_key : MethodName := ⟨RL, "key", "(LUnibusMachine;I)I"⟩
abbrev cL_printed : ByteArray := method_10_code
def yL_printed : MethodName := ⟨RL, "printed", "(LUnibusMachine;I[J)I"⟩
abbrev cL_load : ByteArray := method_11_code
def yL_load : MethodName := ⟨RL, "load", "(LUnibusMachine;III)I"⟩
abbrev cL_disk : ByteArray := method_12_code
def yL_disk : MethodName := ⟨RL, "disk", "(LUnibusMachine;II[J)I"⟩
abbrev cL_law : ByteArray := code
def yL_law : MethodName := ⟨RL, "law", "([I)Z"⟩
def wsX4_init : List Cond := .code yX4_init cX4_init 1 none :: ([.methodLink RX4 3 objectInit, .instanceMethod objectInit, .code objectInit ⟨#[0xb1]⟩ 1 none, .arrayClass .int, .fieldLink RX4 9 "UnibusMachine$PageMap" "descriptors" "[I", .fieldLink RX4 13 "UnibusMachine$PageMap" "bases" "[I", .fieldLink RX4 16 "UnibusMachine$PageMap" "control" "I"] ++ wsX40)
def wsX7_init : List Cond := .code yX7_init cX7_init 1 none :: ([.methodLink RX7 1 objectInit, .instanceMethod objectInit, .code objectInit ⟨#[0xb1]⟩ 1 none, .fieldLink RX7 7 "UnibusMachine$Status" "now" "I", .fieldLink RX7 13 "UnibusMachine$Status" "written" "I"] ++ wsX70)
def wsX3_init : List Cond := .code yX3_init cX3_init 1 none :: ([.methodLink RX3 3 objectInit, .instanceMethod objectInit, .code objectInit ⟨#[0xb1]⟩ 1 none, .fieldLink RX3 9 "UnibusMachine$Line" "bits" "I", .fieldLink RX3 13 "UnibusMachine$Line" "wanting" "Z"] ++ wsX10 ++ wsX20 ++ wsX50)
def wsX2_init : List Cond := .code yX2_init cX2_init 1 none :: ([.fieldLink RX2 7 "UnibusMachine$Keyboard" "character" "I", .instanceMethod yX3_init, .initialized RX3, .code yX3_init cX3_init 1 none, .methodLink RX3 3 objectInit, .instanceMethod objectInit, .code objectInit ⟨#[0xb1]⟩ 1 none, .fieldLink RX3 9 "UnibusMachine$Line" "bits" "I", .fieldLink RX3 13 "UnibusMachine$Line" "wanting" "Z"] ++ wsX20 ++ wsX10 ++ wsX50)
def wsX5_init : List Cond := .code yX5_init cX5_init 1 none :: ([.arrayClass .int, .fieldLink RX5 9 "UnibusMachine$Printer" "paper" "[I", .fieldLink RX5 13 "UnibusMachine$Printer" "count" "I", .fieldLink RX5 17 "UnibusMachine$Printer" "character" "I", .fieldLink RX5 20 "UnibusMachine$Printer" "left" "I", .fieldLink RX5 23 "UnibusMachine$Printer" "fresh" "Z", .fieldLink RX5 27 "UnibusMachine$Printer" "bits" "I", .sameField "UnibusMachine$Printer" "UnibusMachine$Line" "bits" "I", .instanceMethod yX3_init, .initialized RX3, .code yX3_init cX3_init 1 none, .methodLink RX3 3 objectInit, .instanceMethod objectInit, .code objectInit ⟨#[0xb1]⟩ 1 none, .fieldLink RX3 9 "UnibusMachine$Line" "bits" "I", .fieldLink RX3 13 "UnibusMachine$Line" "wanting" "Z"] ++ wsX50 ++ wsX10 ++ wsX20)
def wsX1_init : List Cond := .code yX1_init cX1_init 1 none :: ([.arrayClass .int, .fieldLink RX1 9 "UnibusMachine$Drive" "words" "[I", .fieldLink RX1 13 "UnibusMachine$Drive" "writing" "I", .fieldLink RX1 17 "UnibusMachine$Drive" "wrong" "I", .fieldLink RX1 20 "UnibusMachine$Drive" "count" "I", .fieldLink RX1 23 "UnibusMachine$Drive" "address" "I", .fieldLink RX1 26 "UnibusMachine$Drive" "sector" "I", .fieldLink RX1 29 "UnibusMachine$Drive" "left" "I", .fieldLink RX1 32 "UnibusMachine$Drive" "fresh" "Z", .fieldLink RX1 36 "UnibusMachine$Drive" "bits" "I", .sameField "UnibusMachine$Drive" "UnibusMachine$Line" "bits" "I", .instanceMethod yX3_init, .initialized RX3, .code yX3_init cX3_init 1 none, .methodLink RX3 3 objectInit, .instanceMethod objectInit, .code objectInit ⟨#[0xb1]⟩ 1 none, .fieldLink RX3 9 "UnibusMachine$Line" "bits" "I", .fieldLink RX3 13 "UnibusMachine$Line" "wanting" "Z"] ++ wsX10 ++ wsX20 ++ wsX50)
def wsX0_init_r1 : List Cond := [Cond.methodLink RX0 1 objectInit, Cond.instanceMethod objectInit, Cond.code objectInit ⟨#[0xb1]⟩ 1 none, Cond.arrayClass .int, Cond.fieldLink RX0 9 "UnibusMachine$Bus" "memory" "[I", Cond.classLink RX0 13 RX4, Cond.instantiable RX4 3, Cond.initialized RX4, Cond.fieldLink RX0 16 "UnibusMachine$Bus" "map" "LUnibusMachine$PageMap;", Cond.classLink RX0 20 RX7, Cond.instantiable RX7 2, Cond.initialized RX7, Cond.fieldLink RX0 23 "UnibusMachine$Bus" "status" "LUnibusMachine$Status;", Cond.classLink RX0 27 RX2, Cond.instantiable RX2 3, Cond.initialized RX2, Cond.fieldLink RX0 30 "UnibusMachine$Bus" "keyboard" "LUnibusMachine$Keyboard;", Cond.classLink RX0 34 RX5, Cond.instantiable RX5 7, Cond.initialized RX5, Cond.fieldLink RX0 37 "UnibusMachine$Bus" "printer" "LUnibusMachine$Printer;", Cond.classLink RX0 41 RX1, Cond.instantiable RX1 10, Cond.initialized RX1]
def wsX0_init_r2 : List Cond := [Cond.fieldLink RX0 44 "UnibusMachine$Bus" "drive" "LUnibusMachine$Drive;", Cond.instanceMethod yX4_init, Cond.code yX4_init cX4_init 1 none, Cond.methodLink RX4 3 objectInit, Cond.fieldLink RX4 9 "UnibusMachine$PageMap" "descriptors" "[I", Cond.fieldLink RX4 13 "UnibusMachine$PageMap" "bases" "[I", Cond.fieldLink RX4 16 "UnibusMachine$PageMap" "control" "I", Cond.instanceMethod yX7_init, Cond.code yX7_init cX7_init 1 none, Cond.methodLink RX7 1 objectInit, Cond.fieldLink RX7 7 "UnibusMachine$Status" "now" "I", Cond.fieldLink RX7 13 "UnibusMachine$Status" "written" "I", Cond.instanceMethod yX2_init, Cond.code yX2_init cX2_init 1 none, Cond.fieldLink RX2 7 "UnibusMachine$Keyboard" "character" "I", Cond.instanceMethod yX3_init, Cond.initialized RX3, Cond.code yX3_init cX3_init 1 none, Cond.methodLink RX3 3 objectInit, Cond.fieldLink RX3 9 "UnibusMachine$Line" "bits" "I", Cond.fieldLink RX3 13 "UnibusMachine$Line" "wanting" "Z", Cond.methodLink RX0 36 yX5_init, Cond.instanceMethod yX5_init, Cond.code yX5_init cX5_init 1 none]
def wsX0_init_r3 : List Cond := [Cond.fieldLink RX5 9 "UnibusMachine$Printer" "paper" "[I", Cond.fieldLink RX5 13 "UnibusMachine$Printer" "count" "I", Cond.fieldLink RX5 17 "UnibusMachine$Printer" "character" "I", Cond.fieldLink RX5 20 "UnibusMachine$Printer" "left" "I", Cond.fieldLink RX5 23 "UnibusMachine$Printer" "fresh" "Z", Cond.fieldLink RX5 27 "UnibusMachine$Printer" "bits" "I", Cond.sameField "UnibusMachine$Printer" "UnibusMachine$Line" "bits" "I", Cond.methodLink RX0 43 yX1_init, Cond.instanceMethod yX1_init, Cond.code yX1_init cX1_init 1 none, Cond.fieldLink RX1 9 "UnibusMachine$Drive" "words" "[I", Cond.fieldLink RX1 13 "UnibusMachine$Drive" "writing" "I", Cond.fieldLink RX1 17 "UnibusMachine$Drive" "wrong" "I", Cond.fieldLink RX1 20 "UnibusMachine$Drive" "count" "I", Cond.fieldLink RX1 23 "UnibusMachine$Drive" "address" "I", Cond.fieldLink RX1 26 "UnibusMachine$Drive" "sector" "I", Cond.fieldLink RX1 29 "UnibusMachine$Drive" "left" "I", Cond.fieldLink RX1 32 "UnibusMachine$Drive" "fresh" "Z", Cond.fieldLink RX1 36 "UnibusMachine$Drive" "bits" "I", Cond.sameField "UnibusMachine$Drive" "UnibusMachine$Line" "bits" "I"]
def wsX0_init : List Cond := .code yX0_init cX0_init 1 none :: ((wsX0_init_r1 ++ (wsX0_init_r2 ++ wsX0_init_r3)) ++ wsX00 ++ wsX40 ++ wsX70 ++ wsX20 ++ wsX50 ++ wsX10)
def wsX0_peek_r1 : List Cond := [Cond.fieldLink RX0 9 "UnibusMachine$Bus" "memory" "[I", Cond.constant RX0 48 (57344), Cond.constant RX0 49 (57376), Cond.fieldLink RX0 16 "UnibusMachine$Bus" "map" "LUnibusMachine$PageMap;", Cond.fieldLink RX0 50 "UnibusMachine$PageMap" "descriptors" "[I", Cond.constant RX0 53 (57408), Cond.fieldLink RX0 54 "UnibusMachine$PageMap" "bases" "[I", Cond.fieldLink RX0 57 "UnibusMachine$PageMap" "control" "I", Cond.fieldLink RX0 30 "UnibusMachine$Bus" "keyboard" "LUnibusMachine$Keyboard;", Cond.fieldLink RX0 61 "UnibusMachine$Keyboard" "bits" "I", Cond.sameField "UnibusMachine$Keyboard" "UnibusMachine$Line" "bits" "I", Cond.fieldLink RX0 64 "UnibusMachine$Keyboard" "character" "I", Cond.fieldLink RX0 37 "UnibusMachine$Bus" "printer" "LUnibusMachine$Printer;", Cond.fieldLink RX0 67 "UnibusMachine$Printer" "bits" "I", Cond.sameField "UnibusMachine$Printer" "UnibusMachine$Line" "bits" "I", Cond.fieldLink RX0 44 "UnibusMachine$Bus" "drive" "LUnibusMachine$Drive;", Cond.fieldLink RX0 68 "UnibusMachine$Drive" "bits" "I", Cond.sameField "UnibusMachine$Drive" "UnibusMachine$Line" "bits" "I", Cond.fieldLink RX0 69 "UnibusMachine$Drive" "writing" "I", Cond.fieldLink RX0 72 "UnibusMachine$Drive" "wrong" "I", Cond.fieldLink RX0 75 "UnibusMachine$Drive" "count" "I", Cond.fieldLink RX0 78 "UnibusMachine$Drive" "address" "I", Cond.fieldLink RX0 81 "UnibusMachine$Drive" "sector" "I", Cond.fieldLink RX0 23 "UnibusMachine$Bus" "status" "LUnibusMachine$Status;"]
def wsX0_peek_r2 : List Cond := [Cond.fieldLink RX0 84 "UnibusMachine$Status" "now" "I"]
def wsX0_peek : List Cond := .code yX0_peek cX0_peek 2 (some .int) :: ((wsX0_peek_r1 ++ wsX0_peek_r2) ++ wsX00 ++ wsX40 ++ wsX10 ++ wsX20 ++ wsX50 ++ wsX70)
def wsX3_become : List Cond := .code yX3_become cX3_become 2 none :: ([.fieldLink RX3 13 "UnibusMachine$Line" "wanting" "Z", .fieldLink RX3 9 "UnibusMachine$Line" "bits" "I"] ++ wsX10 ++ wsX20 ++ wsX50)
def wsX2_type : List Cond := .code yX2_type cX2_type 2 none :: ([.fieldLink RX2 7 "UnibusMachine$Keyboard" "character" "I", .fieldLink RX2 13 "UnibusMachine$Keyboard" "bits" "I", .sameField "UnibusMachine$Keyboard" "UnibusMachine$Line" "bits" "I", .methodLink RX2 16 ⟨"UnibusMachine$Keyboard", "become", "(I)V"⟩, .sameMethod "UnibusMachine$Keyboard" "UnibusMachine$Line" "become" "(I)V", .selects RX2 ⟨"UnibusMachine$Keyboard", "become", "(I)V"⟩ yX3_become, .instanceMethod yX3_become, .initialized RX3, .code yX3_become cX3_become 2 none, .fieldLink RX3 13 "UnibusMachine$Line" "wanting" "Z", .fieldLink RX3 9 "UnibusMachine$Line" "bits" "I"] ++ wsX20 ++ wsX10 ++ wsX50)
def wsX6_init : List Cond := .code yX6_init cX6_init 2 none :: ([.methodLink RX6 1 objectInit, .instanceMethod objectInit, .code objectInit ⟨#[0xb1]⟩ 1 none, .arrayClass .int, .fieldLink RX6 7 "UnibusMachine$Processor" "registers" "[I", .fieldLink RX6 13 "UnibusMachine$Processor" "otherStack" "I", .fieldLink RX6 17 "UnibusMachine$Processor" "halted" "I", .fieldLink RX6 20 "UnibusMachine$Processor" "waiting" "Z", .fieldLink RX6 24 "UnibusMachine$Processor" "vector" "I", .fieldLink RX6 27 "UnibusMachine$Processor" "named" "I", .fieldLink RX6 30 "UnibusMachine$Processor" "flags" "I", .fieldLink RX6 33 "UnibusMachine$Processor" "bus" "LUnibusMachine$Bus;", .fieldLink RX6 37 "UnibusMachine$Bus" "status" "LUnibusMachine$Status;", .fieldLink RX6 43 "UnibusMachine$Processor" "status" "LUnibusMachine$Status;"] ++ wsX60 ++ wsX00)
def wsX6_mode : List Cond := .code yX6_mode cX6_mode 1 (some .int) :: ([.fieldLink RX6 43 "UnibusMachine$Processor" "status" "LUnibusMachine$Status;", .fieldLink RX6 44 "UnibusMachine$Status" "now" "I"] ++ wsX60 ++ wsX70)
def wsX6_takeStatus : List Cond := .code yX6_takeStatus cX6_takeStatus 3 none :: ([.fieldLink RX6 43 "UnibusMachine$Processor" "status" "LUnibusMachine$Status;", .fieldLink RX6 44 "UnibusMachine$Status" "now" "I", .fieldLink RX6 7 "UnibusMachine$Processor" "registers" "[I", .fieldLink RX6 13 "UnibusMachine$Processor" "otherStack" "I"] ++ wsX60 ++ wsX70)
def wsX8_init_r1 : List Cond := [Cond.methodLink RX8 1 objectInit, Cond.instanceMethod objectInit, Cond.code objectInit ⟨#[0xb1]⟩ 1 none, Cond.classLink RX8 7 RX0, Cond.instantiable RX0 6, Cond.initialized RX0, Cond.fieldLink RX8 10 "UnibusMachine" "bus" "LUnibusMachine$Bus;", Cond.classLink RX8 16 RX6, Cond.instantiable RX6 9, Cond.initialized RX6, Cond.fieldLink RX8 21 "UnibusMachine" "processor" "LUnibusMachine$Processor;", Cond.instanceMethod yX0_init, Cond.code yX0_init cX0_init 1 none, Cond.methodLink RX0 1 objectInit, Cond.arrayClass .int, Cond.fieldLink RX0 9 "UnibusMachine$Bus" "memory" "[I", Cond.classLink RX0 13 RX4, Cond.instantiable RX4 3, Cond.initialized RX4, Cond.fieldLink RX0 16 "UnibusMachine$Bus" "map" "LUnibusMachine$PageMap;", Cond.classLink RX0 20 RX7, Cond.instantiable RX7 2, Cond.initialized RX7, Cond.fieldLink RX0 23 "UnibusMachine$Bus" "status" "LUnibusMachine$Status;"]
def wsX8_init_r2 : List Cond := [Cond.classLink RX0 27 RX2, Cond.instantiable RX2 3, Cond.initialized RX2, Cond.fieldLink RX0 30 "UnibusMachine$Bus" "keyboard" "LUnibusMachine$Keyboard;", Cond.classLink RX0 34 RX5, Cond.instantiable RX5 7, Cond.initialized RX5, Cond.fieldLink RX0 37 "UnibusMachine$Bus" "printer" "LUnibusMachine$Printer;", Cond.classLink RX0 41 RX1, Cond.instantiable RX1 10, Cond.initialized RX1, Cond.fieldLink RX0 44 "UnibusMachine$Bus" "drive" "LUnibusMachine$Drive;", Cond.instanceMethod yX4_init, Cond.code yX4_init cX4_init 1 none, Cond.methodLink RX4 3 objectInit, Cond.fieldLink RX4 9 "UnibusMachine$PageMap" "descriptors" "[I", Cond.fieldLink RX4 13 "UnibusMachine$PageMap" "bases" "[I", Cond.fieldLink RX4 16 "UnibusMachine$PageMap" "control" "I", Cond.instanceMethod yX7_init, Cond.code yX7_init cX7_init 1 none, Cond.methodLink RX7 1 objectInit, Cond.fieldLink RX7 7 "UnibusMachine$Status" "now" "I", Cond.fieldLink RX7 13 "UnibusMachine$Status" "written" "I", Cond.instanceMethod yX2_init]
def wsX8_init_r3 : List Cond := [Cond.code yX2_init cX2_init 1 none, Cond.fieldLink RX2 7 "UnibusMachine$Keyboard" "character" "I", Cond.instanceMethod yX3_init, Cond.initialized RX3, Cond.code yX3_init cX3_init 1 none, Cond.methodLink RX3 3 objectInit, Cond.fieldLink RX3 9 "UnibusMachine$Line" "bits" "I", Cond.fieldLink RX3 13 "UnibusMachine$Line" "wanting" "Z", Cond.methodLink RX0 36 yX5_init, Cond.instanceMethod yX5_init, Cond.code yX5_init cX5_init 1 none, Cond.fieldLink RX5 9 "UnibusMachine$Printer" "paper" "[I", Cond.fieldLink RX5 13 "UnibusMachine$Printer" "count" "I", Cond.fieldLink RX5 17 "UnibusMachine$Printer" "character" "I", Cond.fieldLink RX5 20 "UnibusMachine$Printer" "left" "I", Cond.fieldLink RX5 23 "UnibusMachine$Printer" "fresh" "Z", Cond.fieldLink RX5 27 "UnibusMachine$Printer" "bits" "I", Cond.sameField "UnibusMachine$Printer" "UnibusMachine$Line" "bits" "I", Cond.methodLink RX0 43 yX1_init, Cond.instanceMethod yX1_init, Cond.code yX1_init cX1_init 1 none, Cond.fieldLink RX1 9 "UnibusMachine$Drive" "words" "[I", Cond.fieldLink RX1 13 "UnibusMachine$Drive" "writing" "I", Cond.fieldLink RX1 17 "UnibusMachine$Drive" "wrong" "I"]
def wsX8_init_r4 : List Cond := [Cond.fieldLink RX1 20 "UnibusMachine$Drive" "count" "I", Cond.fieldLink RX1 23 "UnibusMachine$Drive" "address" "I", Cond.fieldLink RX1 26 "UnibusMachine$Drive" "sector" "I", Cond.fieldLink RX1 29 "UnibusMachine$Drive" "left" "I", Cond.fieldLink RX1 32 "UnibusMachine$Drive" "fresh" "Z", Cond.fieldLink RX1 36 "UnibusMachine$Drive" "bits" "I", Cond.sameField "UnibusMachine$Drive" "UnibusMachine$Line" "bits" "I", Cond.methodLink RX8 18 yX6_init, Cond.instanceMethod yX6_init, Cond.code yX6_init cX6_init 2 none, Cond.methodLink RX6 1 objectInit, Cond.fieldLink RX6 7 "UnibusMachine$Processor" "registers" "[I", Cond.fieldLink RX6 13 "UnibusMachine$Processor" "otherStack" "I", Cond.fieldLink RX6 17 "UnibusMachine$Processor" "halted" "I", Cond.fieldLink RX6 20 "UnibusMachine$Processor" "waiting" "Z", Cond.fieldLink RX6 24 "UnibusMachine$Processor" "vector" "I", Cond.fieldLink RX6 27 "UnibusMachine$Processor" "named" "I", Cond.fieldLink RX6 30 "UnibusMachine$Processor" "flags" "I", Cond.fieldLink RX6 33 "UnibusMachine$Processor" "bus" "LUnibusMachine$Bus;", Cond.fieldLink RX6 37 "UnibusMachine$Bus" "status" "LUnibusMachine$Status;", Cond.fieldLink RX6 43 "UnibusMachine$Processor" "status" "LUnibusMachine$Status;"]
def wsX8_init : List Cond := .code yX8_init cX8_init 1 none :: ((wsX8_init_r1 ++ (wsX8_init_r2 ++ (wsX8_init_r3 ++ wsX8_init_r4))) ++ wsX00 ++ wsX80 ++ wsX60 ++ wsX40 ++ wsX70 ++ wsX20 ++ wsX50 ++ wsX10)
def wsX8_isMemory : List Cond := .code yX8_isMemory cX8_isMemory 1 (some .boolean) :: ([])
def wsX8_isWord : List Cond := .code yX8_isWord cX8_isWord 1 (some .boolean) :: ([.constant RX8 124 (65535)])
def wsX8_deposit : List Cond := .code yX8_deposit cX8_deposit 3 none :: ([.classLink RX8 32 "java/lang/IllegalArgumentException", .initialized "java/lang/IllegalArgumentException", .fieldLink RX8 10 "UnibusMachine" "bus" "LUnibusMachine$Bus;", .fieldLink RX8 35 "UnibusMachine$Bus" "memory" "[I", .methodLink RX8 25 yX8_isMemory, .static yX8_isMemory, .initialized RX8, .code yX8_isMemory cX8_isMemory 1 (some .boolean), .methodLink RX8 29 yX8_isWord, .static yX8_isWord, .code yX8_isWord cX8_isWord 1 (some .boolean), .constant RX8 124 (65535)] ++ wsX80 ++ wsX00 ++ (vx_at0 RX8 34 "java/lang/IllegalArgumentException" ["java/lang/RuntimeException", "java/lang/Exception"]).filter goodWord)
def wsX8_examine : List Cond := .code yX8_examine cX8_examine 2 (some .int) :: ([.classLink RX8 32 "java/lang/IllegalArgumentException", .initialized "java/lang/IllegalArgumentException", .fieldLink RX8 10 "UnibusMachine" "bus" "LUnibusMachine$Bus;", .fieldLink RX8 35 "UnibusMachine$Bus" "memory" "[I", .methodLink RX8 25 yX8_isMemory, .static yX8_isMemory, .initialized RX8, .code yX8_isMemory cX8_isMemory 1 (some .boolean)] ++ wsX80 ++ wsX00 ++ (vx_at0 RX8 34 "java/lang/IllegalArgumentException" ["java/lang/RuntimeException", "java/lang/Exception"]).filter goodWord)
def wsX8_set : List Cond := .code yX8_set cX8_set 3 none :: ([.classLink RX8 32 "java/lang/IllegalArgumentException", .initialized "java/lang/IllegalArgumentException", .fieldLink RX8 21 "UnibusMachine" "processor" "LUnibusMachine$Processor;", .fieldLink RX8 43 "UnibusMachine$Processor" "otherStack" "I", .fieldLink RX8 47 "UnibusMachine$Processor" "registers" "[I", .methodLink RX8 29 yX8_isWord, .static yX8_isWord, .initialized RX8, .code yX8_isWord cX8_isWord 1 (some .boolean), .constant RX8 124 (65535), .methodLink RX8 39 yX6_mode, .instanceMethod yX6_mode, .selects RX6 yX6_mode yX6_mode, .initialized RX6, .code yX6_mode cX6_mode 1 (some .int), .fieldLink RX6 43 "UnibusMachine$Processor" "status" "LUnibusMachine$Status;", .fieldLink RX6 44 "UnibusMachine$Status" "now" "I"] ++ wsX80 ++ wsX60 ++ wsX70 ++ (vx_at0 RX8 34 "java/lang/IllegalArgumentException" ["java/lang/RuntimeException", "java/lang/Exception"]).filter goodWord)
def wsX8_register : List Cond := .code yX8_register cX8_register 2 (some .int) :: ([.classLink RX8 32 "java/lang/IllegalArgumentException", .initialized "java/lang/IllegalArgumentException", .fieldLink RX8 10 "UnibusMachine" "bus" "LUnibusMachine$Bus;", .fieldLink RX8 50 "UnibusMachine$Bus" "status" "LUnibusMachine$Status;", .fieldLink RX8 54 "UnibusMachine$Status" "now" "I", .fieldLink RX8 21 "UnibusMachine" "processor" "LUnibusMachine$Processor;", .fieldLink RX8 43 "UnibusMachine$Processor" "otherStack" "I", .fieldLink RX8 47 "UnibusMachine$Processor" "registers" "[I"] ++ wsX80 ++ wsX00 ++ wsX70 ++ wsX60 ++ (vx_at0 RX8 34 "java/lang/IllegalArgumentException" ["java/lang/RuntimeException", "java/lang/Exception"]).filter goodWord)
def wsX8_start : List Cond := .code yX8_start cX8_start 2 none :: ([.classLink RX8 32 "java/lang/IllegalArgumentException", .initialized "java/lang/IllegalArgumentException", .fieldLink RX8 21 "UnibusMachine" "processor" "LUnibusMachine$Processor;", .fieldLink RX8 47 "UnibusMachine$Processor" "registers" "[I", .fieldLink RX8 63 "UnibusMachine$Processor" "halted" "I", .fieldLink RX8 66 "UnibusMachine$Processor" "waiting" "Z", .methodLink RX8 29 yX8_isWord, .static yX8_isWord, .initialized RX8, .code yX8_isWord cX8_isWord 1 (some .boolean), .constant RX8 124 (65535), .methodLink RX8 59 yX6_takeStatus, .instanceMethod yX6_takeStatus, .selects RX6 yX6_takeStatus yX6_takeStatus, .initialized RX6, .code yX6_takeStatus cX6_takeStatus 3 none, .fieldLink RX6 43 "UnibusMachine$Processor" "status" "LUnibusMachine$Status;", .fieldLink RX6 44 "UnibusMachine$Status" "now" "I", .fieldLink RX6 7 "UnibusMachine$Processor" "registers" "[I", .fieldLink RX6 13 "UnibusMachine$Processor" "otherStack" "I"] ++ wsX80 ++ wsX60 ++ wsX70 ++ (vx_at0 RX8 34 "java/lang/IllegalArgumentException" ["java/lang/RuntimeException", "java/lang/Exception"]).filter goodWord)
def wsX8_key : List Cond := .code yX8_key cX8_key 2 none :: ([.classLink RX8 32 "java/lang/IllegalArgumentException", .initialized "java/lang/IllegalArgumentException", .fieldLink RX8 10 "UnibusMachine" "bus" "LUnibusMachine$Bus;", .fieldLink RX8 82 "UnibusMachine$Bus" "keyboard" "LUnibusMachine$Keyboard;", .methodLink RX8 86 yX2_type, .instanceMethod yX2_type, .selects RX2 yX2_type yX2_type, .initialized RX2, .code yX2_type cX2_type 2 none, .fieldLink RX2 7 "UnibusMachine$Keyboard" "character" "I", .fieldLink RX2 13 "UnibusMachine$Keyboard" "bits" "I", .sameField "UnibusMachine$Keyboard" "UnibusMachine$Line" "bits" "I", .methodLink RX2 16 ⟨"UnibusMachine$Keyboard", "become", "(I)V"⟩, .sameMethod "UnibusMachine$Keyboard" "UnibusMachine$Line" "become" "(I)V", .selects RX2 ⟨"UnibusMachine$Keyboard", "become", "(I)V"⟩ yX3_become, .instanceMethod yX3_become, .initialized RX3, .code yX3_become cX3_become 2 none, .fieldLink RX3 13 "UnibusMachine$Line" "wanting" "Z", .fieldLink RX3 9 "UnibusMachine$Line" "bits" "I"] ++ wsX80 ++ wsX00 ++ wsX20 ++ wsX10 ++ wsX50 ++ (vx_at0 RX8 34 "java/lang/IllegalArgumentException" ["java/lang/RuntimeException", "java/lang/Exception"]).filter goodWord)
def wsX8_printed : List Cond := .code yX8_printed cX8_printed 3 (some .int) :: ([.classLink RX8 100 "java/lang/IndexOutOfBoundsException", .initialized "java/lang/IndexOutOfBoundsException", .fieldLink RX8 10 "UnibusMachine" "bus" "LUnibusMachine$Bus;", .fieldLink RX8 91 "UnibusMachine$Bus" "printer" "LUnibusMachine$Printer;", .fieldLink RX8 97 "UnibusMachine$Printer" "count" "I", .fieldLink RX8 103 "UnibusMachine$Printer" "paper" "[I"] ++ wsX80 ++ wsX00 ++ wsX50 ++ (vx_at0 RX8 102 "java/lang/IndexOutOfBoundsException" ["java/lang/RuntimeException", "java/lang/Exception"]).filter goodWord)
def wsX8_isDiskWord : List Cond := .code yX8_isDiskWord cX8_isDiskWord 2 (some .boolean) :: ([])
def wsX8_load : List Cond := .code yX8_load cX8_load 4 none :: ([.classLink RX8 32 "java/lang/IllegalArgumentException", .initialized "java/lang/IllegalArgumentException", .fieldLink RX8 10 "UnibusMachine" "bus" "LUnibusMachine$Bus;", .fieldLink RX8 110 "UnibusMachine$Bus" "drive" "LUnibusMachine$Drive;", .fieldLink RX8 114 "UnibusMachine$Drive" "words" "[I", .methodLink RX8 106 yX8_isDiskWord, .static yX8_isDiskWord, .initialized RX8, .code yX8_isDiskWord cX8_isDiskWord 2 (some .boolean), .methodLink RX8 29 yX8_isWord, .static yX8_isWord, .code yX8_isWord cX8_isWord 1 (some .boolean), .constant RX8 124 (65535)] ++ wsX80 ++ wsX00 ++ wsX10 ++ (vx_at0 RX8 34 "java/lang/IllegalArgumentException" ["java/lang/RuntimeException", "java/lang/Exception"]).filter goodWord)
def wsX8_disk : List Cond := .code yX8_disk cX8_disk 3 (some .int) :: ([.classLink RX8 32 "java/lang/IllegalArgumentException", .initialized "java/lang/IllegalArgumentException", .fieldLink RX8 10 "UnibusMachine" "bus" "LUnibusMachine$Bus;", .fieldLink RX8 110 "UnibusMachine$Bus" "drive" "LUnibusMachine$Drive;", .fieldLink RX8 114 "UnibusMachine$Drive" "words" "[I", .methodLink RX8 106 yX8_isDiskWord, .static yX8_isDiskWord, .initialized RX8, .code yX8_isDiskWord cX8_isDiskWord 2 (some .boolean)] ++ wsX80 ++ wsX00 ++ wsX10 ++ (vx_at0 RX8 34 "java/lang/IllegalArgumentException" ["java/lang/RuntimeException", "java/lang/Exception"]).filter goodWord)
def wsX8_device_r1 : List Cond := [Cond.constant RX8 119 (57344), Cond.fieldLink RX8 10 "UnibusMachine" "bus" "LUnibusMachine$Bus;", Cond.methodLink RX8 120 yX0_peek, Cond.instanceMethod yX0_peek, Cond.selects RX0 yX0_peek yX0_peek, Cond.initialized RX0, Cond.code yX0_peek cX0_peek 2 (some .int), Cond.fieldLink RX0 9 "UnibusMachine$Bus" "memory" "[I", Cond.constant RX0 48 (57344), Cond.constant RX0 49 (57376), Cond.fieldLink RX0 16 "UnibusMachine$Bus" "map" "LUnibusMachine$PageMap;", Cond.fieldLink RX0 50 "UnibusMachine$PageMap" "descriptors" "[I", Cond.constant RX0 53 (57408), Cond.fieldLink RX0 54 "UnibusMachine$PageMap" "bases" "[I", Cond.fieldLink RX0 57 "UnibusMachine$PageMap" "control" "I", Cond.fieldLink RX0 30 "UnibusMachine$Bus" "keyboard" "LUnibusMachine$Keyboard;", Cond.fieldLink RX0 61 "UnibusMachine$Keyboard" "bits" "I", Cond.sameField "UnibusMachine$Keyboard" "UnibusMachine$Line" "bits" "I", Cond.fieldLink RX0 64 "UnibusMachine$Keyboard" "character" "I", Cond.fieldLink RX0 37 "UnibusMachine$Bus" "printer" "LUnibusMachine$Printer;", Cond.fieldLink RX0 67 "UnibusMachine$Printer" "bits" "I", Cond.sameField "UnibusMachine$Printer" "UnibusMachine$Line" "bits" "I", Cond.fieldLink RX0 44 "UnibusMachine$Bus" "drive" "LUnibusMachine$Drive;", Cond.fieldLink RX0 68 "UnibusMachine$Drive" "bits" "I"]
def wsX8_device_r2 : List Cond := [Cond.sameField "UnibusMachine$Drive" "UnibusMachine$Line" "bits" "I", Cond.fieldLink RX0 69 "UnibusMachine$Drive" "writing" "I", Cond.fieldLink RX0 72 "UnibusMachine$Drive" "wrong" "I", Cond.fieldLink RX0 75 "UnibusMachine$Drive" "count" "I", Cond.fieldLink RX0 78 "UnibusMachine$Drive" "address" "I", Cond.fieldLink RX0 81 "UnibusMachine$Drive" "sector" "I", Cond.fieldLink RX0 23 "UnibusMachine$Bus" "status" "LUnibusMachine$Status;", Cond.fieldLink RX0 84 "UnibusMachine$Status" "now" "I"]
def wsX8_device : List Cond := .code yX8_device cX8_device 2 (some .int) :: ((wsX8_device_r1 ++ wsX8_device_r2) ++ wsX80 ++ wsX00 ++ wsX40 ++ wsX10 ++ wsX20 ++ wsX50 ++ wsX70)
def wsX8_state : List Cond := .code yX8_state cX8_state 1 (some .int) :: ([.fieldLink RX8 21 "UnibusMachine" "processor" "LUnibusMachine$Processor;", .fieldLink RX8 63 "UnibusMachine$Processor" "halted" "I", .fieldLink RX8 66 "UnibusMachine$Processor" "waiting" "Z"] ++ wsX80 ++ wsX60)
def wsX9_init : List Cond := .code yX9_init cX9_init 1 none :: ([.methodLink RX9 1 objectInit, .instanceMethod objectInit, .code objectInit ⟨#[0xb1]⟩ 1 none, .arrayClass .int, .fieldLink RX9 7 "UnibusMachineModel" "memory" "[I", .fieldLink RX9 13 "UnibusMachineModel" "descriptor" "[I", .fieldLink RX9 16 "UnibusMachineModel" "base" "[I", .fieldLink RX9 19 "UnibusMachineModel" "reg" "[I", .fieldLink RX9 22 "UnibusMachineModel" "state" "I", .arrayClass .boolean, .fieldLink RX9 26 "UnibusMachineModel" "ready" "[Z", .fieldLink RX9 30 "UnibusMachineModel" "enabled" "[Z", .fieldLink RX9 33 "UnibusMachineModel" "both" "[Z", .fieldLink RX9 36 "UnibusMachineModel" "wants" "[Z", .fieldLink RX9 39 "UnibusMachineModel" "busy" "[I", .fieldLink RX9 42 "UnibusMachineModel" "paper" "[I", .fieldLink RX9 45 "UnibusMachineModel" "sectors" "[I"] ++ wsX90)
def wsX9_thrown : List Cond := .code yX9_thrown cX9_thrown 1 (some .int) :: ([.fieldLink RX9 48 "UnibusMachineModel" "thrown" "I"] ++ wsX90)
def wsX9_out : List Cond := .code yX9_out cX9_out 2 (some .boolean) :: ([])
def wsX9_fail : List Cond := .code yX9_fail cX9_fail 2 (some .int) :: ([.fieldLink RX9 48 "UnibusMachineModel" "thrown" "I"] ++ wsX90)
def wsX9_bit : List Cond := .code yX9_bit cX9_bit 2 (some .int) :: ([])
def wsX9_statusOf : List Cond := .code yX9_statusOf cX9_statusOf 2 (some .int) :: ([.fieldLink RX9 26 "UnibusMachineModel" "ready" "[Z", .fieldLink RX9 30 "UnibusMachineModel" "enabled" "[Z", .fieldLink RX9 56 "UnibusMachineModel" "writes" "Z", .fieldLink RX9 60 "UnibusMachineModel" "failed" "Z", .constant RX9 63 (32768), .methodLink RX9 52 yX9_bit, .static yX9_bit, .initialized RX9, .code yX9_bit cX9_bit 2 (some .int)] ++ wsX90)
def wsX9_at : List Cond := .code yX9_at cX9_at 3 (some .int) :: ([.fieldLink RX9 7 "UnibusMachineModel" "memory" "[I", .constant RX9 64 (57344), .fieldLink RX9 13 "UnibusMachineModel" "descriptor" "[I", .fieldLink RX9 16 "UnibusMachineModel" "base" "[I", .fieldLink RX9 65 "UnibusMachineModel" "control" "I", .fieldLink RX9 72 "UnibusMachineModel" "typed" "I", .fieldLink RX9 75 "UnibusMachineModel" "many" "I", .fieldLink RX9 78 "UnibusMachineModel" "from" "I", .fieldLink RX9 81 "UnibusMachineModel" "sector" "I", .fieldLink RX9 84 "UnibusMachineModel" "status" "I", .methodLink RX9 68 yX9_statusOf, .instanceMethod yX9_statusOf, .selects RX9 yX9_statusOf yX9_statusOf, .initialized RX9, .code yX9_statusOf cX9_statusOf 2 (some .int), .fieldLink RX9 26 "UnibusMachineModel" "ready" "[Z", .fieldLink RX9 30 "UnibusMachineModel" "enabled" "[Z", .fieldLink RX9 56 "UnibusMachineModel" "writes" "Z", .fieldLink RX9 60 "UnibusMachineModel" "failed" "Z", .constant RX9 63 (32768), .methodLink RX9 52 yX9_bit, .static yX9_bit, .code yX9_bit cX9_bit 2 (some .int)] ++ wsX90)
def wsX9_settle : List Cond := .code yX9_settle cX9_settle 3 none :: ([.fieldLink RX9 84 "UnibusMachineModel" "status" "I", .fieldLink RX9 116 "UnibusMachineModel" "mode" "I", .fieldLink RX9 19 "UnibusMachineModel" "reg" "[I", .fieldLink RX9 119 "UnibusMachineModel" "farStack" "I"] ++ wsX90)
def wsX9_isWord : List Cond := .code yX9_isWord cX9_isWord 1 (some .boolean) :: ([.constant RX9 51 (65536)])
def wsX9_cell : List Cond := .code yX9_cell cX9_cell 1 (some .boolean) :: ([])
def wsX9_deposit : List Cond := .code yX9_deposit cX9_deposit 3 none :: ([.fieldLink RX9 48 "UnibusMachineModel" "thrown" "I", .fieldLink RX9 7 "UnibusMachineModel" "memory" "[I", .methodLink RX9 257 yX9_cell, .static yX9_cell, .initialized RX9, .code yX9_cell cX9_cell 1 (some .boolean), .methodLink RX9 260 yX9_isWord, .static yX9_isWord, .code yX9_isWord cX9_isWord 1 (some .boolean), .constant RX9 51 (65536)] ++ wsX90)
def wsX9_examine : List Cond := .code yX9_examine cX9_examine 2 (some .int) :: ([.fieldLink RX9 48 "UnibusMachineModel" "thrown" "I", .fieldLink RX9 7 "UnibusMachineModel" "memory" "[I", .methodLink RX9 257 yX9_cell, .static yX9_cell, .initialized RX9, .code yX9_cell cX9_cell 1 (some .boolean), .methodLink RX9 263 yX9_fail, .instanceMethod yX9_fail, .selects RX9 yX9_fail yX9_fail, .code yX9_fail cX9_fail 2 (some .int)] ++ wsX90)
def wsX9_set : List Cond := .code yX9_set cX9_set 3 none :: ([.fieldLink RX9 48 "UnibusMachineModel" "thrown" "I", .fieldLink RX9 116 "UnibusMachineModel" "mode" "I", .fieldLink RX9 119 "UnibusMachineModel" "farStack" "I", .fieldLink RX9 19 "UnibusMachineModel" "reg" "[I", .methodLink RX9 266 yX9_out, .static yX9_out, .initialized RX9, .code yX9_out cX9_out 2 (some .boolean), .methodLink RX9 260 yX9_isWord, .static yX9_isWord, .code yX9_isWord cX9_isWord 1 (some .boolean), .constant RX9 51 (65536)] ++ wsX90)
def wsX9_register : List Cond := .code yX9_register cX9_register 2 (some .int) :: ([.fieldLink RX9 48 "UnibusMachineModel" "thrown" "I", .fieldLink RX9 84 "UnibusMachineModel" "status" "I", .fieldLink RX9 119 "UnibusMachineModel" "farStack" "I", .fieldLink RX9 19 "UnibusMachineModel" "reg" "[I", .methodLink RX9 266 yX9_out, .static yX9_out, .initialized RX9, .code yX9_out cX9_out 2 (some .boolean), .methodLink RX9 263 yX9_fail, .instanceMethod yX9_fail, .selects RX9 yX9_fail yX9_fail, .code yX9_fail cX9_fail 2 (some .int)] ++ wsX90)
def wsX9_start : List Cond := .code yX9_start cX9_start 2 none :: ([.fieldLink RX9 48 "UnibusMachineModel" "thrown" "I", .fieldLink RX9 84 "UnibusMachineModel" "status" "I", .fieldLink RX9 19 "UnibusMachineModel" "reg" "[I", .fieldLink RX9 22 "UnibusMachineModel" "state" "I", .methodLink RX9 260 yX9_isWord, .static yX9_isWord, .initialized RX9, .code yX9_isWord cX9_isWord 1 (some .boolean), .constant RX9 51 (65536), .methodLink RX9 170 yX9_settle, .instanceMethod yX9_settle, .selects RX9 yX9_settle yX9_settle, .code yX9_settle cX9_settle 3 none, .fieldLink RX9 116 "UnibusMachineModel" "mode" "I", .fieldLink RX9 119 "UnibusMachineModel" "farStack" "I"] ++ wsX90)
def wsX9_key : List Cond := .code yX9_key cX9_key 2 none :: ([.fieldLink RX9 48 "UnibusMachineModel" "thrown" "I", .fieldLink RX9 72 "UnibusMachineModel" "typed" "I", .fieldLink RX9 26 "UnibusMachineModel" "ready" "[Z", .methodLink RX9 266 yX9_out, .static yX9_out, .initialized RX9, .code yX9_out cX9_out 2 (some .boolean)] ++ wsX90)
def wsX9_printed : List Cond := .code yX9_printed cX9_printed 2 (some .int) :: ([.fieldLink RX9 254 "UnibusMachineModel" "count" "I", .fieldLink RX9 48 "UnibusMachineModel" "thrown" "I", .fieldLink RX9 42 "UnibusMachineModel" "paper" "[I"] ++ wsX90)
def wsX9_load : List Cond := .code yX9_load cX9_load 4 none :: ([.fieldLink RX9 48 "UnibusMachineModel" "thrown" "I", .fieldLink RX9 45 "UnibusMachineModel" "sectors" "[I", .methodLink RX9 266 yX9_out, .static yX9_out, .initialized RX9, .code yX9_out cX9_out 2 (some .boolean), .methodLink RX9 260 yX9_isWord, .static yX9_isWord, .code yX9_isWord cX9_isWord 1 (some .boolean), .constant RX9 51 (65536)] ++ wsX90)
def wsX9_disk : List Cond := .code yX9_disk cX9_disk 3 (some .int) :: ([.fieldLink RX9 48 "UnibusMachineModel" "thrown" "I", .fieldLink RX9 45 "UnibusMachineModel" "sectors" "[I", .methodLink RX9 266 yX9_out, .static yX9_out, .initialized RX9, .code yX9_out cX9_out 2 (some .boolean), .methodLink RX9 263 yX9_fail, .instanceMethod yX9_fail, .selects RX9 yX9_fail yX9_fail, .code yX9_fail cX9_fail 2 (some .int)] ++ wsX90)
def wsX9_device_r1 : List Cond := [Cond.fieldLink RX9 48 "UnibusMachineModel" "thrown" "I", Cond.constant RX9 64 (57344), Cond.constant RX9 122 (65535), Cond.methodLink RX9 90 yX9_at, Cond.instanceMethod yX9_at, Cond.selects RX9 yX9_at yX9_at, Cond.initialized RX9, Cond.code yX9_at cX9_at 3 (some .int), Cond.fieldLink RX9 7 "UnibusMachineModel" "memory" "[I", Cond.fieldLink RX9 13 "UnibusMachineModel" "descriptor" "[I", Cond.fieldLink RX9 16 "UnibusMachineModel" "base" "[I", Cond.fieldLink RX9 65 "UnibusMachineModel" "control" "I", Cond.fieldLink RX9 72 "UnibusMachineModel" "typed" "I", Cond.fieldLink RX9 75 "UnibusMachineModel" "many" "I", Cond.fieldLink RX9 78 "UnibusMachineModel" "from" "I", Cond.fieldLink RX9 81 "UnibusMachineModel" "sector" "I", Cond.fieldLink RX9 84 "UnibusMachineModel" "status" "I", Cond.methodLink RX9 68 yX9_statusOf, Cond.instanceMethod yX9_statusOf, Cond.selects RX9 yX9_statusOf yX9_statusOf, Cond.code yX9_statusOf cX9_statusOf 2 (some .int), Cond.fieldLink RX9 26 "UnibusMachineModel" "ready" "[Z", Cond.fieldLink RX9 30 "UnibusMachineModel" "enabled" "[Z", Cond.fieldLink RX9 56 "UnibusMachineModel" "writes" "Z"]
def wsX9_device_r2 : List Cond := [Cond.fieldLink RX9 60 "UnibusMachineModel" "failed" "Z", Cond.constant RX9 63 (32768), Cond.methodLink RX9 52 yX9_bit, Cond.static yX9_bit, Cond.code yX9_bit cX9_bit 2 (some .int)]
def wsX9_device : List Cond := .code yX9_device cX9_device 2 (some .int) :: ((wsX9_device_r1 ++ wsX9_device_r2) ++ wsX90)
def wsX9_state : List Cond := .code yX9_state cX9_state 1 (some .int) :: ([.fieldLink RX9 48 "UnibusMachineModel" "thrown" "I", .fieldLink RX9 22 "UnibusMachineModel" "state" "I"] ++ wsX90)
def wsL_deposit : List Cond := .codeWith yL_deposit cL_deposit 4 (some .int) [(0, 6, 9, 13)] :: ([.classLink RL 13 "java/lang/IllegalArgumentException", .methodLink RL 7 yX8_deposit, .instanceMethod yX8_deposit, .selects RX8 yX8_deposit yX8_deposit, .initialized RX8, .code yX8_deposit cX8_deposit 3 none, .classLink RX8 32 "java/lang/IllegalArgumentException", .initialized "java/lang/IllegalArgumentException", .fieldLink RX8 10 "UnibusMachine" "bus" "LUnibusMachine$Bus;", .fieldLink RX8 35 "UnibusMachine$Bus" "memory" "[I", .methodLink RX8 25 yX8_isMemory, .static yX8_isMemory, .code yX8_isMemory cX8_isMemory 1 (some .boolean), .methodLink RX8 29 yX8_isWord, .static yX8_isWord, .code yX8_isWord cX8_isWord 1 (some .boolean), .constant RX8 124 (65535)] ++ wsX80 ++ wsX00 ++ (vx_at0 RX8 34 "java/lang/IllegalArgumentException" ["java/lang/RuntimeException", "java/lang/Exception"]).filter goodWord)
def wsL_examine : List Cond := .codeWith yL_examine cL_examine 4 (some .int) [(0, 9, 12, 13)] :: ([.classLink RL 13 "java/lang/IllegalArgumentException", .methodLink RL 15 yX8_examine, .instanceMethod yX8_examine, .selects RX8 yX8_examine yX8_examine, .initialized RX8, .code yX8_examine cX8_examine 2 (some .int), .classLink RX8 32 "java/lang/IllegalArgumentException", .initialized "java/lang/IllegalArgumentException", .fieldLink RX8 10 "UnibusMachine" "bus" "LUnibusMachine$Bus;", .fieldLink RX8 35 "UnibusMachine$Bus" "memory" "[I", .methodLink RX8 25 yX8_isMemory, .static yX8_isMemory, .code yX8_isMemory cX8_isMemory 1 (some .boolean)] ++ wsX80 ++ wsX00 ++ (vx_at0 RX8 34 "java/lang/IllegalArgumentException" ["java/lang/RuntimeException", "java/lang/Exception"]).filter goodWord)
def wsL_set : List Cond := .codeWith yL_set cL_set 4 (some .int) [(0, 6, 9, 13)] :: ([.classLink RL 13 "java/lang/IllegalArgumentException", .methodLink RL 19 yX8_set, .instanceMethod yX8_set, .selects RX8 yX8_set yX8_set, .initialized RX8, .code yX8_set cX8_set 3 none, .classLink RX8 32 "java/lang/IllegalArgumentException", .initialized "java/lang/IllegalArgumentException", .fieldLink RX8 21 "UnibusMachine" "processor" "LUnibusMachine$Processor;", .fieldLink RX8 43 "UnibusMachine$Processor" "otherStack" "I", .fieldLink RX8 47 "UnibusMachine$Processor" "registers" "[I", .methodLink RX8 29 yX8_isWord, .static yX8_isWord, .code yX8_isWord cX8_isWord 1 (some .boolean), .constant RX8 124 (65535), .methodLink RX8 39 yX6_mode, .instanceMethod yX6_mode, .selects RX6 yX6_mode yX6_mode, .initialized RX6, .code yX6_mode cX6_mode 1 (some .int), .fieldLink RX6 43 "UnibusMachine$Processor" "status" "LUnibusMachine$Status;", .fieldLink RX6 44 "UnibusMachine$Status" "now" "I"] ++ wsX80 ++ wsX60 ++ wsX70 ++ (vx_at0 RX8 34 "java/lang/IllegalArgumentException" ["java/lang/RuntimeException", "java/lang/Exception"]).filter goodWord)
def wsL_register : List Cond := .codeWith yL_register cL_register 4 (some .int) [(0, 9, 12, 13)] :: ([.classLink RL 13 "java/lang/IllegalArgumentException", .methodLink RL 22 yX8_register, .instanceMethod yX8_register, .selects RX8 yX8_register yX8_register, .initialized RX8, .code yX8_register cX8_register 2 (some .int), .classLink RX8 32 "java/lang/IllegalArgumentException", .initialized "java/lang/IllegalArgumentException", .fieldLink RX8 10 "UnibusMachine" "bus" "LUnibusMachine$Bus;", .fieldLink RX8 50 "UnibusMachine$Bus" "status" "LUnibusMachine$Status;", .fieldLink RX8 54 "UnibusMachine$Status" "now" "I", .fieldLink RX8 21 "UnibusMachine" "processor" "LUnibusMachine$Processor;", .fieldLink RX8 43 "UnibusMachine$Processor" "otherStack" "I", .fieldLink RX8 47 "UnibusMachine$Processor" "registers" "[I"] ++ wsX80 ++ wsX00 ++ wsX70 ++ wsX60 ++ (vx_at0 RX8 34 "java/lang/IllegalArgumentException" ["java/lang/RuntimeException", "java/lang/Exception"]).filter goodWord)
def wsL_start_r1 : List Cond := [Cond.classLink RL 13 "java/lang/IllegalArgumentException", Cond.methodLink RL 25 yX8_start, Cond.instanceMethod yX8_start, Cond.selects RX8 yX8_start yX8_start, Cond.initialized RX8, Cond.code yX8_start cX8_start 2 none, Cond.classLink RX8 32 "java/lang/IllegalArgumentException", Cond.initialized "java/lang/IllegalArgumentException", Cond.fieldLink RX8 21 "UnibusMachine" "processor" "LUnibusMachine$Processor;", Cond.fieldLink RX8 47 "UnibusMachine$Processor" "registers" "[I", Cond.fieldLink RX8 63 "UnibusMachine$Processor" "halted" "I", Cond.fieldLink RX8 66 "UnibusMachine$Processor" "waiting" "Z", Cond.methodLink RX8 29 yX8_isWord, Cond.static yX8_isWord, Cond.code yX8_isWord cX8_isWord 1 (some .boolean), Cond.constant RX8 124 (65535), Cond.methodLink RX8 59 yX6_takeStatus, Cond.instanceMethod yX6_takeStatus, Cond.selects RX6 yX6_takeStatus yX6_takeStatus, Cond.initialized RX6, Cond.code yX6_takeStatus cX6_takeStatus 3 none, Cond.fieldLink RX6 43 "UnibusMachine$Processor" "status" "LUnibusMachine$Status;", Cond.fieldLink RX6 44 "UnibusMachine$Status" "now" "I", Cond.fieldLink RX6 7 "UnibusMachine$Processor" "registers" "[I"]
def wsL_start_r2 : List Cond := [Cond.fieldLink RX6 13 "UnibusMachine$Processor" "otherStack" "I"]
def wsL_start : List Cond := .codeWith yL_start cL_start 3 (some .int) [(0, 5, 8, 13)] :: ((wsL_start_r1 ++ wsL_start_r2) ++ wsX80 ++ wsX60 ++ wsX70 ++ (vx_at0 RX8 34 "java/lang/IllegalArgumentException" ["java/lang/RuntimeException", "java/lang/Exception"]).filter goodWord)
def wsL_key_r1 : List Cond := [Cond.classLink RL 13 "java/lang/IllegalArgumentException", Cond.methodLink RL 34 yX8_key, Cond.instanceMethod yX8_key, Cond.selects RX8 yX8_key yX8_key, Cond.initialized RX8, Cond.code yX8_key cX8_key 2 none, Cond.classLink RX8 32 "java/lang/IllegalArgumentException", Cond.initialized "java/lang/IllegalArgumentException", Cond.fieldLink RX8 10 "UnibusMachine" "bus" "LUnibusMachine$Bus;", Cond.fieldLink RX8 82 "UnibusMachine$Bus" "keyboard" "LUnibusMachine$Keyboard;", Cond.methodLink RX8 86 yX2_type, Cond.instanceMethod yX2_type, Cond.selects RX2 yX2_type yX2_type, Cond.initialized RX2, Cond.code yX2_type cX2_type 2 none, Cond.fieldLink RX2 7 "UnibusMachine$Keyboard" "character" "I", Cond.fieldLink RX2 13 "UnibusMachine$Keyboard" "bits" "I", Cond.sameField "UnibusMachine$Keyboard" "UnibusMachine$Line" "bits" "I", Cond.methodLink RX2 16 ⟨"UnibusMachine$Keyboard", "become", "(I)V"⟩, Cond.sameMethod "UnibusMachine$Keyboard" "UnibusMachine$Line" "become" "(I)V", Cond.selects RX2 ⟨"UnibusMachine$Keyboard", "become", "(I)V"⟩ yX3_become, Cond.instanceMethod yX3_become, Cond.initialized RX3, Cond.code yX3_become cX3_become 2 none]
def wsL_key_r2 : List Cond := [Cond.fieldLink RX3 13 "UnibusMachine$Line" "wanting" "Z", Cond.fieldLink RX3 9 "UnibusMachine$Line" "bits" "I"]
def wsL_key : List Cond := .codeWith yL_key cL_key 3 (some .int) [(0, 5, 8, 13)] :: ((wsL_key_r1 ++ wsL_key_r2) ++ wsX80 ++ wsX00 ++ wsX20 ++ wsX10 ++ wsX50 ++ (vx_at0 RX8 34 "java/lang/IllegalArgumentException" ["java/lang/RuntimeException", "java/lang/Exception"]).filter goodWord)
def wsL_printed : List Cond := .codeWith yL_printed cL_printed 4 (some .int) [(0, 9, 12, 40)] :: ([.classLink RL 40 "java/lang/IndexOutOfBoundsException", .methodLink RL 37 yX8_printed, .instanceMethod yX8_printed, .selects RX8 yX8_printed yX8_printed, .initialized RX8, .code yX8_printed cX8_printed 3 (some .int), .classLink RX8 100 "java/lang/IndexOutOfBoundsException", .initialized "java/lang/IndexOutOfBoundsException", .fieldLink RX8 10 "UnibusMachine" "bus" "LUnibusMachine$Bus;", .fieldLink RX8 91 "UnibusMachine$Bus" "printer" "LUnibusMachine$Printer;", .fieldLink RX8 97 "UnibusMachine$Printer" "count" "I", .fieldLink RX8 103 "UnibusMachine$Printer" "paper" "[I"] ++ wsX80 ++ wsX00 ++ wsX50 ++ (vx_at0 RX8 102 "java/lang/IndexOutOfBoundsException" ["java/lang/RuntimeException", "java/lang/Exception"]).filter goodWord)
def wsL_load : List Cond := .codeWith yL_load cL_load 5 (some .int) [(0, 7, 10, 13)] :: ([.classLink RL 13 "java/lang/IllegalArgumentException", .methodLink RL 42 yX8_load, .instanceMethod yX8_load, .selects RX8 yX8_load yX8_load, .initialized RX8, .code yX8_load cX8_load 4 none, .classLink RX8 32 "java/lang/IllegalArgumentException", .initialized "java/lang/IllegalArgumentException", .fieldLink RX8 10 "UnibusMachine" "bus" "LUnibusMachine$Bus;", .fieldLink RX8 110 "UnibusMachine$Bus" "drive" "LUnibusMachine$Drive;", .fieldLink RX8 114 "UnibusMachine$Drive" "words" "[I", .methodLink RX8 106 yX8_isDiskWord, .static yX8_isDiskWord, .code yX8_isDiskWord cX8_isDiskWord 2 (some .boolean), .methodLink RX8 29 yX8_isWord, .static yX8_isWord, .code yX8_isWord cX8_isWord 1 (some .boolean), .constant RX8 124 (65535)] ++ wsX80 ++ wsX00 ++ wsX10 ++ (vx_at0 RX8 34 "java/lang/IllegalArgumentException" ["java/lang/RuntimeException", "java/lang/Exception"]).filter goodWord)
def wsL_disk : List Cond := .codeWith yL_disk cL_disk 5 (some .int) [(0, 10, 13, 13)] :: ([.classLink RL 13 "java/lang/IllegalArgumentException", .methodLink RL 46 yX8_disk, .instanceMethod yX8_disk, .selects RX8 yX8_disk yX8_disk, .initialized RX8, .code yX8_disk cX8_disk 3 (some .int), .classLink RX8 32 "java/lang/IllegalArgumentException", .initialized "java/lang/IllegalArgumentException", .fieldLink RX8 10 "UnibusMachine" "bus" "LUnibusMachine$Bus;", .fieldLink RX8 110 "UnibusMachine$Bus" "drive" "LUnibusMachine$Drive;", .fieldLink RX8 114 "UnibusMachine$Drive" "words" "[I", .methodLink RX8 106 yX8_isDiskWord, .static yX8_isDiskWord, .code yX8_isDiskWord cX8_isDiskWord 2 (some .boolean)] ++ wsX80 ++ wsX00 ++ wsX10 ++ (vx_at0 RX8 34 "java/lang/IllegalArgumentException" ["java/lang/RuntimeException", "java/lang/Exception"]).filter goodWord)
def wsX8_run_a : List Cond := [.classLink RX8 32 "java/lang/IllegalArgumentException", .initialized "java/lang/IllegalArgumentException", .classLink RX8 70 "java/lang/IllegalStateException", .initialized "java/lang/IllegalStateException", .fieldLink RX8 21 "UnibusMachine" "processor" "LUnibusMachine$Processor;", .fieldLink RX8 63 "UnibusMachine$Processor" "halted" "I"]
def wsX8_run : List Cond := .code yX8_run cX8_run 3 (some .int) :: (wsX8_run_a ++ wsX80 ++ wsX60 ++ (vx_at0 RX8 34 "java/lang/IllegalArgumentException" ["java/lang/RuntimeException", "java/lang/Exception"]).filter goodWord ++ (vx_at0 RX8 72 "java/lang/IllegalStateException" ["java/lang/RuntimeException", "java/lang/Exception"]).filter goodWord)
def wsX9_run : List Cond := .code yX9_run cX9_run 3 (some .int) :: ([.fieldLink RX9 22 "UnibusMachineModel" "state" "I", .fieldLink RX9 48 "UnibusMachineModel" "thrown" "I"] ++ wsX90)
def wsL_run : List Cond := .codeWith yL_run cL_run 4 (some .int) [(0, 9, 12, 13), (0, 9, 15, 32)] :: ([.classLink RL 13 "java/lang/IllegalArgumentException", .classLink RL 32 "java/lang/IllegalStateException", .methodLink RL 29 yX8_run, .instanceMethod yX8_run, .selects RX8 yX8_run yX8_run, .initialized RX8, .code yX8_run cX8_run 3 (some .int)] ++ (wsX8_run_a ++ wsX80 ++ wsX60 ++ (vx_at0 RX8 34 "java/lang/IllegalArgumentException" ["java/lang/RuntimeException", "java/lang/Exception"]).filter goodWord ++ (vx_at0 RX8 72 "java/lang/IllegalStateException" ["java/lang/RuntimeException", "java/lang/Exception"]).filter goodWord))
end
section
set_option maxRecDepth 20000 in
theorem ggX0_init_X4_init : GoodIn wsX0_init wsX4_init := goodIn_r _ [27, 28, 2, 3, 4, 29, 30, 31, 75, 76, 77] (by decide +kernel) (by decide +kernel)
set_option maxRecDepth 20000 in
theorem gX0_init_X4_init_n15 : GoodIn wsX0_init (wsX4_init) := ggX0_init_X4_init
set_option maxRecDepth 20000 in
theorem ggX0_init_X7_init : GoodIn wsX0_init wsX7_init := goodIn_r _ [33, 34, 2, 3, 35, 36, 78, 79] (by decide +kernel) (by decide +kernel)
set_option maxRecDepth 20000 in
theorem gX0_init_X7_init_n22 : GoodIn wsX0_init (wsX7_init) := ggX0_init_X7_init
set_option maxRecDepth 20000 in
theorem ggX0_init_X2_init : GoodIn wsX0_init wsX2_init := goodIn_r _ [38, 39, 40, 41, 42, 43, 2, 3, 44, 45, 80, 81, 82, 90, 91, 92, 93, 94, 95, 96, 97, 98, 99, 83, 84, 85, 86, 87, 88, 89] (by decide +kernel) (by decide +kernel)
set_option maxRecDepth 20000 in
theorem gX0_init_X2_init_n29 : GoodIn wsX0_init (wsX2_init) := ggX0_init_X2_init
set_option maxRecDepth 20000 in
theorem ggX0_init_X5_init : GoodIn wsX0_init wsX5_init := goodIn_r _ [48, 4, 49, 50, 51, 52, 53, 54, 55, 40, 41, 42, 43, 2, 3, 44, 45, 83, 84, 85, 86, 87, 88, 89, 90, 91, 92, 93, 94, 95, 96, 97, 98, 99, 80, 81, 82] (by decide +kernel) (by decide +kernel)
set_option maxRecDepth 20000 in
theorem gX0_init_X5_init : GoodIn wsX0_init (wsX5_init) := ggX0_init_X5_init
set_option maxRecDepth 20000 in
theorem ggX0_init_X1_init : GoodIn wsX0_init wsX1_init := goodIn_r _ [58, 4, 59, 60, 61, 62, 63, 64, 65, 66, 67, 68, 40, 41, 42, 43, 2, 3, 44, 45, 90, 91, 92, 93, 94, 95, 96, 97, 98, 99, 80, 81, 82, 83, 84, 85, 86, 87, 88, 89] (by decide +kernel) (by decide +kernel)
set_option maxRecDepth 20000 in
theorem gX0_init_X1_init : GoodIn wsX0_init (wsX1_init) := ggX0_init_X1_init
theorem dX0_init_0 : decode cX0_init 0 = .ok (.aload_n 0, 1) := by decide +kernel
theorem dX0_init_1 : decode cX0_init 1 = .ok (.invokespecial 1, 3) := by decide +kernel
theorem dX0_init_4 : decode cX0_init 4 = .ok (.aload_n 0, 1) := by decide +kernel
theorem dX0_init_5 : decode cX0_init 5 = .ok (.sipush 512, 3) := by decide +kernel
theorem dX0_init_8 : decode cX0_init 8 = .ok (.newarray .int, 2) := by decide +kernel
theorem dX0_init_10 : decode cX0_init 10 = .ok (.putfield 9, 3) := by decide +kernel
theorem dX0_init_13 : decode cX0_init 13 = .ok (.aload_n 0, 1) := by decide +kernel
theorem dX0_init_14 : decode cX0_init 14 = .ok (.new 13, 3) := by decide +kernel
theorem dX0_init_17 : decode cX0_init 17 = .ok (.dup, 1) := by decide +kernel
theorem dX0_init_18 : decode cX0_init 18 = .ok (.invokespecial 15, 3) := by decide +kernel
theorem dX0_init_21 : decode cX0_init 21 = .ok (.putfield 16, 3) := by decide +kernel
theorem dX0_init_24 : decode cX0_init 24 = .ok (.aload_n 0, 1) := by decide +kernel
theorem dX0_init_25 : decode cX0_init 25 = .ok (.new 20, 3) := by decide +kernel
theorem dX0_init_28 : decode cX0_init 28 = .ok (.dup, 1) := by decide +kernel
theorem dX0_init_29 : decode cX0_init 29 = .ok (.invokespecial 22, 3) := by decide +kernel
theorem dX0_init_32 : decode cX0_init 32 = .ok (.putfield 23, 3) := by decide +kernel
theorem dX0_init_35 : decode cX0_init 35 = .ok (.aload_n 0, 1) := by decide +kernel
theorem dX0_init_36 : decode cX0_init 36 = .ok (.new 27, 3) := by decide +kernel
theorem dX0_init_39 : decode cX0_init 39 = .ok (.dup, 1) := by decide +kernel
theorem dX0_init_40 : decode cX0_init 40 = .ok (.invokespecial 29, 3) := by decide +kernel
theorem dX0_init_43 : decode cX0_init 43 = .ok (.putfield 30, 3) := by decide +kernel
theorem dX0_init_46 : decode cX0_init 46 = .ok (.aload_n 0, 1) := by decide +kernel
theorem dX0_init_47 : decode cX0_init 47 = .ok (.new 34, 3) := by decide +kernel
theorem dX0_init_50 : decode cX0_init 50 = .ok (.dup, 1) := by decide +kernel
theorem dX0_init_51 : decode cX0_init 51 = .ok (.invokespecial 36, 3) := by decide +kernel
theorem dX0_init_54 : decode cX0_init 54 = .ok (.putfield 37, 3) := by decide +kernel
theorem dX0_init_57 : decode cX0_init 57 = .ok (.aload_n 0, 1) := by decide +kernel
theorem dX0_init_58 : decode cX0_init 58 = .ok (.new 41, 3) := by decide +kernel
theorem dX0_init_61 : decode cX0_init 61 = .ok (.dup, 1) := by decide +kernel
theorem dX0_init_62 : decode cX0_init 62 = .ok (.invokespecial 43, 3) := by decide +kernel
theorem dX0_init_65 : decode cX0_init 65 = .ok (.putfield 44, 3) := by decide +kernel
theorem dX0_init_68 : decode cX0_init 68 = .ok (.return_, 1) := by decide +kernel
theorem dX0_peek_0 : decode cX0_peek 0 = .ok (.iload_n 1, 1) := by decide +kernel
theorem dX0_peek_1 : decode cX0_peek 1 = .ok (.iconst 1, 1) := by decide +kernel
theorem dX0_peek_2 : decode cX0_peek 2 = .ok (.iand, 1) := by decide +kernel
theorem dX0_peek_3 : decode cX0_peek 3 = .ok (.ifCond .eq 5, 3) := by decide +kernel
theorem dX0_peek_6 : decode cX0_peek 6 = .ok (.iconst (-1), 1) := by decide +kernel
theorem dX0_peek_7 : decode cX0_peek 7 = .ok (.ireturn, 1) := by decide +kernel
theorem dX0_peek_8 : decode cX0_peek 8 = .ok (.iload_n 1, 1) := by decide +kernel
theorem dX0_peek_9 : decode cX0_peek 9 = .ok (.ifCond .lt 19, 3) := by decide +kernel
theorem dX0_peek_12 : decode cX0_peek 12 = .ok (.iload_n 1, 1) := by decide +kernel
theorem dX0_peek_13 : decode cX0_peek 13 = .ok (.sipush 1024, 3) := by decide +kernel
theorem dX0_peek_16 : decode cX0_peek 16 = .ok (.if_icmp .ge 12, 3) := by decide +kernel
theorem dX0_peek_19 : decode cX0_peek 19 = .ok (.aload_n 0, 1) := by decide +kernel
theorem dX0_peek_20 : decode cX0_peek 20 = .ok (.getfield 9, 3) := by decide +kernel
theorem dX0_peek_23 : decode cX0_peek 23 = .ok (.iload_n 1, 1) := by decide +kernel
theorem dX0_peek_24 : decode cX0_peek 24 = .ok (.iconst 1, 1) := by decide +kernel
theorem dX0_peek_25 : decode cX0_peek 25 = .ok (.ishr, 1) := by decide +kernel
theorem dX0_peek_26 : decode cX0_peek 26 = .ok (.iaload, 1) := by decide +kernel
theorem dX0_peek_27 : decode cX0_peek 27 = .ok (.ireturn, 1) := by decide +kernel
theorem dX0_peek_28 : decode cX0_peek 28 = .ok (.iload_n 1, 1) := by decide +kernel
theorem dX0_peek_29 : decode cX0_peek 29 = .ok (.ldc 48, 2) := by decide +kernel
theorem dX0_peek_31 : decode cX0_peek 31 = .ok (.if_icmp .lt 24, 3) := by decide +kernel
theorem dX0_peek_34 : decode cX0_peek 34 = .ok (.iload_n 1, 1) := by decide +kernel
theorem dX0_peek_35 : decode cX0_peek 35 = .ok (.ldc 49, 2) := by decide +kernel
theorem dX0_peek_37 : decode cX0_peek 37 = .ok (.if_icmp .ge 18, 3) := by decide +kernel
theorem dX0_peek_40 : decode cX0_peek 40 = .ok (.aload_n 0, 1) := by decide +kernel
theorem dX0_peek_41 : decode cX0_peek 41 = .ok (.getfield 16, 3) := by decide +kernel
theorem dX0_peek_44 : decode cX0_peek 44 = .ok (.getfield 50, 3) := by decide +kernel
theorem dX0_peek_47 : decode cX0_peek 47 = .ok (.iload_n 1, 1) := by decide +kernel
theorem dX0_peek_48 : decode cX0_peek 48 = .ok (.ldc 48, 2) := by decide +kernel
theorem dX0_peek_50 : decode cX0_peek 50 = .ok (.isub, 1) := by decide +kernel
theorem dX0_peek_51 : decode cX0_peek 51 = .ok (.iconst 1, 1) := by decide +kernel
theorem dX0_peek_52 : decode cX0_peek 52 = .ok (.ishr, 1) := by decide +kernel
theorem dX0_peek_53 : decode cX0_peek 53 = .ok (.iaload, 1) := by decide +kernel
theorem dX0_peek_54 : decode cX0_peek 54 = .ok (.ireturn, 1) := by decide +kernel
theorem dX0_peek_55 : decode cX0_peek 55 = .ok (.iload_n 1, 1) := by decide +kernel
theorem dX0_peek_56 : decode cX0_peek 56 = .ok (.ldc 49, 2) := by decide +kernel
theorem dX0_peek_58 : decode cX0_peek 58 = .ok (.if_icmp .lt 24, 3) := by decide +kernel
theorem dX0_peek_61 : decode cX0_peek 61 = .ok (.iload_n 1, 1) := by decide +kernel
theorem dX0_peek_62 : decode cX0_peek 62 = .ok (.ldc 53, 2) := by decide +kernel
theorem dX0_peek_64 : decode cX0_peek 64 = .ok (.if_icmp .ge 18, 3) := by decide +kernel
theorem dX0_peek_67 : decode cX0_peek 67 = .ok (.aload_n 0, 1) := by decide +kernel
theorem dX0_peek_68 : decode cX0_peek 68 = .ok (.getfield 16, 3) := by decide +kernel
theorem dX0_peek_71 : decode cX0_peek 71 = .ok (.getfield 54, 3) := by decide +kernel
theorem dX0_peek_74 : decode cX0_peek 74 = .ok (.iload_n 1, 1) := by decide +kernel
theorem dX0_peek_75 : decode cX0_peek 75 = .ok (.ldc 49, 2) := by decide +kernel
theorem dX0_peek_77 : decode cX0_peek 77 = .ok (.isub, 1) := by decide +kernel
theorem dX0_peek_78 : decode cX0_peek 78 = .ok (.iconst 1, 1) := by decide +kernel
theorem dX0_peek_79 : decode cX0_peek 79 = .ok (.ishr, 1) := by decide +kernel
theorem dX0_peek_80 : decode cX0_peek 80 = .ok (.iaload, 1) := by decide +kernel
theorem dX0_peek_81 : decode cX0_peek 81 = .ok (.ireturn, 1) := by decide +kernel
theorem dX0_peek_82 : decode cX0_peek 82 = .ok (.iload_n 1, 1) := by decide +kernel
theorem dX0_peek_83 : decode cX0_peek 83 = .ok (.lookupswitch 179 #[(57408, 89), (57424, 97), (57426, 105), (57428, 113), (57430, 121), (57440, 123), (57442, 147), (57444, 155), (57446, 163), (57470, 171)], 89) := by decide +kernel
theorem dX0_peek_172 : decode cX0_peek 172 = .ok (.aload_n 0, 1) := by decide +kernel
theorem dX0_peek_173 : decode cX0_peek 173 = .ok (.getfield 16, 3) := by decide +kernel
theorem dX0_peek_176 : decode cX0_peek 176 = .ok (.getfield 57, 3) := by decide +kernel
theorem dX0_peek_179 : decode cX0_peek 179 = .ok (.ireturn, 1) := by decide +kernel
theorem dX0_peek_180 : decode cX0_peek 180 = .ok (.aload_n 0, 1) := by decide +kernel
theorem dX0_peek_181 : decode cX0_peek 181 = .ok (.getfield 30, 3) := by decide +kernel
theorem dX0_peek_184 : decode cX0_peek 184 = .ok (.getfield 61, 3) := by decide +kernel
theorem dX0_peek_187 : decode cX0_peek 187 = .ok (.ireturn, 1) := by decide +kernel
theorem dX0_peek_188 : decode cX0_peek 188 = .ok (.aload_n 0, 1) := by decide +kernel
theorem dX0_peek_189 : decode cX0_peek 189 = .ok (.getfield 30, 3) := by decide +kernel
theorem dX0_peek_192 : decode cX0_peek 192 = .ok (.getfield 64, 3) := by decide +kernel
theorem dX0_peek_195 : decode cX0_peek 195 = .ok (.ireturn, 1) := by decide +kernel
theorem dX0_peek_196 : decode cX0_peek 196 = .ok (.aload_n 0, 1) := by decide +kernel
theorem dX0_peek_197 : decode cX0_peek 197 = .ok (.getfield 37, 3) := by decide +kernel
theorem dX0_peek_200 : decode cX0_peek 200 = .ok (.getfield 67, 3) := by decide +kernel
theorem dX0_peek_203 : decode cX0_peek 203 = .ok (.ireturn, 1) := by decide +kernel
theorem dX0_peek_204 : decode cX0_peek 204 = .ok (.iconst 0, 1) := by decide +kernel
theorem dX0_peek_205 : decode cX0_peek 205 = .ok (.ireturn, 1) := by decide +kernel
theorem dX0_peek_206 : decode cX0_peek 206 = .ok (.aload_n 0, 1) := by decide +kernel
theorem dX0_peek_207 : decode cX0_peek 207 = .ok (.getfield 44, 3) := by decide +kernel
theorem dX0_peek_210 : decode cX0_peek 210 = .ok (.getfield 68, 3) := by decide +kernel
theorem dX0_peek_213 : decode cX0_peek 213 = .ok (.aload_n 0, 1) := by decide +kernel
theorem dX0_peek_214 : decode cX0_peek 214 = .ok (.getfield 44, 3) := by decide +kernel
theorem dX0_peek_217 : decode cX0_peek 217 = .ok (.getfield 69, 3) := by decide +kernel
theorem dX0_peek_220 : decode cX0_peek 220 = .ok (.ior, 1) := by decide +kernel
theorem dX0_peek_221 : decode cX0_peek 221 = .ok (.aload_n 0, 1) := by decide +kernel
theorem dX0_peek_222 : decode cX0_peek 222 = .ok (.getfield 44, 3) := by decide +kernel
theorem dX0_peek_225 : decode cX0_peek 225 = .ok (.getfield 72, 3) := by decide +kernel
theorem dX0_peek_228 : decode cX0_peek 228 = .ok (.ior, 1) := by decide +kernel
theorem dX0_peek_229 : decode cX0_peek 229 = .ok (.ireturn, 1) := by decide +kernel
theorem dX0_peek_230 : decode cX0_peek 230 = .ok (.aload_n 0, 1) := by decide +kernel
theorem dX0_peek_231 : decode cX0_peek 231 = .ok (.getfield 44, 3) := by decide +kernel
theorem dX0_peek_234 : decode cX0_peek 234 = .ok (.getfield 75, 3) := by decide +kernel
theorem dX0_peek_237 : decode cX0_peek 237 = .ok (.ireturn, 1) := by decide +kernel
theorem dX0_peek_238 : decode cX0_peek 238 = .ok (.aload_n 0, 1) := by decide +kernel
theorem dX0_peek_239 : decode cX0_peek 239 = .ok (.getfield 44, 3) := by decide +kernel
theorem dX0_peek_242 : decode cX0_peek 242 = .ok (.getfield 78, 3) := by decide +kernel
theorem dX0_peek_245 : decode cX0_peek 245 = .ok (.ireturn, 1) := by decide +kernel
theorem dX0_peek_246 : decode cX0_peek 246 = .ok (.aload_n 0, 1) := by decide +kernel
theorem dX0_peek_247 : decode cX0_peek 247 = .ok (.getfield 44, 3) := by decide +kernel
theorem dX0_peek_250 : decode cX0_peek 250 = .ok (.getfield 81, 3) := by decide +kernel
theorem dX0_peek_253 : decode cX0_peek 253 = .ok (.ireturn, 1) := by decide +kernel
theorem dX0_peek_254 : decode cX0_peek 254 = .ok (.aload_n 0, 1) := by decide +kernel
theorem dX0_peek_255 : decode cX0_peek 255 = .ok (.getfield 23, 3) := by decide +kernel
theorem dX0_peek_258 : decode cX0_peek 258 = .ok (.getfield 84, 3) := by decide +kernel
theorem dX0_peek_261 : decode cX0_peek 261 = .ok (.ireturn, 1) := by decide +kernel
theorem dX0_peek_262 : decode cX0_peek 262 = .ok (.iconst (-1), 1) := by decide +kernel
theorem dX0_peek_263 : decode cX0_peek 263 = .ok (.ireturn, 1) := by decide +kernel
set_option maxRecDepth 20000 in
theorem ggX1_init_X3_init : GoodIn wsX1_init wsX3_init := goodIn_r _ [14, 15, 16, 17, 18, 19, 20, 21, 22, 23, 24, 25, 26, 27, 28, 29, 30, 31, 32, 33, 34, 35, 36, 37, 38, 39] (by decide +kernel) (by decide +kernel)
set_option maxRecDepth 20000 in
theorem gX1_init_X3_init_n1 : GoodIn wsX1_init (wsX3_init) := ggX1_init_X3_init
theorem dX1_init_0 : decode cX1_init 0 = .ok (.aload_n 0, 1) := by decide +kernel
theorem dX1_init_1 : decode cX1_init 1 = .ok (.invokespecial 1, 3) := by decide +kernel
theorem dX1_init_4 : decode cX1_init 4 = .ok (.aload_n 0, 1) := by decide +kernel
theorem dX1_init_5 : decode cX1_init 5 = .ok (.sipush 128, 3) := by decide +kernel
theorem dX1_init_8 : decode cX1_init 8 = .ok (.newarray .int, 2) := by decide +kernel
theorem dX1_init_10 : decode cX1_init 10 = .ok (.putfield 9, 3) := by decide +kernel
theorem dX1_init_13 : decode cX1_init 13 = .ok (.aload_n 0, 1) := by decide +kernel
theorem dX1_init_14 : decode cX1_init 14 = .ok (.iconst 0, 1) := by decide +kernel
theorem dX1_init_15 : decode cX1_init 15 = .ok (.putfield 13, 3) := by decide +kernel
theorem dX1_init_18 : decode cX1_init 18 = .ok (.aload_n 0, 1) := by decide +kernel
theorem dX1_init_19 : decode cX1_init 19 = .ok (.iconst 0, 1) := by decide +kernel
theorem dX1_init_20 : decode cX1_init 20 = .ok (.putfield 17, 3) := by decide +kernel
theorem dX1_init_23 : decode cX1_init 23 = .ok (.aload_n 0, 1) := by decide +kernel
theorem dX1_init_24 : decode cX1_init 24 = .ok (.iconst 0, 1) := by decide +kernel
theorem dX1_init_25 : decode cX1_init 25 = .ok (.putfield 20, 3) := by decide +kernel
theorem dX1_init_28 : decode cX1_init 28 = .ok (.aload_n 0, 1) := by decide +kernel
theorem dX1_init_29 : decode cX1_init 29 = .ok (.iconst 0, 1) := by decide +kernel
theorem dX1_init_30 : decode cX1_init 30 = .ok (.putfield 23, 3) := by decide +kernel
theorem dX1_init_33 : decode cX1_init 33 = .ok (.aload_n 0, 1) := by decide +kernel
theorem dX1_init_34 : decode cX1_init 34 = .ok (.iconst 0, 1) := by decide +kernel
theorem dX1_init_35 : decode cX1_init 35 = .ok (.putfield 26, 3) := by decide +kernel
theorem dX1_init_38 : decode cX1_init 38 = .ok (.aload_n 0, 1) := by decide +kernel
theorem dX1_init_39 : decode cX1_init 39 = .ok (.iconst 0, 1) := by decide +kernel
theorem dX1_init_40 : decode cX1_init 40 = .ok (.putfield 29, 3) := by decide +kernel
theorem dX1_init_43 : decode cX1_init 43 = .ok (.aload_n 0, 1) := by decide +kernel
theorem dX1_init_44 : decode cX1_init 44 = .ok (.iconst 0, 1) := by decide +kernel
theorem dX1_init_45 : decode cX1_init 45 = .ok (.putfield 32, 3) := by decide +kernel
theorem dX1_init_48 : decode cX1_init 48 = .ok (.aload_n 0, 1) := by decide +kernel
theorem dX1_init_49 : decode cX1_init 49 = .ok (.sipush 128, 3) := by decide +kernel
theorem dX1_init_52 : decode cX1_init 52 = .ok (.putfield 36, 3) := by decide +kernel
theorem dX1_init_55 : decode cX1_init 55 = .ok (.return_, 1) := by decide +kernel
set_option maxRecDepth 20000 in
theorem ggX2_init_X3_init : GoodIn wsX2_init wsX3_init := goodIn_r _ [4, 5, 6, 7, 8, 9, 13, 14, 15, 16, 17, 18, 19, 20, 21, 22, 10, 11, 12, 23, 24, 25, 26, 27, 28, 29] (by decide +kernel) (by decide +kernel)
set_option maxRecDepth 20000 in
theorem gX2_init_X3_init_n1 : GoodIn wsX2_init (wsX3_init) := ggX2_init_X3_init
theorem dX2_init_0 : decode cX2_init 0 = .ok (.aload_n 0, 1) := by decide +kernel
theorem dX2_init_1 : decode cX2_init 1 = .ok (.invokespecial 1, 3) := by decide +kernel
theorem dX2_init_4 : decode cX2_init 4 = .ok (.aload_n 0, 1) := by decide +kernel
theorem dX2_init_5 : decode cX2_init 5 = .ok (.iconst 0, 1) := by decide +kernel
theorem dX2_init_6 : decode cX2_init 6 = .ok (.putfield 7, 3) := by decide +kernel
theorem dX2_init_9 : decode cX2_init 9 = .ok (.return_, 1) := by decide +kernel
set_option maxRecDepth 20000 in
theorem ggX2_type_X3_become : GoodIn wsX2_type wsX3_become := goodIn_r _ [9, 10, 11, 15, 16, 17, 18, 19, 20, 21, 22, 23, 24, 12, 13, 14, 25, 26, 27, 28, 29, 30, 31] (by decide +kernel) (by decide +kernel)
set_option maxRecDepth 20000 in
theorem gX2_type_X3_become_u16X2 : GoodIn wsX2_type (va_wsU RX2 16 RX2 "UnibusMachine$Line" ⟨"UnibusMachine$Keyboard", "become", "(I)V"⟩ yX3_become wsX3_become) := goodIn_app (goodIn_of _ (by decide +kernel)) ggX2_type_X3_become
theorem dX2_type_0 : decode cX2_type 0 = .ok (.aload_n 0, 1) := by decide +kernel
theorem dX2_type_1 : decode cX2_type 1 = .ok (.iload_n 1, 1) := by decide +kernel
theorem dX2_type_2 : decode cX2_type 2 = .ok (.putfield 7, 3) := by decide +kernel
theorem dX2_type_5 : decode cX2_type 5 = .ok (.aload_n 0, 1) := by decide +kernel
theorem dX2_type_6 : decode cX2_type 6 = .ok (.aload_n 0, 1) := by decide +kernel
theorem dX2_type_7 : decode cX2_type 7 = .ok (.getfield 13, 3) := by decide +kernel
theorem dX2_type_10 : decode cX2_type 10 = .ok (.sipush 128, 3) := by decide +kernel
theorem dX2_type_13 : decode cX2_type 13 = .ok (.ior, 1) := by decide +kernel
theorem dX2_type_14 : decode cX2_type 14 = .ok (.invokevirtual 16, 3) := by decide +kernel
theorem dX2_type_17 : decode cX2_type 17 = .ok (.return_, 1) := by decide +kernel
theorem dX3_init_0 : decode cX3_init 0 = .ok (.aload_n 0, 1) := by decide +kernel
theorem dX3_init_1 : decode cX3_init 1 = .ok (.invokespecial 3, 3) := by decide +kernel
theorem dX3_init_4 : decode cX3_init 4 = .ok (.aload_n 0, 1) := by decide +kernel
theorem dX3_init_5 : decode cX3_init 5 = .ok (.iconst 0, 1) := by decide +kernel
theorem dX3_init_6 : decode cX3_init 6 = .ok (.putfield 9, 3) := by decide +kernel
theorem dX3_init_9 : decode cX3_init 9 = .ok (.aload_n 0, 1) := by decide +kernel
theorem dX3_init_10 : decode cX3_init 10 = .ok (.iconst 0, 1) := by decide +kernel
theorem dX3_init_11 : decode cX3_init 11 = .ok (.putfield 13, 3) := by decide +kernel
theorem dX3_init_14 : decode cX3_init 14 = .ok (.return_, 1) := by decide +kernel
theorem dX3_become_0 : decode cX3_become 0 = .ok (.aload_n 0, 1) := by decide +kernel
theorem dX3_become_1 : decode cX3_become 1 = .ok (.iload_n 1, 1) := by decide +kernel
theorem dX3_become_2 : decode cX3_become 2 = .ok (.sipush 192, 3) := by decide +kernel
theorem dX3_become_5 : decode cX3_become 5 = .ok (.if_icmp .ne 24, 3) := by decide +kernel
theorem dX3_become_8 : decode cX3_become 8 = .ok (.aload_n 0, 1) := by decide +kernel
theorem dX3_become_9 : decode cX3_become 9 = .ok (.getfield 13, 3) := by decide +kernel
theorem dX3_become_12 : decode cX3_become 12 = .ok (.ifCond .ne 13, 3) := by decide +kernel
theorem dX3_become_15 : decode cX3_become 15 = .ok (.aload_n 0, 1) := by decide +kernel
theorem dX3_become_16 : decode cX3_become 16 = .ok (.getfield 9, 3) := by decide +kernel
theorem dX3_become_19 : decode cX3_become 19 = .ok (.sipush 192, 3) := by decide +kernel
theorem dX3_become_22 : decode cX3_become 22 = .ok (.if_icmp .eq 7, 3) := by decide +kernel
theorem dX3_become_25 : decode cX3_become 25 = .ok (.iconst 1, 1) := by decide +kernel
theorem dX3_become_26 : decode cX3_become 26 = .ok (.goto 4, 3) := by decide +kernel
theorem dX3_become_29 : decode cX3_become 29 = .ok (.iconst 0, 1) := by decide +kernel
theorem dX3_become_30 : decode cX3_become 30 = .ok (.putfield 13, 3) := by decide +kernel
theorem dX3_become_33 : decode cX3_become 33 = .ok (.aload_n 0, 1) := by decide +kernel
theorem dX3_become_34 : decode cX3_become 34 = .ok (.iload_n 1, 1) := by decide +kernel
theorem dX3_become_35 : decode cX3_become 35 = .ok (.putfield 9, 3) := by decide +kernel
theorem dX3_become_38 : decode cX3_become 38 = .ok (.return_, 1) := by decide +kernel
theorem dX4_init_0 : decode cX4_init 0 = .ok (.aload_n 0, 1) := by decide +kernel
theorem dX4_init_1 : decode cX4_init 1 = .ok (.invokespecial 3, 3) := by decide +kernel
theorem dX4_init_4 : decode cX4_init 4 = .ok (.aload_n 0, 1) := by decide +kernel
theorem dX4_init_5 : decode cX4_init 5 = .ok (.bipush 16, 2) := by decide +kernel
theorem dX4_init_7 : decode cX4_init 7 = .ok (.newarray .int, 2) := by decide +kernel
theorem dX4_init_9 : decode cX4_init 9 = .ok (.putfield 9, 3) := by decide +kernel
theorem dX4_init_12 : decode cX4_init 12 = .ok (.aload_n 0, 1) := by decide +kernel
theorem dX4_init_13 : decode cX4_init 13 = .ok (.bipush 16, 2) := by decide +kernel
theorem dX4_init_15 : decode cX4_init 15 = .ok (.newarray .int, 2) := by decide +kernel
theorem dX4_init_17 : decode cX4_init 17 = .ok (.putfield 13, 3) := by decide +kernel
theorem dX4_init_20 : decode cX4_init 20 = .ok (.aload_n 0, 1) := by decide +kernel
theorem dX4_init_21 : decode cX4_init 21 = .ok (.iconst 0, 1) := by decide +kernel
theorem dX4_init_22 : decode cX4_init 22 = .ok (.putfield 16, 3) := by decide +kernel
theorem dX4_init_25 : decode cX4_init 25 = .ok (.return_, 1) := by decide +kernel
set_option maxRecDepth 20000 in
theorem ggX5_init_X3_init : GoodIn wsX5_init wsX3_init := goodIn_r _ [11, 12, 13, 14, 15, 16, 24, 25, 26, 27, 28, 29, 30, 31, 32, 33, 34, 35, 36, 17, 18, 19, 20, 21, 22, 23] (by decide +kernel) (by decide +kernel)
set_option maxRecDepth 20000 in
theorem gX5_init_X3_init_n1 : GoodIn wsX5_init (wsX3_init) := ggX5_init_X3_init
theorem dX5_init_0 : decode cX5_init 0 = .ok (.aload_n 0, 1) := by decide +kernel
theorem dX5_init_1 : decode cX5_init 1 = .ok (.invokespecial 1, 3) := by decide +kernel
theorem dX5_init_4 : decode cX5_init 4 = .ok (.aload_n 0, 1) := by decide +kernel
theorem dX5_init_5 : decode cX5_init 5 = .ok (.bipush 32, 2) := by decide +kernel
theorem dX5_init_7 : decode cX5_init 7 = .ok (.newarray .int, 2) := by decide +kernel
theorem dX5_init_9 : decode cX5_init 9 = .ok (.putfield 9, 3) := by decide +kernel
theorem dX5_init_12 : decode cX5_init 12 = .ok (.aload_n 0, 1) := by decide +kernel
theorem dX5_init_13 : decode cX5_init 13 = .ok (.iconst 0, 1) := by decide +kernel
theorem dX5_init_14 : decode cX5_init 14 = .ok (.putfield 13, 3) := by decide +kernel
theorem dX5_init_17 : decode cX5_init 17 = .ok (.aload_n 0, 1) := by decide +kernel
theorem dX5_init_18 : decode cX5_init 18 = .ok (.iconst 0, 1) := by decide +kernel
theorem dX5_init_19 : decode cX5_init 19 = .ok (.putfield 17, 3) := by decide +kernel
theorem dX5_init_22 : decode cX5_init 22 = .ok (.aload_n 0, 1) := by decide +kernel
theorem dX5_init_23 : decode cX5_init 23 = .ok (.iconst 0, 1) := by decide +kernel
theorem dX5_init_24 : decode cX5_init 24 = .ok (.putfield 20, 3) := by decide +kernel
theorem dX5_init_27 : decode cX5_init 27 = .ok (.aload_n 0, 1) := by decide +kernel
theorem dX5_init_28 : decode cX5_init 28 = .ok (.iconst 0, 1) := by decide +kernel
theorem dX5_init_29 : decode cX5_init 29 = .ok (.putfield 23, 3) := by decide +kernel
theorem dX5_init_32 : decode cX5_init 32 = .ok (.aload_n 0, 1) := by decide +kernel
theorem dX5_init_33 : decode cX5_init 33 = .ok (.sipush 128, 3) := by decide +kernel
theorem dX5_init_36 : decode cX5_init 36 = .ok (.putfield 27, 3) := by decide +kernel
theorem dX5_init_39 : decode cX5_init 39 = .ok (.return_, 1) := by decide +kernel
theorem dX6_init_0 : decode cX6_init 0 = .ok (.aload_n 0, 1) := by decide +kernel
theorem dX6_init_1 : decode cX6_init 1 = .ok (.invokespecial 1, 3) := by decide +kernel
theorem dX6_init_4 : decode cX6_init 4 = .ok (.aload_n 0, 1) := by decide +kernel
theorem dX6_init_5 : decode cX6_init 5 = .ok (.bipush 8, 2) := by decide +kernel
theorem dX6_init_7 : decode cX6_init 7 = .ok (.newarray .int, 2) := by decide +kernel
theorem dX6_init_9 : decode cX6_init 9 = .ok (.putfield 7, 3) := by decide +kernel
theorem dX6_init_12 : decode cX6_init 12 = .ok (.aload_n 0, 1) := by decide +kernel
theorem dX6_init_13 : decode cX6_init 13 = .ok (.iconst 0, 1) := by decide +kernel
theorem dX6_init_14 : decode cX6_init 14 = .ok (.putfield 13, 3) := by decide +kernel
theorem dX6_init_17 : decode cX6_init 17 = .ok (.aload_n 0, 1) := by decide +kernel
theorem dX6_init_18 : decode cX6_init 18 = .ok (.iconst 2, 1) := by decide +kernel
theorem dX6_init_19 : decode cX6_init 19 = .ok (.putfield 17, 3) := by decide +kernel
theorem dX6_init_22 : decode cX6_init 22 = .ok (.aload_n 0, 1) := by decide +kernel
theorem dX6_init_23 : decode cX6_init 23 = .ok (.iconst 0, 1) := by decide +kernel
theorem dX6_init_24 : decode cX6_init 24 = .ok (.putfield 20, 3) := by decide +kernel
theorem dX6_init_27 : decode cX6_init 27 = .ok (.aload_n 0, 1) := by decide +kernel
theorem dX6_init_28 : decode cX6_init 28 = .ok (.iconst 0, 1) := by decide +kernel
theorem dX6_init_29 : decode cX6_init 29 = .ok (.putfield 24, 3) := by decide +kernel
theorem dX6_init_32 : decode cX6_init 32 = .ok (.aload_n 0, 1) := by decide +kernel
theorem dX6_init_33 : decode cX6_init 33 = .ok (.iconst 0, 1) := by decide +kernel
theorem dX6_init_34 : decode cX6_init 34 = .ok (.putfield 27, 3) := by decide +kernel
theorem dX6_init_37 : decode cX6_init 37 = .ok (.aload_n 0, 1) := by decide +kernel
theorem dX6_init_38 : decode cX6_init 38 = .ok (.iconst 0, 1) := by decide +kernel
theorem dX6_init_39 : decode cX6_init 39 = .ok (.putfield 30, 3) := by decide +kernel
theorem dX6_init_42 : decode cX6_init 42 = .ok (.aload_n 0, 1) := by decide +kernel
theorem dX6_init_43 : decode cX6_init 43 = .ok (.aload_n 1, 1) := by decide +kernel
theorem dX6_init_44 : decode cX6_init 44 = .ok (.putfield 33, 3) := by decide +kernel
theorem dX6_init_47 : decode cX6_init 47 = .ok (.aload_n 0, 1) := by decide +kernel
theorem dX6_init_48 : decode cX6_init 48 = .ok (.aload_n 1, 1) := by decide +kernel
theorem dX6_init_49 : decode cX6_init 49 = .ok (.getfield 37, 3) := by decide +kernel
theorem dX6_init_52 : decode cX6_init 52 = .ok (.putfield 43, 3) := by decide +kernel
theorem dX6_init_55 : decode cX6_init 55 = .ok (.return_, 1) := by decide +kernel
theorem dX6_mode_0 : decode cX6_mode 0 = .ok (.aload_n 0, 1) := by decide +kernel
theorem dX6_mode_1 : decode cX6_mode 1 = .ok (.getfield 43, 3) := by decide +kernel
theorem dX6_mode_4 : decode cX6_mode 4 = .ok (.getfield 44, 3) := by decide +kernel
theorem dX6_mode_7 : decode cX6_mode 7 = .ok (.bipush 14, 2) := by decide +kernel
theorem dX6_mode_9 : decode cX6_mode 9 = .ok (.ishr, 1) := by decide +kernel
theorem dX6_mode_10 : decode cX6_mode 10 = .ok (.iconst 1, 1) := by decide +kernel
theorem dX6_mode_11 : decode cX6_mode 11 = .ok (.iand, 1) := by decide +kernel
theorem dX6_mode_12 : decode cX6_mode 12 = .ok (.ireturn, 1) := by decide +kernel
theorem dX6_takeStatus_0 : decode cX6_takeStatus 0 = .ok (.iload_n 1, 1) := by decide +kernel
theorem dX6_takeStatus_1 : decode cX6_takeStatus 1 = .ok (.aload_n 0, 1) := by decide +kernel
theorem dX6_takeStatus_2 : decode cX6_takeStatus 2 = .ok (.getfield 43, 3) := by decide +kernel
theorem dX6_takeStatus_5 : decode cX6_takeStatus 5 = .ok (.getfield 44, 3) := by decide +kernel
theorem dX6_takeStatus_8 : decode cX6_takeStatus 8 = .ok (.ixor, 1) := by decide +kernel
theorem dX6_takeStatus_9 : decode cX6_takeStatus 9 = .ok (.sipush 16384, 3) := by decide +kernel
theorem dX6_takeStatus_12 : decode cX6_takeStatus 12 = .ok (.iand, 1) := by decide +kernel
theorem dX6_takeStatus_13 : decode cX6_takeStatus 13 = .ok (.ifCond .eq 27, 3) := by decide +kernel
theorem dX6_takeStatus_16 : decode cX6_takeStatus 16 = .ok (.aload_n 0, 1) := by decide +kernel
theorem dX6_takeStatus_17 : decode cX6_takeStatus 17 = .ok (.getfield 7, 3) := by decide +kernel
theorem dX6_takeStatus_20 : decode cX6_takeStatus 20 = .ok (.bipush 6, 2) := by decide +kernel
theorem dX6_takeStatus_22 : decode cX6_takeStatus 22 = .ok (.iaload, 1) := by decide +kernel
theorem dX6_takeStatus_23 : decode cX6_takeStatus 23 = .ok (.istore_n 2, 1) := by decide +kernel
theorem dX6_takeStatus_24 : decode cX6_takeStatus 24 = .ok (.aload_n 0, 1) := by decide +kernel
theorem dX6_takeStatus_25 : decode cX6_takeStatus 25 = .ok (.getfield 7, 3) := by decide +kernel
theorem dX6_takeStatus_28 : decode cX6_takeStatus 28 = .ok (.bipush 6, 2) := by decide +kernel
theorem dX6_takeStatus_30 : decode cX6_takeStatus 30 = .ok (.aload_n 0, 1) := by decide +kernel
theorem dX6_takeStatus_31 : decode cX6_takeStatus 31 = .ok (.getfield 13, 3) := by decide +kernel
theorem dX6_takeStatus_34 : decode cX6_takeStatus 34 = .ok (.iastore, 1) := by decide +kernel
theorem dX6_takeStatus_35 : decode cX6_takeStatus 35 = .ok (.aload_n 0, 1) := by decide +kernel
theorem dX6_takeStatus_36 : decode cX6_takeStatus 36 = .ok (.iload_n 2, 1) := by decide +kernel
theorem dX6_takeStatus_37 : decode cX6_takeStatus 37 = .ok (.putfield 13, 3) := by decide +kernel
theorem dX6_takeStatus_40 : decode cX6_takeStatus 40 = .ok (.aload_n 0, 1) := by decide +kernel
theorem dX6_takeStatus_41 : decode cX6_takeStatus 41 = .ok (.getfield 43, 3) := by decide +kernel
theorem dX6_takeStatus_44 : decode cX6_takeStatus 44 = .ok (.iload_n 1, 1) := by decide +kernel
theorem dX6_takeStatus_45 : decode cX6_takeStatus 45 = .ok (.putfield 44, 3) := by decide +kernel
theorem dX6_takeStatus_48 : decode cX6_takeStatus 48 = .ok (.return_, 1) := by decide +kernel
theorem dX7_init_0 : decode cX7_init 0 = .ok (.aload_n 0, 1) := by decide +kernel
theorem dX7_init_1 : decode cX7_init 1 = .ok (.invokespecial 1, 3) := by decide +kernel
theorem dX7_init_4 : decode cX7_init 4 = .ok (.aload_n 0, 1) := by decide +kernel
theorem dX7_init_5 : decode cX7_init 5 = .ok (.iconst 0, 1) := by decide +kernel
theorem dX7_init_6 : decode cX7_init 6 = .ok (.putfield 7, 3) := by decide +kernel
theorem dX7_init_9 : decode cX7_init 9 = .ok (.aload_n 0, 1) := by decide +kernel
theorem dX7_init_10 : decode cX7_init 10 = .ok (.iconst (-1), 1) := by decide +kernel
theorem dX7_init_11 : decode cX7_init 11 = .ok (.putfield 13, 3) := by decide +kernel
theorem dX7_init_14 : decode cX7_init 14 = .ok (.return_, 1) := by decide +kernel
set_option maxRecDepth 20000 in
theorem ggX8_init_X0_init : GoodIn wsX8_init wsX0_init := goodIn_r _ [13, 14, 2, 3, 15, 16, 17, 18, 19, 20, 21, 22, 23, 24, 25, 26, 27, 28, 29, 30, 31, 32, 33, 34, 35, 36, 37, 38, 39, 40, 41, 42, 43, 44, 45, 46, 47, 48, 49, 50, 51, 52, 53, 54, 55, 56, 57, 58, 59, 60, 61, 62, 63, 64, 65, 66, 67, 68, 69, 70, 71, 72, 73, 74, 75, 76, 77, 78, 79, 94, 95, 96, 97, 98, 99, 111, 112, 113, 114, 115, 116, 117, 118, 119, 120, 121, 122, 123, 124, 125, 126, 127, 128, 129, 130, 131, 132, 133, 134, 135] (by decide +kernel) (by decide +kernel)
set_option maxRecDepth 20000 in
theorem gX8_init_X0_init_n9 : GoodIn wsX8_init (wsX0_init) := ggX8_init_X0_init
set_option maxRecDepth 20000 in
theorem ggX8_init_X6_init : GoodIn wsX8_init wsX6_init := goodIn_r _ [82, 83, 2, 3, 15, 84, 85, 86, 87, 88, 89, 90, 91, 92, 93, 102, 103, 104, 105, 106, 107, 108, 109, 110, 94, 95, 96, 97, 98, 99] (by decide +kernel) (by decide +kernel)
set_option maxRecDepth 20000 in
theorem gX8_init_X6_init : GoodIn wsX8_init (wsX6_init) := ggX8_init_X6_init
theorem dX8_init_0 : decode cX8_init 0 = .ok (.aload_n 0, 1) := by decide +kernel
theorem dX8_init_1 : decode cX8_init 1 = .ok (.invokespecial 1, 3) := by decide +kernel
theorem dX8_init_4 : decode cX8_init 4 = .ok (.aload_n 0, 1) := by decide +kernel
theorem dX8_init_5 : decode cX8_init 5 = .ok (.new 7, 3) := by decide +kernel
theorem dX8_init_8 : decode cX8_init 8 = .ok (.dup, 1) := by decide +kernel
theorem dX8_init_9 : decode cX8_init 9 = .ok (.invokespecial 9, 3) := by decide +kernel
theorem dX8_init_12 : decode cX8_init 12 = .ok (.putfield 10, 3) := by decide +kernel
theorem dX8_init_15 : decode cX8_init 15 = .ok (.aload_n 0, 1) := by decide +kernel
theorem dX8_init_16 : decode cX8_init 16 = .ok (.new 16, 3) := by decide +kernel
theorem dX8_init_19 : decode cX8_init 19 = .ok (.dup, 1) := by decide +kernel
theorem dX8_init_20 : decode cX8_init 20 = .ok (.aload_n 0, 1) := by decide +kernel
theorem dX8_init_21 : decode cX8_init 21 = .ok (.getfield 10, 3) := by decide +kernel
theorem dX8_init_24 : decode cX8_init 24 = .ok (.invokespecial 18, 3) := by decide +kernel
theorem dX8_init_27 : decode cX8_init 27 = .ok (.putfield 21, 3) := by decide +kernel
theorem dX8_init_30 : decode cX8_init 30 = .ok (.return_, 1) := by decide +kernel
set_option maxRecDepth 20000 in
theorem ggX8_deposit_X8_isMemory : GoodIn wsX8_deposit wsX8_isMemory := goodIn_r _ [8] (by decide +kernel) (by decide +kernel)
set_option maxRecDepth 20000 in
theorem gX8_deposit_X8_isMemory : GoodIn wsX8_deposit (va_wsS RX8 25 yX8_isMemory wsX8_isMemory) := goodIn_app (goodIn_of _ (by decide +kernel)) ggX8_deposit_X8_isMemory
set_option maxRecDepth 20000 in
theorem ggX8_deposit_X8_isWord : GoodIn wsX8_deposit wsX8_isWord := goodIn_r _ [11, 12] (by decide +kernel) (by decide +kernel)
set_option maxRecDepth 20000 in
theorem gX8_deposit_X8_isWord : GoodIn wsX8_deposit (va_wsS RX8 29 yX8_isWord wsX8_isWord) := goodIn_app (goodIn_of _ (by decide +kernel)) ggX8_deposit_X8_isWord
theorem dX8_deposit_0 : decode cX8_deposit 0 = .ok (.iload_n 1, 1) := by decide +kernel
theorem dX8_deposit_1 : decode cX8_deposit 1 = .ok (.invokestatic 25, 3) := by decide +kernel
theorem dX8_deposit_4 : decode cX8_deposit 4 = .ok (.ifCond .eq 10, 3) := by decide +kernel
theorem dX8_deposit_7 : decode cX8_deposit 7 = .ok (.iload_n 2, 1) := by decide +kernel
theorem dX8_deposit_8 : decode cX8_deposit 8 = .ok (.invokestatic 29, 3) := by decide +kernel
theorem dX8_deposit_11 : decode cX8_deposit 11 = .ok (.ifCond .ne 11, 3) := by decide +kernel
theorem dX8_deposit_14 : decode cX8_deposit 14 = .ok (.new 32, 3) := by decide +kernel
theorem dX8_deposit_17 : decode cX8_deposit 17 = .ok (.dup, 1) := by decide +kernel
theorem dX8_deposit_18 : decode cX8_deposit 18 = .ok (.invokespecial 34, 3) := by decide +kernel
theorem dX8_deposit_21 : decode cX8_deposit 21 = .ok (.athrow, 1) := by decide +kernel
theorem dX8_deposit_22 : decode cX8_deposit 22 = .ok (.aload_n 0, 1) := by decide +kernel
theorem dX8_deposit_23 : decode cX8_deposit 23 = .ok (.getfield 10, 3) := by decide +kernel
theorem dX8_deposit_26 : decode cX8_deposit 26 = .ok (.getfield 35, 3) := by decide +kernel
theorem dX8_deposit_29 : decode cX8_deposit 29 = .ok (.iload_n 1, 1) := by decide +kernel
theorem dX8_deposit_30 : decode cX8_deposit 30 = .ok (.iconst 1, 1) := by decide +kernel
theorem dX8_deposit_31 : decode cX8_deposit 31 = .ok (.ishr, 1) := by decide +kernel
theorem dX8_deposit_32 : decode cX8_deposit 32 = .ok (.iload_n 2, 1) := by decide +kernel
theorem dX8_deposit_33 : decode cX8_deposit 33 = .ok (.iastore, 1) := by decide +kernel
theorem dX8_deposit_34 : decode cX8_deposit 34 = .ok (.return_, 1) := by decide +kernel
set_option maxRecDepth 20000 in
theorem ggX8_examine_X8_isMemory : GoodIn wsX8_examine wsX8_isMemory := goodIn_r _ [8] (by decide +kernel) (by decide +kernel)
set_option maxRecDepth 20000 in
theorem gX8_examine_X8_isMemory : GoodIn wsX8_examine (va_wsS RX8 25 yX8_isMemory wsX8_isMemory) := goodIn_app (goodIn_of _ (by decide +kernel)) ggX8_examine_X8_isMemory
theorem dX8_examine_0 : decode cX8_examine 0 = .ok (.iload_n 1, 1) := by decide +kernel
theorem dX8_examine_1 : decode cX8_examine 1 = .ok (.invokestatic 25, 3) := by decide +kernel
theorem dX8_examine_4 : decode cX8_examine 4 = .ok (.ifCond .ne 11, 3) := by decide +kernel
theorem dX8_examine_7 : decode cX8_examine 7 = .ok (.new 32, 3) := by decide +kernel
theorem dX8_examine_10 : decode cX8_examine 10 = .ok (.dup, 1) := by decide +kernel
theorem dX8_examine_11 : decode cX8_examine 11 = .ok (.invokespecial 34, 3) := by decide +kernel
theorem dX8_examine_14 : decode cX8_examine 14 = .ok (.athrow, 1) := by decide +kernel
theorem dX8_examine_15 : decode cX8_examine 15 = .ok (.aload_n 0, 1) := by decide +kernel
theorem dX8_examine_16 : decode cX8_examine 16 = .ok (.getfield 10, 3) := by decide +kernel
theorem dX8_examine_19 : decode cX8_examine 19 = .ok (.getfield 35, 3) := by decide +kernel
theorem dX8_examine_22 : decode cX8_examine 22 = .ok (.iload_n 1, 1) := by decide +kernel
theorem dX8_examine_23 : decode cX8_examine 23 = .ok (.iconst 1, 1) := by decide +kernel
theorem dX8_examine_24 : decode cX8_examine 24 = .ok (.ishr, 1) := by decide +kernel
theorem dX8_examine_25 : decode cX8_examine 25 = .ok (.iaload, 1) := by decide +kernel
theorem dX8_examine_26 : decode cX8_examine 26 = .ok (.ireturn, 1) := by decide +kernel
set_option maxRecDepth 20000 in
theorem ggX8_set_X8_isWord : GoodIn wsX8_set wsX8_isWord := goodIn_r _ [9, 10] (by decide +kernel) (by decide +kernel)
set_option maxRecDepth 20000 in
theorem gX8_set_X8_isWord : GoodIn wsX8_set (va_wsS RX8 29 yX8_isWord wsX8_isWord) := goodIn_app (goodIn_of _ (by decide +kernel)) ggX8_set_X8_isWord
set_option maxRecDepth 20000 in
theorem ggX8_set_X6_mode : GoodIn wsX8_set wsX6_mode := goodIn_r _ [15, 16, 17, 20, 21, 22, 23, 24, 25, 26, 27, 28, 29, 30] (by decide +kernel) (by decide +kernel)
set_option maxRecDepth 20000 in
theorem gX8_set_X6_mode : GoodIn wsX8_set (wsV RX8 39 RX6 yX6_mode wsX6_mode) := goodIn_app (goodIn_of _ (by decide +kernel)) ggX8_set_X6_mode
theorem dX8_set_0 : decode cX8_set 0 = .ok (.iload_n 1, 1) := by decide +kernel
theorem dX8_set_1 : decode cX8_set 1 = .ok (.ifCond .lt 16, 3) := by decide +kernel
theorem dX8_set_4 : decode cX8_set 4 = .ok (.iload_n 1, 1) := by decide +kernel
theorem dX8_set_5 : decode cX8_set 5 = .ok (.bipush 7, 2) := by decide +kernel
theorem dX8_set_7 : decode cX8_set 7 = .ok (.if_icmp .gt 10, 3) := by decide +kernel
theorem dX8_set_10 : decode cX8_set 10 = .ok (.iload_n 2, 1) := by decide +kernel
theorem dX8_set_11 : decode cX8_set 11 = .ok (.invokestatic 29, 3) := by decide +kernel
theorem dX8_set_14 : decode cX8_set 14 = .ok (.ifCond .ne 11, 3) := by decide +kernel
theorem dX8_set_17 : decode cX8_set 17 = .ok (.new 32, 3) := by decide +kernel
theorem dX8_set_20 : decode cX8_set 20 = .ok (.dup, 1) := by decide +kernel
theorem dX8_set_21 : decode cX8_set 21 = .ok (.invokespecial 34, 3) := by decide +kernel
theorem dX8_set_24 : decode cX8_set 24 = .ok (.athrow, 1) := by decide +kernel
theorem dX8_set_25 : decode cX8_set 25 = .ok (.iload_n 1, 1) := by decide +kernel
theorem dX8_set_26 : decode cX8_set 26 = .ok (.bipush 6, 2) := by decide +kernel
theorem dX8_set_28 : decode cX8_set 28 = .ok (.if_icmp .ne 24, 3) := by decide +kernel
theorem dX8_set_31 : decode cX8_set 31 = .ok (.aload_n 0, 1) := by decide +kernel
theorem dX8_set_32 : decode cX8_set 32 = .ok (.getfield 21, 3) := by decide +kernel
theorem dX8_set_35 : decode cX8_set 35 = .ok (.invokevirtual 39, 3) := by decide +kernel
theorem dX8_set_38 : decode cX8_set 38 = .ok (.ifCond .eq 14, 3) := by decide +kernel
theorem dX8_set_41 : decode cX8_set 41 = .ok (.aload_n 0, 1) := by decide +kernel
theorem dX8_set_42 : decode cX8_set 42 = .ok (.getfield 21, 3) := by decide +kernel
theorem dX8_set_45 : decode cX8_set 45 = .ok (.iload_n 2, 1) := by decide +kernel
theorem dX8_set_46 : decode cX8_set 46 = .ok (.putfield 43, 3) := by decide +kernel
theorem dX8_set_49 : decode cX8_set 49 = .ok (.goto 13, 3) := by decide +kernel
theorem dX8_set_52 : decode cX8_set 52 = .ok (.aload_n 0, 1) := by decide +kernel
theorem dX8_set_53 : decode cX8_set 53 = .ok (.getfield 21, 3) := by decide +kernel
theorem dX8_set_56 : decode cX8_set 56 = .ok (.getfield 47, 3) := by decide +kernel
theorem dX8_set_59 : decode cX8_set 59 = .ok (.iload_n 1, 1) := by decide +kernel
theorem dX8_set_60 : decode cX8_set 60 = .ok (.iload_n 2, 1) := by decide +kernel
theorem dX8_set_61 : decode cX8_set 61 = .ok (.iastore, 1) := by decide +kernel
theorem dX8_set_62 : decode cX8_set 62 = .ok (.return_, 1) := by decide +kernel
theorem dX8_register_0 : decode cX8_register 0 = .ok (.iload_n 1, 1) := by decide +kernel
theorem dX8_register_1 : decode cX8_register 1 = .ok (.ifCond .lt 9, 3) := by decide +kernel
theorem dX8_register_4 : decode cX8_register 4 = .ok (.iload_n 1, 1) := by decide +kernel
theorem dX8_register_5 : decode cX8_register 5 = .ok (.bipush 9, 2) := by decide +kernel
theorem dX8_register_7 : decode cX8_register 7 = .ok (.if_icmp .le 11, 3) := by decide +kernel
theorem dX8_register_10 : decode cX8_register 10 = .ok (.new 32, 3) := by decide +kernel
theorem dX8_register_13 : decode cX8_register 13 = .ok (.dup, 1) := by decide +kernel
theorem dX8_register_14 : decode cX8_register 14 = .ok (.invokespecial 34, 3) := by decide +kernel
theorem dX8_register_17 : decode cX8_register 17 = .ok (.athrow, 1) := by decide +kernel
theorem dX8_register_18 : decode cX8_register 18 = .ok (.iload_n 1, 1) := by decide +kernel
theorem dX8_register_19 : decode cX8_register 19 = .ok (.bipush 8, 2) := by decide +kernel
theorem dX8_register_21 : decode cX8_register 21 = .ok (.if_icmp .ne 14, 3) := by decide +kernel
theorem dX8_register_24 : decode cX8_register 24 = .ok (.aload_n 0, 1) := by decide +kernel
theorem dX8_register_25 : decode cX8_register 25 = .ok (.getfield 10, 3) := by decide +kernel
theorem dX8_register_28 : decode cX8_register 28 = .ok (.getfield 50, 3) := by decide +kernel
theorem dX8_register_31 : decode cX8_register 31 = .ok (.getfield 54, 3) := by decide +kernel
theorem dX8_register_34 : decode cX8_register 34 = .ok (.ireturn, 1) := by decide +kernel
theorem dX8_register_35 : decode cX8_register 35 = .ok (.iload_n 1, 1) := by decide +kernel
theorem dX8_register_36 : decode cX8_register 36 = .ok (.bipush 9, 2) := by decide +kernel
theorem dX8_register_38 : decode cX8_register 38 = .ok (.if_icmp .ne 13, 3) := by decide +kernel
theorem dX8_register_41 : decode cX8_register 41 = .ok (.aload_n 0, 1) := by decide +kernel
theorem dX8_register_42 : decode cX8_register 42 = .ok (.getfield 21, 3) := by decide +kernel
theorem dX8_register_45 : decode cX8_register 45 = .ok (.getfield 43, 3) := by decide +kernel
theorem dX8_register_48 : decode cX8_register 48 = .ok (.goto 12, 3) := by decide +kernel
theorem dX8_register_51 : decode cX8_register 51 = .ok (.aload_n 0, 1) := by decide +kernel
theorem dX8_register_52 : decode cX8_register 52 = .ok (.getfield 21, 3) := by decide +kernel
theorem dX8_register_55 : decode cX8_register 55 = .ok (.getfield 47, 3) := by decide +kernel
theorem dX8_register_58 : decode cX8_register 58 = .ok (.iload_n 1, 1) := by decide +kernel
theorem dX8_register_59 : decode cX8_register 59 = .ok (.iaload, 1) := by decide +kernel
theorem dX8_register_60 : decode cX8_register 60 = .ok (.ireturn, 1) := by decide +kernel
set_option maxRecDepth 20000 in
theorem ggX8_start_X8_isWord : GoodIn wsX8_start wsX8_isWord := goodIn_r _ [10, 11] (by decide +kernel) (by decide +kernel)
set_option maxRecDepth 20000 in
theorem gX8_start_X8_isWord : GoodIn wsX8_start (va_wsS RX8 29 yX8_isWord wsX8_isWord) := goodIn_app (goodIn_of _ (by decide +kernel)) ggX8_start_X8_isWord
set_option maxRecDepth 20000 in
theorem ggX8_start_X6_takeStatus : GoodIn wsX8_start wsX6_takeStatus := goodIn_r _ [16, 17, 18, 19, 20, 23, 24, 25, 26, 27, 28, 29, 30, 31, 32, 33] (by decide +kernel) (by decide +kernel)
set_option maxRecDepth 20000 in
theorem gX8_start_X6_takeStatus : GoodIn wsX8_start (wsV RX8 59 RX6 yX6_takeStatus wsX6_takeStatus) := goodIn_app (goodIn_of _ (by decide +kernel)) ggX8_start_X6_takeStatus
theorem dX8_start_0 : decode cX8_start 0 = .ok (.iload_n 1, 1) := by decide +kernel
theorem dX8_start_1 : decode cX8_start 1 = .ok (.invokestatic 29, 3) := by decide +kernel
theorem dX8_start_4 : decode cX8_start 4 = .ok (.ifCond .ne 11, 3) := by decide +kernel
theorem dX8_start_7 : decode cX8_start 7 = .ok (.new 32, 3) := by decide +kernel
theorem dX8_start_10 : decode cX8_start 10 = .ok (.dup, 1) := by decide +kernel
theorem dX8_start_11 : decode cX8_start 11 = .ok (.invokespecial 34, 3) := by decide +kernel
theorem dX8_start_14 : decode cX8_start 14 = .ok (.athrow, 1) := by decide +kernel
theorem dX8_start_15 : decode cX8_start 15 = .ok (.aload_n 0, 1) := by decide +kernel
theorem dX8_start_16 : decode cX8_start 16 = .ok (.getfield 21, 3) := by decide +kernel
theorem dX8_start_19 : decode cX8_start 19 = .ok (.sipush 224, 3) := by decide +kernel
theorem dX8_start_22 : decode cX8_start 22 = .ok (.invokevirtual 59, 3) := by decide +kernel
theorem dX8_start_25 : decode cX8_start 25 = .ok (.aload_n 0, 1) := by decide +kernel
theorem dX8_start_26 : decode cX8_start 26 = .ok (.getfield 21, 3) := by decide +kernel
theorem dX8_start_29 : decode cX8_start 29 = .ok (.getfield 47, 3) := by decide +kernel
theorem dX8_start_32 : decode cX8_start 32 = .ok (.bipush 7, 2) := by decide +kernel
theorem dX8_start_34 : decode cX8_start 34 = .ok (.iload_n 1, 1) := by decide +kernel
theorem dX8_start_35 : decode cX8_start 35 = .ok (.iastore, 1) := by decide +kernel
theorem dX8_start_36 : decode cX8_start 36 = .ok (.aload_n 0, 1) := by decide +kernel
theorem dX8_start_37 : decode cX8_start 37 = .ok (.getfield 21, 3) := by decide +kernel
theorem dX8_start_40 : decode cX8_start 40 = .ok (.iconst 0, 1) := by decide +kernel
theorem dX8_start_41 : decode cX8_start 41 = .ok (.putfield 63, 3) := by decide +kernel
theorem dX8_start_44 : decode cX8_start 44 = .ok (.aload_n 0, 1) := by decide +kernel
theorem dX8_start_45 : decode cX8_start 45 = .ok (.getfield 21, 3) := by decide +kernel
theorem dX8_start_48 : decode cX8_start 48 = .ok (.iconst 0, 1) := by decide +kernel
theorem dX8_start_49 : decode cX8_start 49 = .ok (.putfield 66, 3) := by decide +kernel
theorem dX8_start_52 : decode cX8_start 52 = .ok (.return_, 1) := by decide +kernel
theorem dX8_run_0 : decode cX8_run 0 = .ok (.iload_n 1, 1) := by decide +kernel
theorem dX8_run_1 : decode cX8_run 1 = .ok (.iconst 1, 1) := by decide +kernel
theorem dX8_run_2 : decode cX8_run 2 = .ok (.if_icmp .lt 9, 3) := by decide +kernel
theorem dX8_run_5 : decode cX8_run 5 = .ok (.iload_n 1, 1) := by decide +kernel
theorem dX8_run_6 : decode cX8_run 6 = .ok (.bipush 40, 2) := by decide +kernel
theorem dX8_run_8 : decode cX8_run 8 = .ok (.if_icmp .le 11, 3) := by decide +kernel
theorem dX8_run_11 : decode cX8_run 11 = .ok (.new 32, 3) := by decide +kernel
theorem dX8_run_14 : decode cX8_run 14 = .ok (.dup, 1) := by decide +kernel
theorem dX8_run_15 : decode cX8_run 15 = .ok (.invokespecial 34, 3) := by decide +kernel
theorem dX8_run_18 : decode cX8_run 18 = .ok (.athrow, 1) := by decide +kernel
theorem dX8_run_19 : decode cX8_run 19 = .ok (.aload_n 0, 1) := by decide +kernel
theorem dX8_run_20 : decode cX8_run 20 = .ok (.getfield 21, 3) := by decide +kernel
theorem dX8_run_23 : decode cX8_run 23 = .ok (.getfield 63, 3) := by decide +kernel
theorem dX8_run_26 : decode cX8_run 26 = .ok (.ifCond .eq 11, 3) := by decide +kernel
theorem dX8_run_29 : decode cX8_run 29 = .ok (.new 70, 3) := by decide +kernel
theorem dX8_run_32 : decode cX8_run 32 = .ok (.dup, 1) := by decide +kernel
theorem dX8_run_33 : decode cX8_run 33 = .ok (.invokespecial 72, 3) := by decide +kernel
theorem dX8_run_36 : decode cX8_run 36 = .ok (.athrow, 1) := by decide +kernel
theorem dX8_run_37 : decode cX8_run 37 = .ok (.iconst 1, 1) := by decide +kernel
theorem dX8_run_38 : decode cX8_run 38 = .ok (.istore_n 2, 1) := by decide +kernel
theorem dX8_run_39 : decode cX8_run 39 = .ok (.iload_n 2, 1) := by decide +kernel
theorem dX8_run_40 : decode cX8_run 40 = .ok (.iload_n 1, 1) := by decide +kernel
theorem dX8_run_41 : decode cX8_run 41 = .ok (.if_icmp .gt 52, 3) := by decide +kernel
theorem dX8_run_44 : decode cX8_run 44 = .ok (.aload_n 0, 1) := by decide +kernel
theorem dX8_run_45 : decode cX8_run 45 = .ok (.getfield 21, 3) := by decide +kernel
theorem dX8_run_48 : decode cX8_run 48 = .ok (.invokevirtual 73, 3) := by decide +kernel
theorem dX8_run_51 : decode cX8_run 51 = .ok (.aload_n 0, 1) := by decide +kernel
theorem dX8_run_52 : decode cX8_run 52 = .ok (.getfield 21, 3) := by decide +kernel
theorem dX8_run_55 : decode cX8_run 55 = .ok (.getfield 63, 3) := by decide +kernel
theorem dX8_run_58 : decode cX8_run 58 = .ok (.ifCond .ne 17, 3) := by decide +kernel
theorem dX8_run_61 : decode cX8_run 61 = .ok (.aload_n 0, 1) := by decide +kernel
theorem dX8_run_62 : decode cX8_run 62 = .ok (.getfield 10, 3) := by decide +kernel
theorem dX8_run_65 : decode cX8_run 65 = .ok (.invokevirtual 76, 3) := by decide +kernel
theorem dX8_run_68 : decode cX8_run 68 = .ok (.aload_n 0, 1) := by decide +kernel
theorem dX8_run_69 : decode cX8_run 69 = .ok (.getfield 21, 3) := by decide +kernel
theorem dX8_run_72 : decode cX8_run 72 = .ok (.invokevirtual 79, 3) := by decide +kernel
theorem dX8_run_75 : decode cX8_run 75 = .ok (.aload_n 0, 1) := by decide +kernel
theorem dX8_run_76 : decode cX8_run 76 = .ok (.getfield 21, 3) := by decide +kernel
theorem dX8_run_79 : decode cX8_run 79 = .ok (.getfield 63, 3) := by decide +kernel
theorem dX8_run_82 : decode cX8_run 82 = .ok (.ifCond .eq 5, 3) := by decide +kernel
theorem dX8_run_85 : decode cX8_run 85 = .ok (.iload_n 2, 1) := by decide +kernel
theorem dX8_run_86 : decode cX8_run 86 = .ok (.ireturn, 1) := by decide +kernel
theorem dX8_run_87 : decode cX8_run 87 = .ok (.iinc 2 1, 3) := by decide +kernel
theorem dX8_run_90 : decode cX8_run 90 = .ok (.goto (-51), 3) := by decide +kernel
theorem dX8_run_93 : decode cX8_run 93 = .ok (.iload_n 1, 1) := by decide +kernel
theorem dX8_run_94 : decode cX8_run 94 = .ok (.ireturn, 1) := by decide +kernel
set_option maxRecDepth 20000 in
theorem ggX8_key_X2_type : GoodIn wsX8_key wsX2_type := goodIn_r _ [9, 10, 11, 12, 13, 14, 15, 16, 17, 18, 19, 20, 29, 30, 31, 32, 33, 34, 35, 36, 37, 38, 39, 40, 41, 42, 43, 44, 45, 46, 47, 48] (by decide +kernel) (by decide +kernel)
set_option maxRecDepth 20000 in
theorem gX8_key_X2_type : GoodIn wsX8_key (wsV RX8 86 RX2 yX2_type wsX2_type) := goodIn_app (goodIn_of _ (by decide +kernel)) ggX8_key_X2_type
theorem dX8_key_0 : decode cX8_key 0 = .ok (.iload_n 1, 1) := by decide +kernel
theorem dX8_key_1 : decode cX8_key 1 = .ok (.ifCond .lt 10, 3) := by decide +kernel
theorem dX8_key_4 : decode cX8_key 4 = .ok (.iload_n 1, 1) := by decide +kernel
theorem dX8_key_5 : decode cX8_key 5 = .ok (.sipush 255, 3) := by decide +kernel
theorem dX8_key_8 : decode cX8_key 8 = .ok (.if_icmp .le 11, 3) := by decide +kernel
theorem dX8_key_11 : decode cX8_key 11 = .ok (.new 32, 3) := by decide +kernel
theorem dX8_key_14 : decode cX8_key 14 = .ok (.dup, 1) := by decide +kernel
theorem dX8_key_15 : decode cX8_key 15 = .ok (.invokespecial 34, 3) := by decide +kernel
theorem dX8_key_18 : decode cX8_key 18 = .ok (.athrow, 1) := by decide +kernel
theorem dX8_key_19 : decode cX8_key 19 = .ok (.aload_n 0, 1) := by decide +kernel
theorem dX8_key_20 : decode cX8_key 20 = .ok (.getfield 10, 3) := by decide +kernel
theorem dX8_key_23 : decode cX8_key 23 = .ok (.getfield 82, 3) := by decide +kernel
theorem dX8_key_26 : decode cX8_key 26 = .ok (.iload_n 1, 1) := by decide +kernel
theorem dX8_key_27 : decode cX8_key 27 = .ok (.invokevirtual 86, 3) := by decide +kernel
theorem dX8_key_30 : decode cX8_key 30 = .ok (.return_, 1) := by decide +kernel
theorem dX8_printed_0 : decode cX8_printed 0 = .ok (.aload_n 0, 1) := by decide +kernel
theorem dX8_printed_1 : decode cX8_printed 1 = .ok (.getfield 10, 3) := by decide +kernel
theorem dX8_printed_4 : decode cX8_printed 4 = .ok (.getfield 91, 3) := by decide +kernel
theorem dX8_printed_7 : decode cX8_printed 7 = .ok (.astore_n 2, 1) := by decide +kernel
theorem dX8_printed_8 : decode cX8_printed 8 = .ok (.iload_n 1, 1) := by decide +kernel
theorem dX8_printed_9 : decode cX8_printed 9 = .ok (.iconst (-1), 1) := by decide +kernel
theorem dX8_printed_10 : decode cX8_printed 10 = .ok (.if_icmp .lt 17, 3) := by decide +kernel
theorem dX8_printed_13 : decode cX8_printed 13 = .ok (.iload_n 1, 1) := by decide +kernel
theorem dX8_printed_14 : decode cX8_printed 14 = .ok (.bipush 32, 2) := by decide +kernel
theorem dX8_printed_16 : decode cX8_printed 16 = .ok (.if_icmp .ge 11, 3) := by decide +kernel
theorem dX8_printed_19 : decode cX8_printed 19 = .ok (.iload_n 1, 1) := by decide +kernel
theorem dX8_printed_20 : decode cX8_printed 20 = .ok (.aload_n 2, 1) := by decide +kernel
theorem dX8_printed_21 : decode cX8_printed 21 = .ok (.getfield 97, 3) := by decide +kernel
theorem dX8_printed_24 : decode cX8_printed 24 = .ok (.if_icmp .lt 11, 3) := by decide +kernel
theorem dX8_printed_27 : decode cX8_printed 27 = .ok (.new 100, 3) := by decide +kernel
theorem dX8_printed_30 : decode cX8_printed 30 = .ok (.dup, 1) := by decide +kernel
theorem dX8_printed_31 : decode cX8_printed 31 = .ok (.invokespecial 102, 3) := by decide +kernel
theorem dX8_printed_34 : decode cX8_printed 34 = .ok (.athrow, 1) := by decide +kernel
theorem dX8_printed_35 : decode cX8_printed 35 = .ok (.iload_n 1, 1) := by decide +kernel
theorem dX8_printed_36 : decode cX8_printed 36 = .ok (.iconst (-1), 1) := by decide +kernel
theorem dX8_printed_37 : decode cX8_printed 37 = .ok (.if_icmp .ne 10, 3) := by decide +kernel
theorem dX8_printed_40 : decode cX8_printed 40 = .ok (.aload_n 2, 1) := by decide +kernel
theorem dX8_printed_41 : decode cX8_printed 41 = .ok (.getfield 97, 3) := by decide +kernel
theorem dX8_printed_44 : decode cX8_printed 44 = .ok (.goto 19, 3) := by decide +kernel
theorem dX8_printed_47 : decode cX8_printed 47 = .ok (.aload_n 2, 1) := by decide +kernel
theorem dX8_printed_48 : decode cX8_printed 48 = .ok (.getfield 103, 3) := by decide +kernel
theorem dX8_printed_51 : decode cX8_printed 51 = .ok (.aload_n 2, 1) := by decide +kernel
theorem dX8_printed_52 : decode cX8_printed 52 = .ok (.getfield 97, 3) := by decide +kernel
theorem dX8_printed_55 : decode cX8_printed 55 = .ok (.iconst 1, 1) := by decide +kernel
theorem dX8_printed_56 : decode cX8_printed 56 = .ok (.isub, 1) := by decide +kernel
theorem dX8_printed_57 : decode cX8_printed 57 = .ok (.iload_n 1, 1) := by decide +kernel
theorem dX8_printed_58 : decode cX8_printed 58 = .ok (.isub, 1) := by decide +kernel
theorem dX8_printed_59 : decode cX8_printed 59 = .ok (.bipush 32, 2) := by decide +kernel
theorem dX8_printed_61 : decode cX8_printed 61 = .ok (.irem, 1) := by decide +kernel
theorem dX8_printed_62 : decode cX8_printed 62 = .ok (.iaload, 1) := by decide +kernel
theorem dX8_printed_63 : decode cX8_printed 63 = .ok (.ireturn, 1) := by decide +kernel
set_option maxRecDepth 20000 in
theorem ggX8_load_X8_isDiskWord : GoodIn wsX8_load wsX8_isDiskWord := goodIn_r _ [9] (by decide +kernel) (by decide +kernel)
set_option maxRecDepth 20000 in
theorem gX8_load_X8_isDiskWord : GoodIn wsX8_load (va_wsS RX8 106 yX8_isDiskWord wsX8_isDiskWord) := goodIn_app (goodIn_of _ (by decide +kernel)) ggX8_load_X8_isDiskWord
set_option maxRecDepth 20000 in
theorem ggX8_load_X8_isWord : GoodIn wsX8_load wsX8_isWord := goodIn_r _ [12, 13] (by decide +kernel) (by decide +kernel)
set_option maxRecDepth 20000 in
theorem gX8_load_X8_isWord : GoodIn wsX8_load (va_wsS RX8 29 yX8_isWord wsX8_isWord) := goodIn_app (goodIn_of _ (by decide +kernel)) ggX8_load_X8_isWord
theorem dX8_load_0 : decode cX8_load 0 = .ok (.iload_n 1, 1) := by decide +kernel
theorem dX8_load_1 : decode cX8_load 1 = .ok (.iload_n 2, 1) := by decide +kernel
theorem dX8_load_2 : decode cX8_load 2 = .ok (.invokestatic 106, 3) := by decide +kernel
theorem dX8_load_5 : decode cX8_load 5 = .ok (.ifCond .eq 10, 3) := by decide +kernel
theorem dX8_load_8 : decode cX8_load 8 = .ok (.iload_n 3, 1) := by decide +kernel
theorem dX8_load_9 : decode cX8_load 9 = .ok (.invokestatic 29, 3) := by decide +kernel
theorem dX8_load_12 : decode cX8_load 12 = .ok (.ifCond .ne 11, 3) := by decide +kernel
theorem dX8_load_15 : decode cX8_load 15 = .ok (.new 32, 3) := by decide +kernel
theorem dX8_load_18 : decode cX8_load 18 = .ok (.dup, 1) := by decide +kernel
theorem dX8_load_19 : decode cX8_load 19 = .ok (.invokespecial 34, 3) := by decide +kernel
theorem dX8_load_22 : decode cX8_load 22 = .ok (.athrow, 1) := by decide +kernel
theorem dX8_load_23 : decode cX8_load 23 = .ok (.aload_n 0, 1) := by decide +kernel
theorem dX8_load_24 : decode cX8_load 24 = .ok (.getfield 10, 3) := by decide +kernel
theorem dX8_load_27 : decode cX8_load 27 = .ok (.getfield 110, 3) := by decide +kernel
theorem dX8_load_30 : decode cX8_load 30 = .ok (.getfield 114, 3) := by decide +kernel
theorem dX8_load_33 : decode cX8_load 33 = .ok (.bipush 16, 2) := by decide +kernel
theorem dX8_load_35 : decode cX8_load 35 = .ok (.iload_n 1, 1) := by decide +kernel
theorem dX8_load_36 : decode cX8_load 36 = .ok (.imul, 1) := by decide +kernel
theorem dX8_load_37 : decode cX8_load 37 = .ok (.iload_n 2, 1) := by decide +kernel
theorem dX8_load_38 : decode cX8_load 38 = .ok (.iadd, 1) := by decide +kernel
theorem dX8_load_39 : decode cX8_load 39 = .ok (.iload_n 3, 1) := by decide +kernel
theorem dX8_load_40 : decode cX8_load 40 = .ok (.iastore, 1) := by decide +kernel
theorem dX8_load_41 : decode cX8_load 41 = .ok (.return_, 1) := by decide +kernel
set_option maxRecDepth 20000 in
theorem ggX8_disk_X8_isDiskWord : GoodIn wsX8_disk wsX8_isDiskWord := goodIn_r _ [9] (by decide +kernel) (by decide +kernel)
set_option maxRecDepth 20000 in
theorem gX8_disk_X8_isDiskWord : GoodIn wsX8_disk (va_wsS RX8 106 yX8_isDiskWord wsX8_isDiskWord) := goodIn_app (goodIn_of _ (by decide +kernel)) ggX8_disk_X8_isDiskWord
theorem dX8_disk_0 : decode cX8_disk 0 = .ok (.iload_n 1, 1) := by decide +kernel
theorem dX8_disk_1 : decode cX8_disk 1 = .ok (.iload_n 2, 1) := by decide +kernel
theorem dX8_disk_2 : decode cX8_disk 2 = .ok (.invokestatic 106, 3) := by decide +kernel
theorem dX8_disk_5 : decode cX8_disk 5 = .ok (.ifCond .ne 11, 3) := by decide +kernel
theorem dX8_disk_8 : decode cX8_disk 8 = .ok (.new 32, 3) := by decide +kernel
theorem dX8_disk_11 : decode cX8_disk 11 = .ok (.dup, 1) := by decide +kernel
theorem dX8_disk_12 : decode cX8_disk 12 = .ok (.invokespecial 34, 3) := by decide +kernel
theorem dX8_disk_15 : decode cX8_disk 15 = .ok (.athrow, 1) := by decide +kernel
theorem dX8_disk_16 : decode cX8_disk 16 = .ok (.aload_n 0, 1) := by decide +kernel
theorem dX8_disk_17 : decode cX8_disk 17 = .ok (.getfield 10, 3) := by decide +kernel
theorem dX8_disk_20 : decode cX8_disk 20 = .ok (.getfield 110, 3) := by decide +kernel
theorem dX8_disk_23 : decode cX8_disk 23 = .ok (.getfield 114, 3) := by decide +kernel
theorem dX8_disk_26 : decode cX8_disk 26 = .ok (.bipush 16, 2) := by decide +kernel
theorem dX8_disk_28 : decode cX8_disk 28 = .ok (.iload_n 1, 1) := by decide +kernel
theorem dX8_disk_29 : decode cX8_disk 29 = .ok (.imul, 1) := by decide +kernel
theorem dX8_disk_30 : decode cX8_disk 30 = .ok (.iload_n 2, 1) := by decide +kernel
theorem dX8_disk_31 : decode cX8_disk 31 = .ok (.iadd, 1) := by decide +kernel
theorem dX8_disk_32 : decode cX8_disk 32 = .ok (.iaload, 1) := by decide +kernel
theorem dX8_disk_33 : decode cX8_disk 33 = .ok (.ireturn, 1) := by decide +kernel
set_option maxRecDepth 20000 in
theorem ggX8_device_X0_peek : GoodIn wsX8_device wsX0_peek := goodIn_r _ [7, 8, 9, 10, 11, 12, 13, 14, 15, 16, 17, 18, 19, 20, 21, 22, 23, 24, 25, 26, 27, 28, 29, 30, 31, 32, 35, 36, 37, 38, 39, 40, 41, 42, 43, 44, 45, 46, 47, 48, 49, 50, 51, 52, 53, 54, 55, 56, 57, 58, 59, 60, 61, 62, 63, 64, 65] (by decide +kernel) (by decide +kernel)
set_option maxRecDepth 20000 in
theorem gX8_device_X0_peek : GoodIn wsX8_device (wsV RX8 120 RX0 yX0_peek wsX0_peek) := goodIn_app (goodIn_of _ (by decide +kernel)) ggX8_device_X0_peek
theorem dX8_device_0 : decode cX8_device 0 = .ok (.iload_n 1, 1) := by decide +kernel
theorem dX8_device_1 : decode cX8_device 1 = .ok (.ldc 119, 2) := by decide +kernel
theorem dX8_device_3 : decode cX8_device 3 = .ok (.if_icmp .ge 7, 3) := by decide +kernel
theorem dX8_device_6 : decode cX8_device 6 = .ok (.iconst (-1), 1) := by decide +kernel
theorem dX8_device_7 : decode cX8_device 7 = .ok (.goto 11, 3) := by decide +kernel
theorem dX8_device_10 : decode cX8_device 10 = .ok (.aload_n 0, 1) := by decide +kernel
theorem dX8_device_11 : decode cX8_device 11 = .ok (.getfield 10, 3) := by decide +kernel
theorem dX8_device_14 : decode cX8_device 14 = .ok (.iload_n 1, 1) := by decide +kernel
theorem dX8_device_15 : decode cX8_device 15 = .ok (.invokevirtual 120, 3) := by decide +kernel
theorem dX8_device_18 : decode cX8_device 18 = .ok (.ireturn, 1) := by decide +kernel
theorem dX8_state_0 : decode cX8_state 0 = .ok (.aload_n 0, 1) := by decide +kernel
theorem dX8_state_1 : decode cX8_state 1 = .ok (.getfield 21, 3) := by decide +kernel
theorem dX8_state_4 : decode cX8_state 4 = .ok (.getfield 63, 3) := by decide +kernel
theorem dX8_state_7 : decode cX8_state 7 = .ok (.ifCond .eq 11, 3) := by decide +kernel
theorem dX8_state_10 : decode cX8_state 10 = .ok (.aload_n 0, 1) := by decide +kernel
theorem dX8_state_11 : decode cX8_state 11 = .ok (.getfield 21, 3) := by decide +kernel
theorem dX8_state_14 : decode cX8_state 14 = .ok (.getfield 63, 3) := by decide +kernel
theorem dX8_state_17 : decode cX8_state 17 = .ok (.ireturn, 1) := by decide +kernel
theorem dX8_state_18 : decode cX8_state 18 = .ok (.aload_n 0, 1) := by decide +kernel
theorem dX8_state_19 : decode cX8_state 19 = .ok (.getfield 21, 3) := by decide +kernel
theorem dX8_state_22 : decode cX8_state 22 = .ok (.getfield 66, 3) := by decide +kernel
theorem dX8_state_25 : decode cX8_state 25 = .ok (.ifCond .eq 7, 3) := by decide +kernel
theorem dX8_state_28 : decode cX8_state 28 = .ok (.iconst 1, 1) := by decide +kernel
theorem dX8_state_29 : decode cX8_state 29 = .ok (.goto 4, 3) := by decide +kernel
theorem dX8_state_32 : decode cX8_state 32 = .ok (.iconst 0, 1) := by decide +kernel
theorem dX8_state_33 : decode cX8_state 33 = .ok (.ireturn, 1) := by decide +kernel
theorem dX8_isWord_0 : decode cX8_isWord 0 = .ok (.iload_n 0, 1) := by decide +kernel
theorem dX8_isWord_1 : decode cX8_isWord 1 = .ok (.ifCond .lt 13, 3) := by decide +kernel
theorem dX8_isWord_4 : decode cX8_isWord 4 = .ok (.iload_n 0, 1) := by decide +kernel
theorem dX8_isWord_5 : decode cX8_isWord 5 = .ok (.ldc 124, 2) := by decide +kernel
theorem dX8_isWord_7 : decode cX8_isWord 7 = .ok (.if_icmp .gt 7, 3) := by decide +kernel
theorem dX8_isWord_10 : decode cX8_isWord 10 = .ok (.iconst 1, 1) := by decide +kernel
theorem dX8_isWord_11 : decode cX8_isWord 11 = .ok (.goto 4, 3) := by decide +kernel
theorem dX8_isWord_14 : decode cX8_isWord 14 = .ok (.iconst 0, 1) := by decide +kernel
theorem dX8_isWord_15 : decode cX8_isWord 15 = .ok (.ireturn, 1) := by decide +kernel
theorem dX8_isMemory_0 : decode cX8_isMemory 0 = .ok (.iload_n 0, 1) := by decide +kernel
theorem dX8_isMemory_1 : decode cX8_isMemory 1 = .ok (.ifCond .lt 20, 3) := by decide +kernel
theorem dX8_isMemory_4 : decode cX8_isMemory 4 = .ok (.iload_n 0, 1) := by decide +kernel
theorem dX8_isMemory_5 : decode cX8_isMemory 5 = .ok (.sipush 1024, 3) := by decide +kernel
theorem dX8_isMemory_8 : decode cX8_isMemory 8 = .ok (.if_icmp .ge 13, 3) := by decide +kernel
theorem dX8_isMemory_11 : decode cX8_isMemory 11 = .ok (.iload_n 0, 1) := by decide +kernel
theorem dX8_isMemory_12 : decode cX8_isMemory 12 = .ok (.iconst 1, 1) := by decide +kernel
theorem dX8_isMemory_13 : decode cX8_isMemory 13 = .ok (.iand, 1) := by decide +kernel
theorem dX8_isMemory_14 : decode cX8_isMemory 14 = .ok (.ifCond .ne 7, 3) := by decide +kernel
theorem dX8_isMemory_17 : decode cX8_isMemory 17 = .ok (.iconst 1, 1) := by decide +kernel
theorem dX8_isMemory_18 : decode cX8_isMemory 18 = .ok (.goto 4, 3) := by decide +kernel
theorem dX8_isMemory_21 : decode cX8_isMemory 21 = .ok (.iconst 0, 1) := by decide +kernel
theorem dX8_isMemory_22 : decode cX8_isMemory 22 = .ok (.ireturn, 1) := by decide +kernel
theorem dX8_isDiskWord_0 : decode cX8_isDiskWord 0 = .ok (.iload_n 0, 1) := by decide +kernel
theorem dX8_isDiskWord_1 : decode cX8_isDiskWord 1 = .ok (.ifCond .lt 23, 3) := by decide +kernel
theorem dX8_isDiskWord_4 : decode cX8_isDiskWord 4 = .ok (.iload_n 0, 1) := by decide +kernel
theorem dX8_isDiskWord_5 : decode cX8_isDiskWord 5 = .ok (.bipush 8, 2) := by decide +kernel
theorem dX8_isDiskWord_7 : decode cX8_isDiskWord 7 = .ok (.if_icmp .ge 17, 3) := by decide +kernel
theorem dX8_isDiskWord_10 : decode cX8_isDiskWord 10 = .ok (.iload_n 1, 1) := by decide +kernel
theorem dX8_isDiskWord_11 : decode cX8_isDiskWord 11 = .ok (.ifCond .lt 13, 3) := by decide +kernel
theorem dX8_isDiskWord_14 : decode cX8_isDiskWord 14 = .ok (.iload_n 1, 1) := by decide +kernel
theorem dX8_isDiskWord_15 : decode cX8_isDiskWord 15 = .ok (.bipush 16, 2) := by decide +kernel
theorem dX8_isDiskWord_17 : decode cX8_isDiskWord 17 = .ok (.if_icmp .ge 7, 3) := by decide +kernel
theorem dX8_isDiskWord_20 : decode cX8_isDiskWord 20 = .ok (.iconst 1, 1) := by decide +kernel
theorem dX8_isDiskWord_21 : decode cX8_isDiskWord 21 = .ok (.goto 4, 3) := by decide +kernel
theorem dX8_isDiskWord_24 : decode cX8_isDiskWord 24 = .ok (.iconst 0, 1) := by decide +kernel
theorem dX8_isDiskWord_25 : decode cX8_isDiskWord 25 = .ok (.ireturn, 1) := by decide +kernel
theorem dX9_init_0 : decode cX9_init 0 = .ok (.aload_n 0, 1) := by decide +kernel
theorem dX9_init_1 : decode cX9_init 1 = .ok (.invokespecial 1, 3) := by decide +kernel
theorem dX9_init_4 : decode cX9_init 4 = .ok (.aload_n 0, 1) := by decide +kernel
theorem dX9_init_5 : decode cX9_init 5 = .ok (.sipush 512, 3) := by decide +kernel
theorem dX9_init_8 : decode cX9_init 8 = .ok (.newarray .int, 2) := by decide +kernel
theorem dX9_init_10 : decode cX9_init 10 = .ok (.putfield 7, 3) := by decide +kernel
theorem dX9_init_13 : decode cX9_init 13 = .ok (.aload_n 0, 1) := by decide +kernel
theorem dX9_init_14 : decode cX9_init 14 = .ok (.bipush 16, 2) := by decide +kernel
theorem dX9_init_16 : decode cX9_init 16 = .ok (.newarray .int, 2) := by decide +kernel
theorem dX9_init_18 : decode cX9_init 18 = .ok (.putfield 13, 3) := by decide +kernel
theorem dX9_init_21 : decode cX9_init 21 = .ok (.aload_n 0, 1) := by decide +kernel
theorem dX9_init_22 : decode cX9_init 22 = .ok (.bipush 16, 2) := by decide +kernel
theorem dX9_init_24 : decode cX9_init 24 = .ok (.newarray .int, 2) := by decide +kernel
theorem dX9_init_26 : decode cX9_init 26 = .ok (.putfield 16, 3) := by decide +kernel
theorem dX9_init_29 : decode cX9_init 29 = .ok (.aload_n 0, 1) := by decide +kernel
theorem dX9_init_30 : decode cX9_init 30 = .ok (.bipush 8, 2) := by decide +kernel
theorem dX9_init_32 : decode cX9_init 32 = .ok (.newarray .int, 2) := by decide +kernel
theorem dX9_init_34 : decode cX9_init 34 = .ok (.putfield 19, 3) := by decide +kernel
theorem dX9_init_37 : decode cX9_init 37 = .ok (.aload_n 0, 1) := by decide +kernel
theorem dX9_init_38 : decode cX9_init 38 = .ok (.iconst 2, 1) := by decide +kernel
theorem dX9_init_39 : decode cX9_init 39 = .ok (.putfield 22, 3) := by decide +kernel
theorem dX9_init_42 : decode cX9_init 42 = .ok (.aload_n 0, 1) := by decide +kernel
theorem dX9_init_43 : decode cX9_init 43 = .ok (.iconst 3, 1) := by decide +kernel
theorem dX9_init_44 : decode cX9_init 44 = .ok (.newarray .boolean, 2) := by decide +kernel
theorem dX9_init_46 : decode cX9_init 46 = .ok (.putfield 26, 3) := by decide +kernel
theorem dX9_init_49 : decode cX9_init 49 = .ok (.aload_n 0, 1) := by decide +kernel
theorem dX9_init_50 : decode cX9_init 50 = .ok (.iconst 3, 1) := by decide +kernel
theorem dX9_init_51 : decode cX9_init 51 = .ok (.newarray .boolean, 2) := by decide +kernel
theorem dX9_init_53 : decode cX9_init 53 = .ok (.putfield 30, 3) := by decide +kernel
theorem dX9_init_56 : decode cX9_init 56 = .ok (.aload_n 0, 1) := by decide +kernel
theorem dX9_init_57 : decode cX9_init 57 = .ok (.iconst 3, 1) := by decide +kernel
theorem dX9_init_58 : decode cX9_init 58 = .ok (.newarray .boolean, 2) := by decide +kernel
theorem dX9_init_60 : decode cX9_init 60 = .ok (.putfield 33, 3) := by decide +kernel
theorem dX9_init_63 : decode cX9_init 63 = .ok (.aload_n 0, 1) := by decide +kernel
theorem dX9_init_64 : decode cX9_init 64 = .ok (.iconst 3, 1) := by decide +kernel
theorem dX9_init_65 : decode cX9_init 65 = .ok (.newarray .boolean, 2) := by decide +kernel
theorem dX9_init_67 : decode cX9_init 67 = .ok (.putfield 36, 3) := by decide +kernel
theorem dX9_init_70 : decode cX9_init 70 = .ok (.aload_n 0, 1) := by decide +kernel
theorem dX9_init_71 : decode cX9_init 71 = .ok (.iconst 3, 1) := by decide +kernel
theorem dX9_init_72 : decode cX9_init 72 = .ok (.newarray .int, 2) := by decide +kernel
theorem dX9_init_74 : decode cX9_init 74 = .ok (.putfield 39, 3) := by decide +kernel
theorem dX9_init_77 : decode cX9_init 77 = .ok (.aload_n 0, 1) := by decide +kernel
theorem dX9_init_78 : decode cX9_init 78 = .ok (.bipush 32, 2) := by decide +kernel
theorem dX9_init_80 : decode cX9_init 80 = .ok (.newarray .int, 2) := by decide +kernel
theorem dX9_init_82 : decode cX9_init 82 = .ok (.putfield 42, 3) := by decide +kernel
theorem dX9_init_85 : decode cX9_init 85 = .ok (.aload_n 0, 1) := by decide +kernel
theorem dX9_init_86 : decode cX9_init 86 = .ok (.sipush 128, 3) := by decide +kernel
theorem dX9_init_89 : decode cX9_init 89 = .ok (.newarray .int, 2) := by decide +kernel
theorem dX9_init_91 : decode cX9_init 91 = .ok (.putfield 45, 3) := by decide +kernel
theorem dX9_init_94 : decode cX9_init 94 = .ok (.aload_n 0, 1) := by decide +kernel
theorem dX9_init_95 : decode cX9_init 95 = .ok (.getfield 26, 3) := by decide +kernel
theorem dX9_init_98 : decode cX9_init 98 = .ok (.iconst 0, 1) := by decide +kernel
theorem dX9_init_99 : decode cX9_init 99 = .ok (.iconst 1, 1) := by decide +kernel
theorem dX9_init_100 : decode cX9_init 100 = .ok (.bastore, 1) := by decide +kernel
theorem dX9_init_101 : decode cX9_init 101 = .ok (.aload_n 0, 1) := by decide +kernel
theorem dX9_init_102 : decode cX9_init 102 = .ok (.getfield 26, 3) := by decide +kernel
theorem dX9_init_105 : decode cX9_init 105 = .ok (.iconst 2, 1) := by decide +kernel
theorem dX9_init_106 : decode cX9_init 106 = .ok (.iconst 1, 1) := by decide +kernel
theorem dX9_init_107 : decode cX9_init 107 = .ok (.bastore, 1) := by decide +kernel
theorem dX9_init_108 : decode cX9_init 108 = .ok (.return_, 1) := by decide +kernel
theorem dX9_thrown_0 : decode cX9_thrown 0 = .ok (.aload_n 0, 1) := by decide +kernel
theorem dX9_thrown_1 : decode cX9_thrown 1 = .ok (.getfield 48, 3) := by decide +kernel
theorem dX9_thrown_4 : decode cX9_thrown 4 = .ok (.ireturn, 1) := by decide +kernel
theorem dX9_out_0 : decode cX9_out 0 = .ok (.iload_n 0, 1) := by decide +kernel
theorem dX9_out_1 : decode cX9_out 1 = .ok (.ifCond .lt 8, 3) := by decide +kernel
theorem dX9_out_4 : decode cX9_out 4 = .ok (.iload_n 0, 1) := by decide +kernel
theorem dX9_out_5 : decode cX9_out 5 = .ok (.iload_n 1, 1) := by decide +kernel
theorem dX9_out_6 : decode cX9_out 6 = .ok (.if_icmp .lt 7, 3) := by decide +kernel
theorem dX9_out_9 : decode cX9_out 9 = .ok (.iconst 1, 1) := by decide +kernel
theorem dX9_out_10 : decode cX9_out 10 = .ok (.goto 4, 3) := by decide +kernel
theorem dX9_out_13 : decode cX9_out 13 = .ok (.iconst 0, 1) := by decide +kernel
theorem dX9_out_14 : decode cX9_out 14 = .ok (.ireturn, 1) := by decide +kernel
theorem dX9_fail_0 : decode cX9_fail 0 = .ok (.aload_n 0, 1) := by decide +kernel
theorem dX9_fail_1 : decode cX9_fail 1 = .ok (.iload_n 1, 1) := by decide +kernel
theorem dX9_fail_2 : decode cX9_fail 2 = .ok (.putfield 48, 3) := by decide +kernel
theorem dX9_fail_5 : decode cX9_fail 5 = .ok (.iconst 0, 1) := by decide +kernel
theorem dX9_fail_6 : decode cX9_fail 6 = .ok (.ireturn, 1) := by decide +kernel
theorem dX9_bit_0 : decode cX9_bit 0 = .ok (.iload_n 0, 1) := by decide +kernel
theorem dX9_bit_1 : decode cX9_bit 1 = .ok (.ifCond .eq 7, 3) := by decide +kernel
theorem dX9_bit_4 : decode cX9_bit 4 = .ok (.iload_n 1, 1) := by decide +kernel
theorem dX9_bit_5 : decode cX9_bit 5 = .ok (.goto 4, 3) := by decide +kernel
theorem dX9_bit_8 : decode cX9_bit 8 = .ok (.iconst 0, 1) := by decide +kernel
theorem dX9_bit_9 : decode cX9_bit 9 = .ok (.ireturn, 1) := by decide +kernel
set_option maxRecDepth 20000 in
theorem ggX9_statusOf_X9_bit : GoodIn wsX9_statusOf wsX9_bit := goodIn_r _ [9] (by decide +kernel) (by decide +kernel)
set_option maxRecDepth 20000 in
theorem gX9_statusOf_X9_bit : GoodIn wsX9_statusOf (va_wsS RX9 52 yX9_bit wsX9_bit) := goodIn_app (goodIn_of _ (by decide +kernel)) ggX9_statusOf_X9_bit
theorem dX9_statusOf_0 : decode cX9_statusOf 0 = .ok (.aload_n 0, 1) := by decide +kernel
theorem dX9_statusOf_1 : decode cX9_statusOf 1 = .ok (.getfield 26, 3) := by decide +kernel
theorem dX9_statusOf_4 : decode cX9_statusOf 4 = .ok (.iload_n 1, 1) := by decide +kernel
theorem dX9_statusOf_5 : decode cX9_statusOf 5 = .ok (.baload, 1) := by decide +kernel
theorem dX9_statusOf_6 : decode cX9_statusOf 6 = .ok (.sipush 128, 3) := by decide +kernel
theorem dX9_statusOf_9 : decode cX9_statusOf 9 = .ok (.invokestatic 52, 3) := by decide +kernel
theorem dX9_statusOf_12 : decode cX9_statusOf 12 = .ok (.aload_n 0, 1) := by decide +kernel
theorem dX9_statusOf_13 : decode cX9_statusOf 13 = .ok (.getfield 30, 3) := by decide +kernel
theorem dX9_statusOf_16 : decode cX9_statusOf 16 = .ok (.iload_n 1, 1) := by decide +kernel
theorem dX9_statusOf_17 : decode cX9_statusOf 17 = .ok (.baload, 1) := by decide +kernel
theorem dX9_statusOf_18 : decode cX9_statusOf 18 = .ok (.bipush 64, 2) := by decide +kernel
theorem dX9_statusOf_20 : decode cX9_statusOf 20 = .ok (.invokestatic 52, 3) := by decide +kernel
theorem dX9_statusOf_23 : decode cX9_statusOf 23 = .ok (.iadd, 1) := by decide +kernel
theorem dX9_statusOf_24 : decode cX9_statusOf 24 = .ok (.iload_n 1, 1) := by decide +kernel
theorem dX9_statusOf_25 : decode cX9_statusOf 25 = .ok (.ifCond .ne 24, 3) := by decide +kernel
theorem dX9_statusOf_28 : decode cX9_statusOf 28 = .ok (.aload_n 0, 1) := by decide +kernel
theorem dX9_statusOf_29 : decode cX9_statusOf 29 = .ok (.getfield 56, 3) := by decide +kernel
theorem dX9_statusOf_32 : decode cX9_statusOf 32 = .ok (.iconst 2, 1) := by decide +kernel
theorem dX9_statusOf_33 : decode cX9_statusOf 33 = .ok (.invokestatic 52, 3) := by decide +kernel
theorem dX9_statusOf_36 : decode cX9_statusOf 36 = .ok (.aload_n 0, 1) := by decide +kernel
theorem dX9_statusOf_37 : decode cX9_statusOf 37 = .ok (.getfield 60, 3) := by decide +kernel
theorem dX9_statusOf_40 : decode cX9_statusOf 40 = .ok (.ldc 63, 2) := by decide +kernel
theorem dX9_statusOf_42 : decode cX9_statusOf 42 = .ok (.invokestatic 52, 3) := by decide +kernel
theorem dX9_statusOf_45 : decode cX9_statusOf 45 = .ok (.iadd, 1) := by decide +kernel
theorem dX9_statusOf_46 : decode cX9_statusOf 46 = .ok (.goto 4, 3) := by decide +kernel
theorem dX9_statusOf_49 : decode cX9_statusOf 49 = .ok (.iconst 0, 1) := by decide +kernel
theorem dX9_statusOf_50 : decode cX9_statusOf 50 = .ok (.iadd, 1) := by decide +kernel
theorem dX9_statusOf_51 : decode cX9_statusOf 51 = .ok (.ireturn, 1) := by decide +kernel
set_option maxRecDepth 20000 in
theorem ggX9_at_X9_statusOf : GoodIn wsX9_at wsX9_statusOf := goodIn_r _ [15, 16, 17, 18, 19, 20, 21, 22, 14, 23, 24, 25, 26, 27, 28, 29, 30, 31, 32, 33, 34, 35, 36, 37, 38, 39, 40, 41, 42, 43, 44, 45, 46, 47, 48, 49, 50, 51] (by decide +kernel) (by decide +kernel)
set_option maxRecDepth 20000 in
theorem gX9_at_X9_statusOf : GoodIn wsX9_at (wsV RX9 68 RX9 yX9_statusOf wsX9_statusOf) := goodIn_app (goodIn_of _ (by decide +kernel)) ggX9_at_X9_statusOf
theorem dX9_at_0 : decode cX9_at 0 = .ok (.iload_n 1, 1) := by decide +kernel
theorem dX9_at_1 : decode cX9_at 1 = .ok (.sipush 1024, 3) := by decide +kernel
theorem dX9_at_4 : decode cX9_at 4 = .ok (.if_icmp .ge 12, 3) := by decide +kernel
theorem dX9_at_7 : decode cX9_at 7 = .ok (.aload_n 0, 1) := by decide +kernel
theorem dX9_at_8 : decode cX9_at 8 = .ok (.getfield 7, 3) := by decide +kernel
theorem dX9_at_11 : decode cX9_at 11 = .ok (.iload_n 1, 1) := by decide +kernel
theorem dX9_at_12 : decode cX9_at 12 = .ok (.iconst 2, 1) := by decide +kernel
theorem dX9_at_13 : decode cX9_at 13 = .ok (.idiv, 1) := by decide +kernel
theorem dX9_at_14 : decode cX9_at 14 = .ok (.iaload, 1) := by decide +kernel
theorem dX9_at_15 : decode cX9_at 15 = .ok (.ireturn, 1) := by decide +kernel
theorem dX9_at_16 : decode cX9_at 16 = .ok (.iload_n 1, 1) := by decide +kernel
theorem dX9_at_17 : decode cX9_at 17 = .ok (.ldc 64, 2) := by decide +kernel
theorem dX9_at_19 : decode cX9_at 19 = .ok (.isub, 1) := by decide +kernel
theorem dX9_at_20 : decode cX9_at 20 = .ok (.istore_n 2, 1) := by decide +kernel
theorem dX9_at_21 : decode cX9_at 21 = .ok (.iload_n 2, 1) := by decide +kernel
theorem dX9_at_22 : decode cX9_at 22 = .ok (.ifCond .ge 5, 3) := by decide +kernel
theorem dX9_at_25 : decode cX9_at 25 = .ok (.iconst (-1), 1) := by decide +kernel
theorem dX9_at_26 : decode cX9_at 26 = .ok (.ireturn, 1) := by decide +kernel
theorem dX9_at_27 : decode cX9_at 27 = .ok (.iload_n 2, 1) := by decide +kernel
theorem dX9_at_28 : decode cX9_at 28 = .ok (.bipush 32, 2) := by decide +kernel
theorem dX9_at_30 : decode cX9_at 30 = .ok (.if_icmp .ge 12, 3) := by decide +kernel
theorem dX9_at_33 : decode cX9_at 33 = .ok (.aload_n 0, 1) := by decide +kernel
theorem dX9_at_34 : decode cX9_at 34 = .ok (.getfield 13, 3) := by decide +kernel
theorem dX9_at_37 : decode cX9_at 37 = .ok (.iload_n 2, 1) := by decide +kernel
theorem dX9_at_38 : decode cX9_at 38 = .ok (.iconst 2, 1) := by decide +kernel
theorem dX9_at_39 : decode cX9_at 39 = .ok (.idiv, 1) := by decide +kernel
theorem dX9_at_40 : decode cX9_at 40 = .ok (.iaload, 1) := by decide +kernel
theorem dX9_at_41 : decode cX9_at 41 = .ok (.ireturn, 1) := by decide +kernel
theorem dX9_at_42 : decode cX9_at 42 = .ok (.iload_n 2, 1) := by decide +kernel
theorem dX9_at_43 : decode cX9_at 43 = .ok (.bipush 64, 2) := by decide +kernel
theorem dX9_at_45 : decode cX9_at 45 = .ok (.if_icmp .ge 15, 3) := by decide +kernel
theorem dX9_at_48 : decode cX9_at 48 = .ok (.aload_n 0, 1) := by decide +kernel
theorem dX9_at_49 : decode cX9_at 49 = .ok (.getfield 16, 3) := by decide +kernel
theorem dX9_at_52 : decode cX9_at 52 = .ok (.iload_n 2, 1) := by decide +kernel
theorem dX9_at_53 : decode cX9_at 53 = .ok (.iconst 2, 1) := by decide +kernel
theorem dX9_at_54 : decode cX9_at 54 = .ok (.idiv, 1) := by decide +kernel
theorem dX9_at_55 : decode cX9_at 55 = .ok (.bipush 16, 2) := by decide +kernel
theorem dX9_at_57 : decode cX9_at 57 = .ok (.isub, 1) := by decide +kernel
theorem dX9_at_58 : decode cX9_at 58 = .ok (.iaload, 1) := by decide +kernel
theorem dX9_at_59 : decode cX9_at 59 = .ok (.ireturn, 1) := by decide +kernel
theorem dX9_at_60 : decode cX9_at 60 = .ok (.iload_n 2, 1) := by decide +kernel
theorem dX9_at_61 : decode cX9_at 61 = .ok (.bipush 64, 2) := by decide +kernel
theorem dX9_at_63 : decode cX9_at 63 = .ok (.if_icmp .ne 8, 3) := by decide +kernel
theorem dX9_at_66 : decode cX9_at 66 = .ok (.aload_n 0, 1) := by decide +kernel
theorem dX9_at_67 : decode cX9_at 67 = .ok (.getfield 65, 3) := by decide +kernel
theorem dX9_at_70 : decode cX9_at 70 = .ok (.ireturn, 1) := by decide +kernel
theorem dX9_at_71 : decode cX9_at 71 = .ok (.iload_n 2, 1) := by decide +kernel
theorem dX9_at_72 : decode cX9_at 72 = .ok (.bipush 80, 2) := by decide +kernel
theorem dX9_at_74 : decode cX9_at 74 = .ok (.if_icmp .ne 9, 3) := by decide +kernel
theorem dX9_at_77 : decode cX9_at 77 = .ok (.aload_n 0, 1) := by decide +kernel
theorem dX9_at_78 : decode cX9_at 78 = .ok (.iconst 1, 1) := by decide +kernel
theorem dX9_at_79 : decode cX9_at 79 = .ok (.invokevirtual 68, 3) := by decide +kernel
theorem dX9_at_82 : decode cX9_at 82 = .ok (.ireturn, 1) := by decide +kernel
theorem dX9_at_83 : decode cX9_at 83 = .ok (.iload_n 2, 1) := by decide +kernel
theorem dX9_at_84 : decode cX9_at 84 = .ok (.bipush 82, 2) := by decide +kernel
theorem dX9_at_86 : decode cX9_at 86 = .ok (.if_icmp .ne 8, 3) := by decide +kernel
theorem dX9_at_89 : decode cX9_at 89 = .ok (.aload_n 0, 1) := by decide +kernel
theorem dX9_at_90 : decode cX9_at 90 = .ok (.getfield 72, 3) := by decide +kernel
theorem dX9_at_93 : decode cX9_at 93 = .ok (.ireturn, 1) := by decide +kernel
theorem dX9_at_94 : decode cX9_at 94 = .ok (.iload_n 2, 1) := by decide +kernel
theorem dX9_at_95 : decode cX9_at 95 = .ok (.bipush 84, 2) := by decide +kernel
theorem dX9_at_97 : decode cX9_at 97 = .ok (.if_icmp .ne 9, 3) := by decide +kernel
theorem dX9_at_100 : decode cX9_at 100 = .ok (.aload_n 0, 1) := by decide +kernel
theorem dX9_at_101 : decode cX9_at 101 = .ok (.iconst 2, 1) := by decide +kernel
theorem dX9_at_102 : decode cX9_at 102 = .ok (.invokevirtual 68, 3) := by decide +kernel
theorem dX9_at_105 : decode cX9_at 105 = .ok (.ireturn, 1) := by decide +kernel
theorem dX9_at_106 : decode cX9_at 106 = .ok (.iload_n 2, 1) := by decide +kernel
theorem dX9_at_107 : decode cX9_at 107 = .ok (.bipush 86, 2) := by decide +kernel
theorem dX9_at_109 : decode cX9_at 109 = .ok (.if_icmp .ne 5, 3) := by decide +kernel
theorem dX9_at_112 : decode cX9_at 112 = .ok (.iconst 0, 1) := by decide +kernel
theorem dX9_at_113 : decode cX9_at 113 = .ok (.ireturn, 1) := by decide +kernel
theorem dX9_at_114 : decode cX9_at 114 = .ok (.iload_n 2, 1) := by decide +kernel
theorem dX9_at_115 : decode cX9_at 115 = .ok (.bipush 96, 2) := by decide +kernel
theorem dX9_at_117 : decode cX9_at 117 = .ok (.if_icmp .ne 9, 3) := by decide +kernel
theorem dX9_at_120 : decode cX9_at 120 = .ok (.aload_n 0, 1) := by decide +kernel
theorem dX9_at_121 : decode cX9_at 121 = .ok (.iconst 0, 1) := by decide +kernel
theorem dX9_at_122 : decode cX9_at 122 = .ok (.invokevirtual 68, 3) := by decide +kernel
theorem dX9_at_125 : decode cX9_at 125 = .ok (.ireturn, 1) := by decide +kernel
theorem dX9_at_126 : decode cX9_at 126 = .ok (.iload_n 2, 1) := by decide +kernel
theorem dX9_at_127 : decode cX9_at 127 = .ok (.bipush 98, 2) := by decide +kernel
theorem dX9_at_129 : decode cX9_at 129 = .ok (.if_icmp .ne 8, 3) := by decide +kernel
theorem dX9_at_132 : decode cX9_at 132 = .ok (.aload_n 0, 1) := by decide +kernel
theorem dX9_at_133 : decode cX9_at 133 = .ok (.getfield 75, 3) := by decide +kernel
theorem dX9_at_136 : decode cX9_at 136 = .ok (.ireturn, 1) := by decide +kernel
theorem dX9_at_137 : decode cX9_at 137 = .ok (.iload_n 2, 1) := by decide +kernel
theorem dX9_at_138 : decode cX9_at 138 = .ok (.bipush 100, 2) := by decide +kernel
theorem dX9_at_140 : decode cX9_at 140 = .ok (.if_icmp .ne 8, 3) := by decide +kernel
theorem dX9_at_143 : decode cX9_at 143 = .ok (.aload_n 0, 1) := by decide +kernel
theorem dX9_at_144 : decode cX9_at 144 = .ok (.getfield 78, 3) := by decide +kernel
theorem dX9_at_147 : decode cX9_at 147 = .ok (.ireturn, 1) := by decide +kernel
theorem dX9_at_148 : decode cX9_at 148 = .ok (.iload_n 2, 1) := by decide +kernel
theorem dX9_at_149 : decode cX9_at 149 = .ok (.bipush 102, 2) := by decide +kernel
theorem dX9_at_151 : decode cX9_at 151 = .ok (.if_icmp .ne 8, 3) := by decide +kernel
theorem dX9_at_154 : decode cX9_at 154 = .ok (.aload_n 0, 1) := by decide +kernel
theorem dX9_at_155 : decode cX9_at 155 = .ok (.getfield 81, 3) := by decide +kernel
theorem dX9_at_158 : decode cX9_at 158 = .ok (.ireturn, 1) := by decide +kernel
theorem dX9_at_159 : decode cX9_at 159 = .ok (.iload_n 2, 1) := by decide +kernel
theorem dX9_at_160 : decode cX9_at 160 = .ok (.bipush 126, 2) := by decide +kernel
theorem dX9_at_162 : decode cX9_at 162 = .ok (.if_icmp .ne 10, 3) := by decide +kernel
theorem dX9_at_165 : decode cX9_at 165 = .ok (.aload_n 0, 1) := by decide +kernel
theorem dX9_at_166 : decode cX9_at 166 = .ok (.getfield 84, 3) := by decide +kernel
theorem dX9_at_169 : decode cX9_at 169 = .ok (.goto 4, 3) := by decide +kernel
theorem dX9_at_172 : decode cX9_at 172 = .ok (.iconst (-1), 1) := by decide +kernel
theorem dX9_at_173 : decode cX9_at 173 = .ok (.ireturn, 1) := by decide +kernel
theorem dX9_settle_0 : decode cX9_settle 0 = .ok (.aload_n 0, 1) := by decide +kernel
theorem dX9_settle_1 : decode cX9_settle 1 = .ok (.getfield 84, 3) := by decide +kernel
theorem dX9_settle_4 : decode cX9_settle 4 = .ok (.sipush 16384, 3) := by decide +kernel
theorem dX9_settle_7 : decode cX9_settle 7 = .ok (.idiv, 1) := by decide +kernel
theorem dX9_settle_8 : decode cX9_settle 8 = .ok (.iconst 2, 1) := by decide +kernel
theorem dX9_settle_9 : decode cX9_settle 9 = .ok (.irem, 1) := by decide +kernel
theorem dX9_settle_10 : decode cX9_settle 10 = .ok (.istore_n 1, 1) := by decide +kernel
theorem dX9_settle_11 : decode cX9_settle 11 = .ok (.iload_n 1, 1) := by decide +kernel
theorem dX9_settle_12 : decode cX9_settle 12 = .ok (.aload_n 0, 1) := by decide +kernel
theorem dX9_settle_13 : decode cX9_settle 13 = .ok (.getfield 116, 3) := by decide +kernel
theorem dX9_settle_16 : decode cX9_settle 16 = .ok (.if_icmp .ne 4, 3) := by decide +kernel
theorem dX9_settle_19 : decode cX9_settle 19 = .ok (.return_, 1) := by decide +kernel
theorem dX9_settle_20 : decode cX9_settle 20 = .ok (.aload_n 0, 1) := by decide +kernel
theorem dX9_settle_21 : decode cX9_settle 21 = .ok (.getfield 19, 3) := by decide +kernel
theorem dX9_settle_24 : decode cX9_settle 24 = .ok (.bipush 6, 2) := by decide +kernel
theorem dX9_settle_26 : decode cX9_settle 26 = .ok (.iaload, 1) := by decide +kernel
theorem dX9_settle_27 : decode cX9_settle 27 = .ok (.istore_n 2, 1) := by decide +kernel
theorem dX9_settle_28 : decode cX9_settle 28 = .ok (.aload_n 0, 1) := by decide +kernel
theorem dX9_settle_29 : decode cX9_settle 29 = .ok (.getfield 19, 3) := by decide +kernel
theorem dX9_settle_32 : decode cX9_settle 32 = .ok (.bipush 6, 2) := by decide +kernel
theorem dX9_settle_34 : decode cX9_settle 34 = .ok (.aload_n 0, 1) := by decide +kernel
theorem dX9_settle_35 : decode cX9_settle 35 = .ok (.getfield 119, 3) := by decide +kernel
theorem dX9_settle_38 : decode cX9_settle 38 = .ok (.iastore, 1) := by decide +kernel
theorem dX9_settle_39 : decode cX9_settle 39 = .ok (.aload_n 0, 1) := by decide +kernel
theorem dX9_settle_40 : decode cX9_settle 40 = .ok (.iload_n 2, 1) := by decide +kernel
theorem dX9_settle_41 : decode cX9_settle 41 = .ok (.putfield 119, 3) := by decide +kernel
theorem dX9_settle_44 : decode cX9_settle 44 = .ok (.aload_n 0, 1) := by decide +kernel
theorem dX9_settle_45 : decode cX9_settle 45 = .ok (.iload_n 1, 1) := by decide +kernel
theorem dX9_settle_46 : decode cX9_settle 46 = .ok (.putfield 116, 3) := by decide +kernel
theorem dX9_settle_49 : decode cX9_settle 49 = .ok (.return_, 1) := by decide +kernel
theorem dX9_isWord_0 : decode cX9_isWord 0 = .ok (.iload_n 0, 1) := by decide +kernel
theorem dX9_isWord_1 : decode cX9_isWord 1 = .ok (.ifCond .lt 13, 3) := by decide +kernel
theorem dX9_isWord_4 : decode cX9_isWord 4 = .ok (.iload_n 0, 1) := by decide +kernel
theorem dX9_isWord_5 : decode cX9_isWord 5 = .ok (.ldc 51, 2) := by decide +kernel
theorem dX9_isWord_7 : decode cX9_isWord 7 = .ok (.if_icmp .ge 7, 3) := by decide +kernel
theorem dX9_isWord_10 : decode cX9_isWord 10 = .ok (.iconst 1, 1) := by decide +kernel
theorem dX9_isWord_11 : decode cX9_isWord 11 = .ok (.goto 4, 3) := by decide +kernel
theorem dX9_isWord_14 : decode cX9_isWord 14 = .ok (.iconst 0, 1) := by decide +kernel
theorem dX9_isWord_15 : decode cX9_isWord 15 = .ok (.ireturn, 1) := by decide +kernel
theorem dX9_cell_0 : decode cX9_cell 0 = .ok (.iload_n 0, 1) := by decide +kernel
theorem dX9_cell_1 : decode cX9_cell 1 = .ok (.ifCond .lt 20, 3) := by decide +kernel
theorem dX9_cell_4 : decode cX9_cell 4 = .ok (.iload_n 0, 1) := by decide +kernel
theorem dX9_cell_5 : decode cX9_cell 5 = .ok (.sipush 1024, 3) := by decide +kernel
theorem dX9_cell_8 : decode cX9_cell 8 = .ok (.if_icmp .ge 13, 3) := by decide +kernel
theorem dX9_cell_11 : decode cX9_cell 11 = .ok (.iload_n 0, 1) := by decide +kernel
theorem dX9_cell_12 : decode cX9_cell 12 = .ok (.iconst 2, 1) := by decide +kernel
theorem dX9_cell_13 : decode cX9_cell 13 = .ok (.irem, 1) := by decide +kernel
theorem dX9_cell_14 : decode cX9_cell 14 = .ok (.ifCond .ne 7, 3) := by decide +kernel
theorem dX9_cell_17 : decode cX9_cell 17 = .ok (.iconst 1, 1) := by decide +kernel
theorem dX9_cell_18 : decode cX9_cell 18 = .ok (.goto 4, 3) := by decide +kernel
theorem dX9_cell_21 : decode cX9_cell 21 = .ok (.iconst 0, 1) := by decide +kernel
theorem dX9_cell_22 : decode cX9_cell 22 = .ok (.ireturn, 1) := by decide +kernel
set_option maxRecDepth 20000 in
theorem ggX9_deposit_X9_cell : GoodIn wsX9_deposit wsX9_cell := goodIn_r _ [6] (by decide +kernel) (by decide +kernel)
set_option maxRecDepth 20000 in
theorem gX9_deposit_X9_cell : GoodIn wsX9_deposit (va_wsS RX9 257 yX9_cell wsX9_cell) := goodIn_app (goodIn_of _ (by decide +kernel)) ggX9_deposit_X9_cell
set_option maxRecDepth 20000 in
theorem ggX9_deposit_X9_isWord : GoodIn wsX9_deposit wsX9_isWord := goodIn_r _ [9, 10] (by decide +kernel) (by decide +kernel)
set_option maxRecDepth 20000 in
theorem gX9_deposit_X9_isWord : GoodIn wsX9_deposit (va_wsS RX9 260 yX9_isWord wsX9_isWord) := goodIn_app (goodIn_of _ (by decide +kernel)) ggX9_deposit_X9_isWord
theorem dX9_deposit_0 : decode cX9_deposit 0 = .ok (.aload_n 0, 1) := by decide +kernel
theorem dX9_deposit_1 : decode cX9_deposit 1 = .ok (.iload_n 1, 1) := by decide +kernel
theorem dX9_deposit_2 : decode cX9_deposit 2 = .ok (.invokestatic 257, 3) := by decide +kernel
theorem dX9_deposit_5 : decode cX9_deposit 5 = .ok (.ifCond .eq 14, 3) := by decide +kernel
theorem dX9_deposit_8 : decode cX9_deposit 8 = .ok (.iload_n 2, 1) := by decide +kernel
theorem dX9_deposit_9 : decode cX9_deposit 9 = .ok (.invokestatic 260, 3) := by decide +kernel
theorem dX9_deposit_12 : decode cX9_deposit 12 = .ok (.ifCond .eq 7, 3) := by decide +kernel
theorem dX9_deposit_15 : decode cX9_deposit 15 = .ok (.iconst 0, 1) := by decide +kernel
theorem dX9_deposit_16 : decode cX9_deposit 16 = .ok (.goto 4, 3) := by decide +kernel
theorem dX9_deposit_19 : decode cX9_deposit 19 = .ok (.iconst 1, 1) := by decide +kernel
theorem dX9_deposit_20 : decode cX9_deposit 20 = .ok (.putfield 48, 3) := by decide +kernel
theorem dX9_deposit_23 : decode cX9_deposit 23 = .ok (.aload_n 0, 1) := by decide +kernel
theorem dX9_deposit_24 : decode cX9_deposit 24 = .ok (.getfield 48, 3) := by decide +kernel
theorem dX9_deposit_27 : decode cX9_deposit 27 = .ok (.ifCond .ne 12, 3) := by decide +kernel
theorem dX9_deposit_30 : decode cX9_deposit 30 = .ok (.aload_n 0, 1) := by decide +kernel
theorem dX9_deposit_31 : decode cX9_deposit 31 = .ok (.getfield 7, 3) := by decide +kernel
theorem dX9_deposit_34 : decode cX9_deposit 34 = .ok (.iload_n 1, 1) := by decide +kernel
theorem dX9_deposit_35 : decode cX9_deposit 35 = .ok (.iconst 2, 1) := by decide +kernel
theorem dX9_deposit_36 : decode cX9_deposit 36 = .ok (.idiv, 1) := by decide +kernel
theorem dX9_deposit_37 : decode cX9_deposit 37 = .ok (.iload_n 2, 1) := by decide +kernel
theorem dX9_deposit_38 : decode cX9_deposit 38 = .ok (.iastore, 1) := by decide +kernel
theorem dX9_deposit_39 : decode cX9_deposit 39 = .ok (.return_, 1) := by decide +kernel
set_option maxRecDepth 20000 in
theorem ggX9_examine_X9_cell : GoodIn wsX9_examine wsX9_cell := goodIn_r _ [6] (by decide +kernel) (by decide +kernel)
set_option maxRecDepth 20000 in
theorem gX9_examine_X9_cell : GoodIn wsX9_examine (va_wsS RX9 257 yX9_cell wsX9_cell) := goodIn_app (goodIn_of _ (by decide +kernel)) ggX9_examine_X9_cell
set_option maxRecDepth 20000 in
theorem ggX9_examine_X9_fail : GoodIn wsX9_examine wsX9_fail := goodIn_r _ [10, 1, 11, 12, 13, 14, 15, 16, 17, 18, 19, 20, 21, 22, 23, 24, 25, 26, 27, 28, 29, 30, 31, 32, 33, 34, 35, 36, 37, 38] (by decide +kernel) (by decide +kernel)
set_option maxRecDepth 20000 in
theorem gX9_examine_X9_fail : GoodIn wsX9_examine (wsV RX9 263 RX9 yX9_fail wsX9_fail) := goodIn_app (goodIn_of _ (by decide +kernel)) ggX9_examine_X9_fail
theorem dX9_examine_0 : decode cX9_examine 0 = .ok (.aload_n 0, 1) := by decide +kernel
theorem dX9_examine_1 : decode cX9_examine 1 = .ok (.iconst 0, 1) := by decide +kernel
theorem dX9_examine_2 : decode cX9_examine 2 = .ok (.putfield 48, 3) := by decide +kernel
theorem dX9_examine_5 : decode cX9_examine 5 = .ok (.iload_n 1, 1) := by decide +kernel
theorem dX9_examine_6 : decode cX9_examine 6 = .ok (.invokestatic 257, 3) := by decide +kernel
theorem dX9_examine_9 : decode cX9_examine 9 = .ok (.ifCond .eq 14, 3) := by decide +kernel
theorem dX9_examine_12 : decode cX9_examine 12 = .ok (.aload_n 0, 1) := by decide +kernel
theorem dX9_examine_13 : decode cX9_examine 13 = .ok (.getfield 7, 3) := by decide +kernel
theorem dX9_examine_16 : decode cX9_examine 16 = .ok (.iload_n 1, 1) := by decide +kernel
theorem dX9_examine_17 : decode cX9_examine 17 = .ok (.iconst 2, 1) := by decide +kernel
theorem dX9_examine_18 : decode cX9_examine 18 = .ok (.idiv, 1) := by decide +kernel
theorem dX9_examine_19 : decode cX9_examine 19 = .ok (.iaload, 1) := by decide +kernel
theorem dX9_examine_20 : decode cX9_examine 20 = .ok (.goto 8, 3) := by decide +kernel
theorem dX9_examine_23 : decode cX9_examine 23 = .ok (.aload_n 0, 1) := by decide +kernel
theorem dX9_examine_24 : decode cX9_examine 24 = .ok (.iconst 1, 1) := by decide +kernel
theorem dX9_examine_25 : decode cX9_examine 25 = .ok (.invokevirtual 263, 3) := by decide +kernel
theorem dX9_examine_28 : decode cX9_examine 28 = .ok (.ireturn, 1) := by decide +kernel
set_option maxRecDepth 20000 in
theorem ggX9_set_X9_out : GoodIn wsX9_set wsX9_out := goodIn_r _ [8] (by decide +kernel) (by decide +kernel)
set_option maxRecDepth 20000 in
theorem gX9_set_X9_out : GoodIn wsX9_set (va_wsS RX9 266 yX9_out wsX9_out) := goodIn_app (goodIn_of _ (by decide +kernel)) ggX9_set_X9_out
set_option maxRecDepth 20000 in
theorem ggX9_set_X9_isWord : GoodIn wsX9_set wsX9_isWord := goodIn_r _ [11, 12] (by decide +kernel) (by decide +kernel)
set_option maxRecDepth 20000 in
theorem gX9_set_X9_isWord : GoodIn wsX9_set (va_wsS RX9 260 yX9_isWord wsX9_isWord) := goodIn_app (goodIn_of _ (by decide +kernel)) ggX9_set_X9_isWord
theorem dX9_set_0 : decode cX9_set 0 = .ok (.aload_n 0, 1) := by decide +kernel
theorem dX9_set_1 : decode cX9_set 1 = .ok (.iload_n 1, 1) := by decide +kernel
theorem dX9_set_2 : decode cX9_set 2 = .ok (.bipush 8, 2) := by decide +kernel
theorem dX9_set_4 : decode cX9_set 4 = .ok (.invokestatic 266, 3) := by decide +kernel
theorem dX9_set_7 : decode cX9_set 7 = .ok (.ifCond .ne 10, 3) := by decide +kernel
theorem dX9_set_10 : decode cX9_set 10 = .ok (.iload_n 2, 1) := by decide +kernel
theorem dX9_set_11 : decode cX9_set 11 = .ok (.invokestatic 260, 3) := by decide +kernel
theorem dX9_set_14 : decode cX9_set 14 = .ok (.ifCond .ne 7, 3) := by decide +kernel
theorem dX9_set_17 : decode cX9_set 17 = .ok (.iconst 1, 1) := by decide +kernel
theorem dX9_set_18 : decode cX9_set 18 = .ok (.goto 4, 3) := by decide +kernel
theorem dX9_set_21 : decode cX9_set 21 = .ok (.iconst 0, 1) := by decide +kernel
theorem dX9_set_22 : decode cX9_set 22 = .ok (.putfield 48, 3) := by decide +kernel
theorem dX9_set_25 : decode cX9_set 25 = .ok (.aload_n 0, 1) := by decide +kernel
theorem dX9_set_26 : decode cX9_set 26 = .ok (.getfield 48, 3) := by decide +kernel
theorem dX9_set_29 : decode cX9_set 29 = .ok (.ifCond .le 4, 3) := by decide +kernel
theorem dX9_set_32 : decode cX9_set 32 = .ok (.return_, 1) := by decide +kernel
theorem dX9_set_33 : decode cX9_set 33 = .ok (.iload_n 1, 1) := by decide +kernel
theorem dX9_set_34 : decode cX9_set 34 = .ok (.bipush 6, 2) := by decide +kernel
theorem dX9_set_36 : decode cX9_set 36 = .ok (.if_icmp .ne 19, 3) := by decide +kernel
theorem dX9_set_39 : decode cX9_set 39 = .ok (.aload_n 0, 1) := by decide +kernel
theorem dX9_set_40 : decode cX9_set 40 = .ok (.getfield 116, 3) := by decide +kernel
theorem dX9_set_43 : decode cX9_set 43 = .ok (.iconst 1, 1) := by decide +kernel
theorem dX9_set_44 : decode cX9_set 44 = .ok (.if_icmp .ne 11, 3) := by decide +kernel
theorem dX9_set_47 : decode cX9_set 47 = .ok (.aload_n 0, 1) := by decide +kernel
theorem dX9_set_48 : decode cX9_set 48 = .ok (.iload_n 2, 1) := by decide +kernel
theorem dX9_set_49 : decode cX9_set 49 = .ok (.putfield 119, 3) := by decide +kernel
theorem dX9_set_52 : decode cX9_set 52 = .ok (.goto 10, 3) := by decide +kernel
theorem dX9_set_55 : decode cX9_set 55 = .ok (.aload_n 0, 1) := by decide +kernel
theorem dX9_set_56 : decode cX9_set 56 = .ok (.getfield 19, 3) := by decide +kernel
theorem dX9_set_59 : decode cX9_set 59 = .ok (.iload_n 1, 1) := by decide +kernel
theorem dX9_set_60 : decode cX9_set 60 = .ok (.iload_n 2, 1) := by decide +kernel
theorem dX9_set_61 : decode cX9_set 61 = .ok (.iastore, 1) := by decide +kernel
theorem dX9_set_62 : decode cX9_set 62 = .ok (.return_, 1) := by decide +kernel
set_option maxRecDepth 20000 in
theorem ggX9_register_X9_out : GoodIn wsX9_register wsX9_out := goodIn_r _ [8] (by decide +kernel) (by decide +kernel)
set_option maxRecDepth 20000 in
theorem gX9_register_X9_out : GoodIn wsX9_register (va_wsS RX9 266 yX9_out wsX9_out) := goodIn_app (goodIn_of _ (by decide +kernel)) ggX9_register_X9_out
set_option maxRecDepth 20000 in
theorem ggX9_register_X9_fail : GoodIn wsX9_register wsX9_fail := goodIn_r _ [12, 1, 13, 14, 15, 16, 17, 18, 19, 20, 21, 22, 23, 24, 25, 26, 27, 28, 29, 30, 31, 32, 33, 34, 35, 36, 37, 38, 39, 40] (by decide +kernel) (by decide +kernel)
set_option maxRecDepth 20000 in
theorem gX9_register_X9_fail : GoodIn wsX9_register (wsV RX9 263 RX9 yX9_fail wsX9_fail) := goodIn_app (goodIn_of _ (by decide +kernel)) ggX9_register_X9_fail
theorem dX9_register_0 : decode cX9_register 0 = .ok (.aload_n 0, 1) := by decide +kernel
theorem dX9_register_1 : decode cX9_register 1 = .ok (.iconst 0, 1) := by decide +kernel
theorem dX9_register_2 : decode cX9_register 2 = .ok (.putfield 48, 3) := by decide +kernel
theorem dX9_register_5 : decode cX9_register 5 = .ok (.iload_n 1, 1) := by decide +kernel
theorem dX9_register_6 : decode cX9_register 6 = .ok (.bipush 10, 2) := by decide +kernel
theorem dX9_register_8 : decode cX9_register 8 = .ok (.invokestatic 266, 3) := by decide +kernel
theorem dX9_register_11 : decode cX9_register 11 = .ok (.ifCond .eq 9, 3) := by decide +kernel
theorem dX9_register_14 : decode cX9_register 14 = .ok (.aload_n 0, 1) := by decide +kernel
theorem dX9_register_15 : decode cX9_register 15 = .ok (.iconst 1, 1) := by decide +kernel
theorem dX9_register_16 : decode cX9_register 16 = .ok (.invokevirtual 263, 3) := by decide +kernel
theorem dX9_register_19 : decode cX9_register 19 = .ok (.ireturn, 1) := by decide +kernel
theorem dX9_register_20 : decode cX9_register 20 = .ok (.iload_n 1, 1) := by decide +kernel
theorem dX9_register_21 : decode cX9_register 21 = .ok (.bipush 8, 2) := by decide +kernel
theorem dX9_register_23 : decode cX9_register 23 = .ok (.if_icmp .ne 10, 3) := by decide +kernel
theorem dX9_register_26 : decode cX9_register 26 = .ok (.aload_n 0, 1) := by decide +kernel
theorem dX9_register_27 : decode cX9_register 27 = .ok (.getfield 84, 3) := by decide +kernel
theorem dX9_register_30 : decode cX9_register 30 = .ok (.goto 22, 3) := by decide +kernel
theorem dX9_register_33 : decode cX9_register 33 = .ok (.iload_n 1, 1) := by decide +kernel
theorem dX9_register_34 : decode cX9_register 34 = .ok (.bipush 9, 2) := by decide +kernel
theorem dX9_register_36 : decode cX9_register 36 = .ok (.if_icmp .ne 10, 3) := by decide +kernel
theorem dX9_register_39 : decode cX9_register 39 = .ok (.aload_n 0, 1) := by decide +kernel
theorem dX9_register_40 : decode cX9_register 40 = .ok (.getfield 119, 3) := by decide +kernel
theorem dX9_register_43 : decode cX9_register 43 = .ok (.goto 9, 3) := by decide +kernel
theorem dX9_register_46 : decode cX9_register 46 = .ok (.aload_n 0, 1) := by decide +kernel
theorem dX9_register_47 : decode cX9_register 47 = .ok (.getfield 19, 3) := by decide +kernel
theorem dX9_register_50 : decode cX9_register 50 = .ok (.iload_n 1, 1) := by decide +kernel
theorem dX9_register_51 : decode cX9_register 51 = .ok (.iaload, 1) := by decide +kernel
theorem dX9_register_52 : decode cX9_register 52 = .ok (.ireturn, 1) := by decide +kernel
set_option maxRecDepth 20000 in
theorem ggX9_start_X9_isWord : GoodIn wsX9_start wsX9_isWord := goodIn_r _ [8, 9] (by decide +kernel) (by decide +kernel)
set_option maxRecDepth 20000 in
theorem gX9_start_X9_isWord : GoodIn wsX9_start (va_wsS RX9 260 yX9_isWord wsX9_isWord) := goodIn_app (goodIn_of _ (by decide +kernel)) ggX9_start_X9_isWord
set_option maxRecDepth 20000 in
theorem ggX9_start_X9_settle : GoodIn wsX9_start wsX9_settle := goodIn_r _ [13, 2, 14, 3, 15, 16, 17, 18, 19, 20, 21, 22, 23, 24, 25, 26, 27, 28, 29, 30, 31, 32, 33, 34, 35, 36, 37, 38, 39, 40, 41, 42, 43] (by decide +kernel) (by decide +kernel)
set_option maxRecDepth 20000 in
theorem gX9_start_X9_settle : GoodIn wsX9_start (wsV RX9 170 RX9 yX9_settle wsX9_settle) := goodIn_app (goodIn_of _ (by decide +kernel)) ggX9_start_X9_settle
theorem dX9_start_0 : decode cX9_start 0 = .ok (.aload_n 0, 1) := by decide +kernel
theorem dX9_start_1 : decode cX9_start 1 = .ok (.iload_n 1, 1) := by decide +kernel
theorem dX9_start_2 : decode cX9_start 2 = .ok (.invokestatic 260, 3) := by decide +kernel
theorem dX9_start_5 : decode cX9_start 5 = .ok (.ifCond .eq 7, 3) := by decide +kernel
theorem dX9_start_8 : decode cX9_start 8 = .ok (.iconst 0, 1) := by decide +kernel
theorem dX9_start_9 : decode cX9_start 9 = .ok (.goto 4, 3) := by decide +kernel
theorem dX9_start_12 : decode cX9_start 12 = .ok (.iconst 1, 1) := by decide +kernel
theorem dX9_start_13 : decode cX9_start 13 = .ok (.putfield 48, 3) := by decide +kernel
theorem dX9_start_16 : decode cX9_start 16 = .ok (.aload_n 0, 1) := by decide +kernel
theorem dX9_start_17 : decode cX9_start 17 = .ok (.getfield 48, 3) := by decide +kernel
theorem dX9_start_20 : decode cX9_start 20 = .ok (.ifCond .le 4, 3) := by decide +kernel
theorem dX9_start_23 : decode cX9_start 23 = .ok (.return_, 1) := by decide +kernel
theorem dX9_start_24 : decode cX9_start 24 = .ok (.aload_n 0, 1) := by decide +kernel
theorem dX9_start_25 : decode cX9_start 25 = .ok (.sipush 224, 3) := by decide +kernel
theorem dX9_start_28 : decode cX9_start 28 = .ok (.putfield 84, 3) := by decide +kernel
theorem dX9_start_31 : decode cX9_start 31 = .ok (.aload_n 0, 1) := by decide +kernel
theorem dX9_start_32 : decode cX9_start 32 = .ok (.invokevirtual 170, 3) := by decide +kernel
theorem dX9_start_35 : decode cX9_start 35 = .ok (.aload_n 0, 1) := by decide +kernel
theorem dX9_start_36 : decode cX9_start 36 = .ok (.getfield 19, 3) := by decide +kernel
theorem dX9_start_39 : decode cX9_start 39 = .ok (.bipush 7, 2) := by decide +kernel
theorem dX9_start_41 : decode cX9_start 41 = .ok (.iload_n 1, 1) := by decide +kernel
theorem dX9_start_42 : decode cX9_start 42 = .ok (.iastore, 1) := by decide +kernel
theorem dX9_start_43 : decode cX9_start 43 = .ok (.aload_n 0, 1) := by decide +kernel
theorem dX9_start_44 : decode cX9_start 44 = .ok (.iconst 0, 1) := by decide +kernel
theorem dX9_start_45 : decode cX9_start 45 = .ok (.putfield 22, 3) := by decide +kernel
theorem dX9_start_48 : decode cX9_start 48 = .ok (.return_, 1) := by decide +kernel
theorem dX9_run_0 : decode cX9_run 0 = .ok (.aload_n 0, 1) := by decide +kernel
theorem dX9_run_1 : decode cX9_run 1 = .ok (.iload_n 1, 1) := by decide +kernel
theorem dX9_run_2 : decode cX9_run 2 = .ok (.iconst 1, 1) := by decide +kernel
theorem dX9_run_3 : decode cX9_run 3 = .ok (.if_icmp .lt 9, 3) := by decide +kernel
theorem dX9_run_6 : decode cX9_run 6 = .ok (.iload_n 1, 1) := by decide +kernel
theorem dX9_run_7 : decode cX9_run 7 = .ok (.bipush 40, 2) := by decide +kernel
theorem dX9_run_9 : decode cX9_run 9 = .ok (.if_icmp .le 7, 3) := by decide +kernel
theorem dX9_run_12 : decode cX9_run 12 = .ok (.iconst 1, 1) := by decide +kernel
theorem dX9_run_13 : decode cX9_run 13 = .ok (.goto 16, 3) := by decide +kernel
theorem dX9_run_16 : decode cX9_run 16 = .ok (.aload_n 0, 1) := by decide +kernel
theorem dX9_run_17 : decode cX9_run 17 = .ok (.getfield 22, 3) := by decide +kernel
theorem dX9_run_20 : decode cX9_run 20 = .ok (.iconst 1, 1) := by decide +kernel
theorem dX9_run_21 : decode cX9_run 21 = .ok (.if_icmp .le 7, 3) := by decide +kernel
theorem dX9_run_24 : decode cX9_run 24 = .ok (.iconst 2, 1) := by decide +kernel
theorem dX9_run_25 : decode cX9_run 25 = .ok (.goto 4, 3) := by decide +kernel
theorem dX9_run_28 : decode cX9_run 28 = .ok (.iconst 0, 1) := by decide +kernel
theorem dX9_run_29 : decode cX9_run 29 = .ok (.putfield 48, 3) := by decide +kernel
theorem dX9_run_32 : decode cX9_run 32 = .ok (.iconst 0, 1) := by decide +kernel
theorem dX9_run_33 : decode cX9_run 33 = .ok (.istore_n 2, 1) := by decide +kernel
theorem dX9_run_34 : decode cX9_run 34 = .ok (.iload_n 2, 1) := by decide +kernel
theorem dX9_run_35 : decode cX9_run 35 = .ok (.iload_n 1, 1) := by decide +kernel
theorem dX9_run_36 : decode cX9_run 36 = .ok (.if_icmp .ge 67, 3) := by decide +kernel
theorem dX9_run_39 : decode cX9_run 39 = .ok (.aload_n 0, 1) := by decide +kernel
theorem dX9_run_40 : decode cX9_run 40 = .ok (.getfield 22, 3) := by decide +kernel
theorem dX9_run_43 : decode cX9_run 43 = .ok (.iconst 2, 1) := by decide +kernel
theorem dX9_run_44 : decode cX9_run 44 = .ok (.if_icmp .ge 59, 3) := by decide +kernel
theorem dX9_run_47 : decode cX9_run 47 = .ok (.aload_n 0, 1) := by decide +kernel
theorem dX9_run_48 : decode cX9_run 48 = .ok (.getfield 48, 3) := by decide +kernel
theorem dX9_run_51 : decode cX9_run 51 = .ok (.ifCond .ne 52, 3) := by decide +kernel
theorem dX9_run_54 : decode cX9_run 54 = .ok (.aload_n 0, 1) := by decide +kernel
theorem dX9_run_55 : decode cX9_run 55 = .ok (.getfield 22, 3) := by decide +kernel
theorem dX9_run_58 : decode cX9_run 58 = .ok (.ifCond .ne 27, 3) := by decide +kernel
theorem dX9_run_61 : decode cX9_run 61 = .ok (.aload_n 0, 1) := by decide +kernel
theorem dX9_run_62 : decode cX9_run 62 = .ok (.iconst 0, 1) := by decide +kernel
theorem dX9_run_63 : decode cX9_run 63 = .ok (.putfield 87, 3) := by decide +kernel
theorem dX9_run_66 : decode cX9_run 66 = .ok (.aload_n 0, 1) := by decide +kernel
theorem dX9_run_67 : decode cX9_run 67 = .ok (.invokevirtual 270, 3) := by decide +kernel
theorem dX9_run_70 : decode cX9_run 70 = .ok (.aload_n 0, 1) := by decide +kernel
theorem dX9_run_71 : decode cX9_run 71 = .ok (.getfield 87, 3) := by decide +kernel
theorem dX9_run_74 : decode cX9_run 74 = .ok (.ifCond .le 11, 3) := by decide +kernel
theorem dX9_run_77 : decode cX9_run 77 = .ok (.aload_n 0, 1) := by decide +kernel
theorem dX9_run_78 : decode cX9_run 78 = .ok (.aload_n 0, 1) := by decide +kernel
theorem dX9_run_79 : decode cX9_run 79 = .ok (.getfield 87, 3) := by decide +kernel
theorem dX9_run_82 : decode cX9_run 82 = .ok (.invokevirtual 248, 3) := by decide +kernel
theorem dX9_run_85 : decode cX9_run 85 = .ok (.aload_n 0, 1) := by decide +kernel
theorem dX9_run_86 : decode cX9_run 86 = .ok (.getfield 22, 3) := by decide +kernel
theorem dX9_run_89 : decode cX9_run 89 = .ok (.iconst 2, 1) := by decide +kernel
theorem dX9_run_90 : decode cX9_run 90 = .ok (.if_icmp .ge 7, 3) := by decide +kernel
theorem dX9_run_93 : decode cX9_run 93 = .ok (.aload_n 0, 1) := by decide +kernel
theorem dX9_run_94 : decode cX9_run 94 = .ok (.invokevirtual 273, 3) := by decide +kernel
theorem dX9_run_97 : decode cX9_run 97 = .ok (.iinc 2 1, 3) := by decide +kernel
theorem dX9_run_100 : decode cX9_run 100 = .ok (.goto (-66), 3) := by decide +kernel
theorem dX9_run_103 : decode cX9_run 103 = .ok (.iload_n 2, 1) := by decide +kernel
theorem dX9_run_104 : decode cX9_run 104 = .ok (.ireturn, 1) := by decide +kernel
set_option maxRecDepth 20000 in
theorem ggX9_key_X9_out : GoodIn wsX9_key wsX9_out := goodIn_r _ [7] (by decide +kernel) (by decide +kernel)
set_option maxRecDepth 20000 in
theorem gX9_key_X9_out : GoodIn wsX9_key (va_wsS RX9 266 yX9_out wsX9_out) := goodIn_app (goodIn_of _ (by decide +kernel)) ggX9_key_X9_out
theorem dX9_key_0 : decode cX9_key 0 = .ok (.aload_n 0, 1) := by decide +kernel
theorem dX9_key_1 : decode cX9_key 1 = .ok (.iload_n 1, 1) := by decide +kernel
theorem dX9_key_2 : decode cX9_key 2 = .ok (.sipush 256, 3) := by decide +kernel
theorem dX9_key_5 : decode cX9_key 5 = .ok (.invokestatic 266, 3) := by decide +kernel
theorem dX9_key_8 : decode cX9_key 8 = .ok (.ifCond .eq 7, 3) := by decide +kernel
theorem dX9_key_11 : decode cX9_key 11 = .ok (.iconst 1, 1) := by decide +kernel
theorem dX9_key_12 : decode cX9_key 12 = .ok (.goto 4, 3) := by decide +kernel
theorem dX9_key_15 : decode cX9_key 15 = .ok (.iconst 0, 1) := by decide +kernel
theorem dX9_key_16 : decode cX9_key 16 = .ok (.putfield 48, 3) := by decide +kernel
theorem dX9_key_19 : decode cX9_key 19 = .ok (.aload_n 0, 1) := by decide +kernel
theorem dX9_key_20 : decode cX9_key 20 = .ok (.getfield 48, 3) := by decide +kernel
theorem dX9_key_23 : decode cX9_key 23 = .ok (.ifCond .le 4, 3) := by decide +kernel
theorem dX9_key_26 : decode cX9_key 26 = .ok (.return_, 1) := by decide +kernel
theorem dX9_key_27 : decode cX9_key 27 = .ok (.aload_n 0, 1) := by decide +kernel
theorem dX9_key_28 : decode cX9_key 28 = .ok (.iload_n 1, 1) := by decide +kernel
theorem dX9_key_29 : decode cX9_key 29 = .ok (.putfield 72, 3) := by decide +kernel
theorem dX9_key_32 : decode cX9_key 32 = .ok (.aload_n 0, 1) := by decide +kernel
theorem dX9_key_33 : decode cX9_key 33 = .ok (.getfield 26, 3) := by decide +kernel
theorem dX9_key_36 : decode cX9_key 36 = .ok (.iconst 1, 1) := by decide +kernel
theorem dX9_key_37 : decode cX9_key 37 = .ok (.iconst 1, 1) := by decide +kernel
theorem dX9_key_38 : decode cX9_key 38 = .ok (.bastore, 1) := by decide +kernel
theorem dX9_key_39 : decode cX9_key 39 = .ok (.return_, 1) := by decide +kernel
theorem dX9_printed_0 : decode cX9_printed 0 = .ok (.aload_n 0, 1) := by decide +kernel
theorem dX9_printed_1 : decode cX9_printed 1 = .ok (.iload_n 1, 1) := by decide +kernel
theorem dX9_printed_2 : decode cX9_printed 2 = .ok (.iconst (-1), 1) := by decide +kernel
theorem dX9_printed_3 : decode cX9_printed 3 = .ok (.if_icmp .lt 17, 3) := by decide +kernel
theorem dX9_printed_6 : decode cX9_printed 6 = .ok (.iload_n 1, 1) := by decide +kernel
theorem dX9_printed_7 : decode cX9_printed 7 = .ok (.bipush 31, 2) := by decide +kernel
theorem dX9_printed_9 : decode cX9_printed 9 = .ok (.if_icmp .gt 11, 3) := by decide +kernel
theorem dX9_printed_12 : decode cX9_printed 12 = .ok (.iload_n 1, 1) := by decide +kernel
theorem dX9_printed_13 : decode cX9_printed 13 = .ok (.aload_n 0, 1) := by decide +kernel
theorem dX9_printed_14 : decode cX9_printed 14 = .ok (.getfield 254, 3) := by decide +kernel
theorem dX9_printed_17 : decode cX9_printed 17 = .ok (.if_icmp .lt 7, 3) := by decide +kernel
theorem dX9_printed_20 : decode cX9_printed 20 = .ok (.iconst 1, 1) := by decide +kernel
theorem dX9_printed_21 : decode cX9_printed 21 = .ok (.goto 4, 3) := by decide +kernel
theorem dX9_printed_24 : decode cX9_printed 24 = .ok (.iconst 0, 1) := by decide +kernel
theorem dX9_printed_25 : decode cX9_printed 25 = .ok (.putfield 48, 3) := by decide +kernel
theorem dX9_printed_28 : decode cX9_printed 28 = .ok (.aload_n 0, 1) := by decide +kernel
theorem dX9_printed_29 : decode cX9_printed 29 = .ok (.getfield 48, 3) := by decide +kernel
theorem dX9_printed_32 : decode cX9_printed 32 = .ok (.ifCond .le 5, 3) := by decide +kernel
theorem dX9_printed_35 : decode cX9_printed 35 = .ok (.iconst 0, 1) := by decide +kernel
theorem dX9_printed_36 : decode cX9_printed 36 = .ok (.ireturn, 1) := by decide +kernel
theorem dX9_printed_37 : decode cX9_printed 37 = .ok (.iload_n 1, 1) := by decide +kernel
theorem dX9_printed_38 : decode cX9_printed 38 = .ok (.ifCond .ge 10, 3) := by decide +kernel
theorem dX9_printed_41 : decode cX9_printed 41 = .ok (.aload_n 0, 1) := by decide +kernel
theorem dX9_printed_42 : decode cX9_printed 42 = .ok (.getfield 254, 3) := by decide +kernel
theorem dX9_printed_45 : decode cX9_printed 45 = .ok (.goto 19, 3) := by decide +kernel
theorem dX9_printed_48 : decode cX9_printed 48 = .ok (.aload_n 0, 1) := by decide +kernel
theorem dX9_printed_49 : decode cX9_printed 49 = .ok (.getfield 42, 3) := by decide +kernel
theorem dX9_printed_52 : decode cX9_printed 52 = .ok (.aload_n 0, 1) := by decide +kernel
theorem dX9_printed_53 : decode cX9_printed 53 = .ok (.getfield 254, 3) := by decide +kernel
theorem dX9_printed_56 : decode cX9_printed 56 = .ok (.iconst 1, 1) := by decide +kernel
theorem dX9_printed_57 : decode cX9_printed 57 = .ok (.isub, 1) := by decide +kernel
theorem dX9_printed_58 : decode cX9_printed 58 = .ok (.iload_n 1, 1) := by decide +kernel
theorem dX9_printed_59 : decode cX9_printed 59 = .ok (.isub, 1) := by decide +kernel
theorem dX9_printed_60 : decode cX9_printed 60 = .ok (.bipush 32, 2) := by decide +kernel
theorem dX9_printed_62 : decode cX9_printed 62 = .ok (.irem, 1) := by decide +kernel
theorem dX9_printed_63 : decode cX9_printed 63 = .ok (.iaload, 1) := by decide +kernel
theorem dX9_printed_64 : decode cX9_printed 64 = .ok (.ireturn, 1) := by decide +kernel
set_option maxRecDepth 20000 in
theorem ggX9_load_X9_out : GoodIn wsX9_load wsX9_out := goodIn_r _ [6] (by decide +kernel) (by decide +kernel)
set_option maxRecDepth 20000 in
theorem gX9_load_X9_out : GoodIn wsX9_load (va_wsS RX9 266 yX9_out wsX9_out) := goodIn_app (goodIn_of _ (by decide +kernel)) ggX9_load_X9_out
set_option maxRecDepth 20000 in
theorem ggX9_load_X9_isWord : GoodIn wsX9_load wsX9_isWord := goodIn_r _ [9, 10] (by decide +kernel) (by decide +kernel)
set_option maxRecDepth 20000 in
theorem gX9_load_X9_isWord : GoodIn wsX9_load (va_wsS RX9 260 yX9_isWord wsX9_isWord) := goodIn_app (goodIn_of _ (by decide +kernel)) ggX9_load_X9_isWord
theorem dX9_load_0 : decode cX9_load 0 = .ok (.aload_n 0, 1) := by decide +kernel
theorem dX9_load_1 : decode cX9_load 1 = .ok (.iload_n 1, 1) := by decide +kernel
theorem dX9_load_2 : decode cX9_load 2 = .ok (.bipush 8, 2) := by decide +kernel
theorem dX9_load_4 : decode cX9_load 4 = .ok (.invokestatic 266, 3) := by decide +kernel
theorem dX9_load_7 : decode cX9_load 7 = .ok (.ifCond .ne 19, 3) := by decide +kernel
theorem dX9_load_10 : decode cX9_load 10 = .ok (.iload_n 2, 1) := by decide +kernel
theorem dX9_load_11 : decode cX9_load 11 = .ok (.bipush 16, 2) := by decide +kernel
theorem dX9_load_13 : decode cX9_load 13 = .ok (.invokestatic 266, 3) := by decide +kernel
theorem dX9_load_16 : decode cX9_load 16 = .ok (.ifCond .ne 10, 3) := by decide +kernel
theorem dX9_load_19 : decode cX9_load 19 = .ok (.iload_n 3, 1) := by decide +kernel
theorem dX9_load_20 : decode cX9_load 20 = .ok (.invokestatic 260, 3) := by decide +kernel
theorem dX9_load_23 : decode cX9_load 23 = .ok (.ifCond .ne 7, 3) := by decide +kernel
theorem dX9_load_26 : decode cX9_load 26 = .ok (.iconst 1, 1) := by decide +kernel
theorem dX9_load_27 : decode cX9_load 27 = .ok (.goto 4, 3) := by decide +kernel
theorem dX9_load_30 : decode cX9_load 30 = .ok (.iconst 0, 1) := by decide +kernel
theorem dX9_load_31 : decode cX9_load 31 = .ok (.putfield 48, 3) := by decide +kernel
theorem dX9_load_34 : decode cX9_load 34 = .ok (.aload_n 0, 1) := by decide +kernel
theorem dX9_load_35 : decode cX9_load 35 = .ok (.getfield 48, 3) := by decide +kernel
theorem dX9_load_38 : decode cX9_load 38 = .ok (.ifCond .ne 15, 3) := by decide +kernel
theorem dX9_load_41 : decode cX9_load 41 = .ok (.aload_n 0, 1) := by decide +kernel
theorem dX9_load_42 : decode cX9_load 42 = .ok (.getfield 45, 3) := by decide +kernel
theorem dX9_load_45 : decode cX9_load 45 = .ok (.bipush 16, 2) := by decide +kernel
theorem dX9_load_47 : decode cX9_load 47 = .ok (.iload_n 1, 1) := by decide +kernel
theorem dX9_load_48 : decode cX9_load 48 = .ok (.imul, 1) := by decide +kernel
theorem dX9_load_49 : decode cX9_load 49 = .ok (.iload_n 2, 1) := by decide +kernel
theorem dX9_load_50 : decode cX9_load 50 = .ok (.iadd, 1) := by decide +kernel
theorem dX9_load_51 : decode cX9_load 51 = .ok (.iload_n 3, 1) := by decide +kernel
theorem dX9_load_52 : decode cX9_load 52 = .ok (.iastore, 1) := by decide +kernel
theorem dX9_load_53 : decode cX9_load 53 = .ok (.return_, 1) := by decide +kernel
set_option maxRecDepth 20000 in
theorem ggX9_disk_X9_out : GoodIn wsX9_disk wsX9_out := goodIn_r _ [6] (by decide +kernel) (by decide +kernel)
set_option maxRecDepth 20000 in
theorem gX9_disk_X9_out : GoodIn wsX9_disk (va_wsS RX9 266 yX9_out wsX9_out) := goodIn_app (goodIn_of _ (by decide +kernel)) ggX9_disk_X9_out
set_option maxRecDepth 20000 in
theorem ggX9_disk_X9_fail : GoodIn wsX9_disk wsX9_fail := goodIn_r _ [10, 1, 11, 12, 13, 14, 15, 16, 17, 18, 19, 20, 21, 22, 23, 24, 25, 26, 27, 28, 29, 30, 31, 32, 33, 34, 35, 36, 37, 38] (by decide +kernel) (by decide +kernel)
set_option maxRecDepth 20000 in
theorem gX9_disk_X9_fail : GoodIn wsX9_disk (wsV RX9 263 RX9 yX9_fail wsX9_fail) := goodIn_app (goodIn_of _ (by decide +kernel)) ggX9_disk_X9_fail
theorem dX9_disk_0 : decode cX9_disk 0 = .ok (.aload_n 0, 1) := by decide +kernel
theorem dX9_disk_1 : decode cX9_disk 1 = .ok (.iconst 0, 1) := by decide +kernel
theorem dX9_disk_2 : decode cX9_disk 2 = .ok (.putfield 48, 3) := by decide +kernel
theorem dX9_disk_5 : decode cX9_disk 5 = .ok (.iload_n 1, 1) := by decide +kernel
theorem dX9_disk_6 : decode cX9_disk 6 = .ok (.bipush 8, 2) := by decide +kernel
theorem dX9_disk_8 : decode cX9_disk 8 = .ok (.invokestatic 266, 3) := by decide +kernel
theorem dX9_disk_11 : decode cX9_disk 11 = .ok (.ifCond .ne 12, 3) := by decide +kernel
theorem dX9_disk_14 : decode cX9_disk 14 = .ok (.iload_n 2, 1) := by decide +kernel
theorem dX9_disk_15 : decode cX9_disk 15 = .ok (.bipush 16, 2) := by decide +kernel
theorem dX9_disk_17 : decode cX9_disk 17 = .ok (.invokestatic 266, 3) := by decide +kernel
theorem dX9_disk_20 : decode cX9_disk 20 = .ok (.ifCond .eq 11, 3) := by decide +kernel
theorem dX9_disk_23 : decode cX9_disk 23 = .ok (.aload_n 0, 1) := by decide +kernel
theorem dX9_disk_24 : decode cX9_disk 24 = .ok (.iconst 1, 1) := by decide +kernel
theorem dX9_disk_25 : decode cX9_disk 25 = .ok (.invokevirtual 263, 3) := by decide +kernel
theorem dX9_disk_28 : decode cX9_disk 28 = .ok (.goto 14, 3) := by decide +kernel
theorem dX9_disk_31 : decode cX9_disk 31 = .ok (.aload_n 0, 1) := by decide +kernel
theorem dX9_disk_32 : decode cX9_disk 32 = .ok (.getfield 45, 3) := by decide +kernel
theorem dX9_disk_35 : decode cX9_disk 35 = .ok (.bipush 16, 2) := by decide +kernel
theorem dX9_disk_37 : decode cX9_disk 37 = .ok (.iload_n 1, 1) := by decide +kernel
theorem dX9_disk_38 : decode cX9_disk 38 = .ok (.imul, 1) := by decide +kernel
theorem dX9_disk_39 : decode cX9_disk 39 = .ok (.iload_n 2, 1) := by decide +kernel
theorem dX9_disk_40 : decode cX9_disk 40 = .ok (.iadd, 1) := by decide +kernel
theorem dX9_disk_41 : decode cX9_disk 41 = .ok (.iaload, 1) := by decide +kernel
theorem dX9_disk_42 : decode cX9_disk 42 = .ok (.ireturn, 1) := by decide +kernel
set_option maxRecDepth 20000 in
theorem ggX9_device_X9_at : GoodIn wsX9_device wsX9_at := goodIn_r _ [8, 9, 2, 10, 11, 12, 13, 14, 15, 16, 17, 18, 19, 20, 7, 21, 22, 23, 24, 25, 26, 27, 28, 29, 30, 31, 32, 33, 34, 35, 36, 37, 38, 39, 40, 41, 42, 43, 44, 45, 46, 47, 48, 49, 50, 51, 52, 53, 54, 55, 56, 57] (by decide +kernel) (by decide +kernel)
set_option maxRecDepth 20000 in
theorem gX9_device_X9_at : GoodIn wsX9_device (wsV RX9 90 RX9 yX9_at wsX9_at) := goodIn_app (goodIn_of _ (by decide +kernel)) ggX9_device_X9_at
theorem dX9_device_0 : decode cX9_device 0 = .ok (.aload_n 0, 1) := by decide +kernel
theorem dX9_device_1 : decode cX9_device 1 = .ok (.iconst 0, 1) := by decide +kernel
theorem dX9_device_2 : decode cX9_device 2 = .ok (.putfield 48, 3) := by decide +kernel
theorem dX9_device_5 : decode cX9_device 5 = .ok (.iload_n 1, 1) := by decide +kernel
theorem dX9_device_6 : decode cX9_device 6 = .ok (.ldc 64, 2) := by decide +kernel
theorem dX9_device_8 : decode cX9_device 8 = .ok (.if_icmp .lt 16, 3) := by decide +kernel
theorem dX9_device_11 : decode cX9_device 11 = .ok (.iload_n 1, 1) := by decide +kernel
theorem dX9_device_12 : decode cX9_device 12 = .ok (.ldc 122, 2) := by decide +kernel
theorem dX9_device_14 : decode cX9_device 14 = .ok (.if_icmp .gt 10, 3) := by decide +kernel
theorem dX9_device_17 : decode cX9_device 17 = .ok (.iload_n 1, 1) := by decide +kernel
theorem dX9_device_18 : decode cX9_device 18 = .ok (.iconst 2, 1) := by decide +kernel
theorem dX9_device_19 : decode cX9_device 19 = .ok (.irem, 1) := by decide +kernel
theorem dX9_device_20 : decode cX9_device 20 = .ok (.iconst 1, 1) := by decide +kernel
theorem dX9_device_21 : decode cX9_device 21 = .ok (.if_icmp .ne 7, 3) := by decide +kernel
theorem dX9_device_24 : decode cX9_device 24 = .ok (.iconst (-1), 1) := by decide +kernel
theorem dX9_device_25 : decode cX9_device 25 = .ok (.goto 8, 3) := by decide +kernel
theorem dX9_device_28 : decode cX9_device 28 = .ok (.aload_n 0, 1) := by decide +kernel
theorem dX9_device_29 : decode cX9_device 29 = .ok (.iload_n 1, 1) := by decide +kernel
theorem dX9_device_30 : decode cX9_device 30 = .ok (.invokevirtual 90, 3) := by decide +kernel
theorem dX9_device_33 : decode cX9_device 33 = .ok (.ireturn, 1) := by decide +kernel
theorem dX9_state_0 : decode cX9_state 0 = .ok (.aload_n 0, 1) := by decide +kernel
theorem dX9_state_1 : decode cX9_state 1 = .ok (.iconst 0, 1) := by decide +kernel
theorem dX9_state_2 : decode cX9_state 2 = .ok (.putfield 48, 3) := by decide +kernel
theorem dX9_state_5 : decode cX9_state 5 = .ok (.aload_n 0, 1) := by decide +kernel
theorem dX9_state_6 : decode cX9_state 6 = .ok (.getfield 22, 3) := by decide +kernel
theorem dX9_state_9 : decode cX9_state 9 = .ok (.ireturn, 1) := by decide +kernel
set_option maxRecDepth 20000 in
theorem ggL_deposit_X8_deposit : GoodIn wsL_deposit wsX8_deposit := goodIn_ca (goodIn_r _ [6, 7, 8, 9, 10, 11, 12, 5, 13, 14, 15, 16, 17, 18, 19, 20, 21, 22, 23, 24, 25] (by decide +kernel) (by decide +kernel)) (goodIn_sub (fun _ h => List.mem_cons_of_mem _ (List.mem_append_right _ h)) (by decide +kernel))
set_option maxRecDepth 20000 in
theorem gL_deposit_X8_deposit : GoodIn wsL_deposit (wsV RL 7 RX8 yX8_deposit wsX8_deposit) := goodIn_app (goodIn_of _ (by decide +kernel)) ggL_deposit_X8_deposit
theorem dL_deposit_0 : decode cL_deposit 0 = .ok (.aload_n 0, 1) := by decide +kernel
theorem dL_deposit_1 : decode cL_deposit 1 = .ok (.iload_n 1, 1) := by decide +kernel
theorem dL_deposit_2 : decode cL_deposit 2 = .ok (.iload_n 2, 1) := by decide +kernel
theorem dL_deposit_3 : decode cL_deposit 3 = .ok (.invokevirtual 7, 3) := by decide +kernel
theorem dL_deposit_6 : decode cL_deposit 6 = .ok (.goto 6, 3) := by decide +kernel
theorem dL_deposit_9 : decode cL_deposit 9 = .ok (.astore_n 3, 1) := by decide +kernel
theorem dL_deposit_10 : decode cL_deposit 10 = .ok (.iconst 1, 1) := by decide +kernel
theorem dL_deposit_11 : decode cL_deposit 11 = .ok (.ireturn, 1) := by decide +kernel
theorem dL_deposit_12 : decode cL_deposit 12 = .ok (.iconst 0, 1) := by decide +kernel
theorem dL_deposit_13 : decode cL_deposit 13 = .ok (.ireturn, 1) := by decide +kernel
set_option maxRecDepth 20000 in
theorem ggL_examine_X8_examine : GoodIn wsL_examine wsX8_examine := goodIn_ca (goodIn_r _ [6, 7, 8, 9, 10, 11, 12, 5, 13, 14, 15, 16, 17, 18, 19, 20, 21] (by decide +kernel) (by decide +kernel)) (goodIn_sub (fun _ h => List.mem_cons_of_mem _ (List.mem_append_right _ h)) (by decide +kernel))
set_option maxRecDepth 20000 in
theorem gL_examine_X8_examine : GoodIn wsL_examine (wsV RL 15 RX8 yX8_examine wsX8_examine) := goodIn_app (goodIn_of _ (by decide +kernel)) ggL_examine_X8_examine
theorem dL_examine_0 : decode cL_examine 0 = .ok (.aload_n 2, 1) := by decide +kernel
theorem dL_examine_1 : decode cL_examine 1 = .ok (.iconst 0, 1) := by decide +kernel
theorem dL_examine_2 : decode cL_examine 2 = .ok (.aload_n 0, 1) := by decide +kernel
theorem dL_examine_3 : decode cL_examine 3 = .ok (.iload_n 1, 1) := by decide +kernel
theorem dL_examine_4 : decode cL_examine 4 = .ok (.invokevirtual 15, 3) := by decide +kernel
theorem dL_examine_7 : decode cL_examine 7 = .ok (.i2l, 1) := by decide +kernel
theorem dL_examine_8 : decode cL_examine 8 = .ok (.lastore, 1) := by decide +kernel
theorem dL_examine_9 : decode cL_examine 9 = .ok (.goto 6, 3) := by decide +kernel
theorem dL_examine_12 : decode cL_examine 12 = .ok (.astore_n 3, 1) := by decide +kernel
theorem dL_examine_13 : decode cL_examine 13 = .ok (.iconst 1, 1) := by decide +kernel
theorem dL_examine_14 : decode cL_examine 14 = .ok (.ireturn, 1) := by decide +kernel
theorem dL_examine_15 : decode cL_examine 15 = .ok (.iconst 0, 1) := by decide +kernel
theorem dL_examine_16 : decode cL_examine 16 = .ok (.ireturn, 1) := by decide +kernel
set_option maxRecDepth 20000 in
theorem ggL_set_X8_set : GoodIn wsL_set wsX8_set := goodIn_ca (goodIn_r _ [6, 7, 8, 9, 10, 11, 12, 13, 5, 14, 15, 16, 17, 18, 19, 20, 21, 22, 23, 24, 25, 26, 27, 28, 29, 30, 31, 32, 33, 34, 35] (by decide +kernel) (by decide +kernel)) (goodIn_sub (fun _ h => List.mem_cons_of_mem _ (List.mem_append_right _ h)) (by decide +kernel))
set_option maxRecDepth 20000 in
theorem gL_set_X8_set : GoodIn wsL_set (wsV RL 19 RX8 yX8_set wsX8_set) := goodIn_app (goodIn_of _ (by decide +kernel)) ggL_set_X8_set
theorem dL_set_0 : decode cL_set 0 = .ok (.aload_n 0, 1) := by decide +kernel
theorem dL_set_1 : decode cL_set 1 = .ok (.iload_n 1, 1) := by decide +kernel
theorem dL_set_2 : decode cL_set 2 = .ok (.iload_n 2, 1) := by decide +kernel
theorem dL_set_3 : decode cL_set 3 = .ok (.invokevirtual 19, 3) := by decide +kernel
theorem dL_set_6 : decode cL_set 6 = .ok (.goto 6, 3) := by decide +kernel
theorem dL_set_9 : decode cL_set 9 = .ok (.astore_n 3, 1) := by decide +kernel
theorem dL_set_10 : decode cL_set 10 = .ok (.iconst 1, 1) := by decide +kernel
theorem dL_set_11 : decode cL_set 11 = .ok (.ireturn, 1) := by decide +kernel
theorem dL_set_12 : decode cL_set 12 = .ok (.iconst 0, 1) := by decide +kernel
theorem dL_set_13 : decode cL_set 13 = .ok (.ireturn, 1) := by decide +kernel
set_option maxRecDepth 20000 in
theorem ggL_register_X8_register : GoodIn wsL_register wsX8_register := goodIn_ca (goodIn_r _ [6, 7, 8, 9, 10, 11, 12, 13, 14, 15, 16, 17, 18, 19, 20, 21, 22, 23, 24, 25, 26, 27, 28, 29, 30, 31, 32, 33] (by decide +kernel) (by decide +kernel)) (goodIn_sub (fun _ h => List.mem_cons_of_mem _ (List.mem_append_right _ h)) (by decide +kernel))
set_option maxRecDepth 20000 in
theorem gL_register_X8_register : GoodIn wsL_register (wsV RL 22 RX8 yX8_register wsX8_register) := goodIn_app (goodIn_of _ (by decide +kernel)) ggL_register_X8_register
theorem dL_register_0 : decode cL_register 0 = .ok (.aload_n 2, 1) := by decide +kernel
theorem dL_register_1 : decode cL_register 1 = .ok (.iconst 0, 1) := by decide +kernel
theorem dL_register_2 : decode cL_register 2 = .ok (.aload_n 0, 1) := by decide +kernel
theorem dL_register_3 : decode cL_register 3 = .ok (.iload_n 1, 1) := by decide +kernel
theorem dL_register_4 : decode cL_register 4 = .ok (.invokevirtual 22, 3) := by decide +kernel
theorem dL_register_7 : decode cL_register 7 = .ok (.i2l, 1) := by decide +kernel
theorem dL_register_8 : decode cL_register 8 = .ok (.lastore, 1) := by decide +kernel
theorem dL_register_9 : decode cL_register 9 = .ok (.goto 6, 3) := by decide +kernel
theorem dL_register_12 : decode cL_register 12 = .ok (.astore_n 3, 1) := by decide +kernel
theorem dL_register_13 : decode cL_register 13 = .ok (.iconst 1, 1) := by decide +kernel
theorem dL_register_14 : decode cL_register 14 = .ok (.ireturn, 1) := by decide +kernel
theorem dL_register_15 : decode cL_register 15 = .ok (.iconst 0, 1) := by decide +kernel
theorem dL_register_16 : decode cL_register 16 = .ok (.ireturn, 1) := by decide +kernel
set_option maxRecDepth 20000 in
theorem ggL_start_X8_start : GoodIn wsL_start wsX8_start := goodIn_ca (goodIn_r _ [6, 7, 8, 9, 10, 11, 12, 13, 14, 5, 15, 16, 17, 18, 19, 20, 21, 22, 23, 24, 25, 26, 27, 28, 29, 30, 31, 32, 33, 34, 35, 36, 37, 38] (by decide +kernel) (by decide +kernel)) (goodIn_sub (fun _ h => List.mem_cons_of_mem _ (List.mem_append_right _ h)) (by decide +kernel))
set_option maxRecDepth 20000 in
theorem gL_start_X8_start : GoodIn wsL_start (wsV RL 25 RX8 yX8_start wsX8_start) := goodIn_app (goodIn_of _ (by decide +kernel)) ggL_start_X8_start
theorem dL_start_0 : decode cL_start 0 = .ok (.aload_n 0, 1) := by decide +kernel
theorem dL_start_1 : decode cL_start 1 = .ok (.iload_n 1, 1) := by decide +kernel
theorem dL_start_2 : decode cL_start 2 = .ok (.invokevirtual 25, 3) := by decide +kernel
theorem dL_start_5 : decode cL_start 5 = .ok (.goto 6, 3) := by decide +kernel
theorem dL_start_8 : decode cL_start 8 = .ok (.astore_n 2, 1) := by decide +kernel
theorem dL_start_9 : decode cL_start 9 = .ok (.iconst 1, 1) := by decide +kernel
theorem dL_start_10 : decode cL_start 10 = .ok (.ireturn, 1) := by decide +kernel
theorem dL_start_11 : decode cL_start 11 = .ok (.iconst 0, 1) := by decide +kernel
theorem dL_start_12 : decode cL_start 12 = .ok (.ireturn, 1) := by decide +kernel
theorem dL_run_0 : decode cL_run 0 = .ok (.aload_n 2, 1) := by decide +kernel
theorem dL_run_1 : decode cL_run 1 = .ok (.iconst 0, 1) := by decide +kernel
theorem dL_run_2 : decode cL_run 2 = .ok (.aload_n 0, 1) := by decide +kernel
theorem dL_run_3 : decode cL_run 3 = .ok (.iload_n 1, 1) := by decide +kernel
theorem dL_run_4 : decode cL_run 4 = .ok (.invokevirtual 29, 3) := by decide +kernel
theorem dL_run_7 : decode cL_run 7 = .ok (.i2l, 1) := by decide +kernel
theorem dL_run_8 : decode cL_run 8 = .ok (.lastore, 1) := by decide +kernel
theorem dL_run_9 : decode cL_run 9 = .ok (.goto 9, 3) := by decide +kernel
theorem dL_run_12 : decode cL_run 12 = .ok (.astore_n 3, 1) := by decide +kernel
theorem dL_run_13 : decode cL_run 13 = .ok (.iconst 1, 1) := by decide +kernel
theorem dL_run_14 : decode cL_run 14 = .ok (.ireturn, 1) := by decide +kernel
theorem dL_run_15 : decode cL_run 15 = .ok (.astore_n 3, 1) := by decide +kernel
theorem dL_run_16 : decode cL_run 16 = .ok (.iconst 2, 1) := by decide +kernel
theorem dL_run_17 : decode cL_run 17 = .ok (.ireturn, 1) := by decide +kernel
theorem dL_run_18 : decode cL_run 18 = .ok (.iconst 0, 1) := by decide +kernel
theorem dL_run_19 : decode cL_run 19 = .ok (.ireturn, 1) := by decide +kernel
set_option maxRecDepth 20000 in
theorem ggL_key_X8_key : GoodIn wsL_key wsX8_key := goodIn_ca (goodIn_r _ [6, 7, 8, 9, 10, 11, 12, 13, 14, 15, 16, 17, 18, 19, 20, 21, 22, 23, 24, 25, 26, 27, 28, 29, 30, 31, 32, 33, 34, 35, 36, 37, 38, 39, 40, 41, 42, 43, 44, 45, 46, 47, 48, 49, 50, 51, 52, 53, 54] (by decide +kernel) (by decide +kernel)) (goodIn_sub (fun _ h => List.mem_cons_of_mem _ (List.mem_append_right _ h)) (by decide +kernel))
set_option maxRecDepth 20000 in
theorem gL_key_X8_key : GoodIn wsL_key (wsV RL 34 RX8 yX8_key wsX8_key) := goodIn_app (goodIn_of _ (by decide +kernel)) ggL_key_X8_key
theorem dL_key_0 : decode cL_key 0 = .ok (.aload_n 0, 1) := by decide +kernel
theorem dL_key_1 : decode cL_key 1 = .ok (.iload_n 1, 1) := by decide +kernel
theorem dL_key_2 : decode cL_key 2 = .ok (.invokevirtual 34, 3) := by decide +kernel
theorem dL_key_5 : decode cL_key 5 = .ok (.goto 6, 3) := by decide +kernel
theorem dL_key_8 : decode cL_key 8 = .ok (.astore_n 2, 1) := by decide +kernel
theorem dL_key_9 : decode cL_key 9 = .ok (.iconst 1, 1) := by decide +kernel
theorem dL_key_10 : decode cL_key 10 = .ok (.ireturn, 1) := by decide +kernel
theorem dL_key_11 : decode cL_key 11 = .ok (.iconst 0, 1) := by decide +kernel
theorem dL_key_12 : decode cL_key 12 = .ok (.ireturn, 1) := by decide +kernel
set_option maxRecDepth 20000 in
theorem ggL_printed_X8_printed : GoodIn wsL_printed wsX8_printed := goodIn_ca (goodIn_r _ [6, 7, 8, 9, 10, 11, 12, 13, 14, 15, 16, 17, 18, 19, 20, 21, 22, 23, 24, 25, 26, 27] (by decide +kernel) (by decide +kernel)) (goodIn_sub (fun _ h => List.mem_cons_of_mem _ (List.mem_append_right _ h)) (by decide +kernel))
set_option maxRecDepth 20000 in
theorem gL_printed_X8_printed : GoodIn wsL_printed (wsV RL 37 RX8 yX8_printed wsX8_printed) := goodIn_app (goodIn_of _ (by decide +kernel)) ggL_printed_X8_printed
theorem dL_printed_0 : decode cL_printed 0 = .ok (.aload_n 2, 1) := by decide +kernel
theorem dL_printed_1 : decode cL_printed 1 = .ok (.iconst 0, 1) := by decide +kernel
theorem dL_printed_2 : decode cL_printed 2 = .ok (.aload_n 0, 1) := by decide +kernel
theorem dL_printed_3 : decode cL_printed 3 = .ok (.iload_n 1, 1) := by decide +kernel
theorem dL_printed_4 : decode cL_printed 4 = .ok (.invokevirtual 37, 3) := by decide +kernel
theorem dL_printed_7 : decode cL_printed 7 = .ok (.i2l, 1) := by decide +kernel
theorem dL_printed_8 : decode cL_printed 8 = .ok (.lastore, 1) := by decide +kernel
theorem dL_printed_9 : decode cL_printed 9 = .ok (.goto 6, 3) := by decide +kernel
theorem dL_printed_12 : decode cL_printed 12 = .ok (.astore_n 3, 1) := by decide +kernel
theorem dL_printed_13 : decode cL_printed 13 = .ok (.iconst 1, 1) := by decide +kernel
theorem dL_printed_14 : decode cL_printed 14 = .ok (.ireturn, 1) := by decide +kernel
theorem dL_printed_15 : decode cL_printed 15 = .ok (.iconst 0, 1) := by decide +kernel
theorem dL_printed_16 : decode cL_printed 16 = .ok (.ireturn, 1) := by decide +kernel
set_option maxRecDepth 20000 in
theorem ggL_load_X8_load : GoodIn wsL_load wsX8_load := goodIn_ca (goodIn_r _ [6, 7, 8, 9, 10, 11, 12, 13, 5, 14, 15, 16, 17, 18, 19, 20, 21, 22, 23, 24, 25, 26, 27, 28, 29, 30, 31, 32, 33, 34, 35, 36] (by decide +kernel) (by decide +kernel)) (goodIn_sub (fun _ h => List.mem_cons_of_mem _ (List.mem_append_right _ h)) (by decide +kernel))
set_option maxRecDepth 20000 in
theorem gL_load_X8_load : GoodIn wsL_load (wsV RL 42 RX8 yX8_load wsX8_load) := goodIn_app (goodIn_of _ (by decide +kernel)) ggL_load_X8_load
theorem dL_load_0 : decode cL_load 0 = .ok (.aload_n 0, 1) := by decide +kernel
theorem dL_load_1 : decode cL_load 1 = .ok (.iload_n 1, 1) := by decide +kernel
theorem dL_load_2 : decode cL_load 2 = .ok (.iload_n 2, 1) := by decide +kernel
theorem dL_load_3 : decode cL_load 3 = .ok (.iload_n 3, 1) := by decide +kernel
theorem dL_load_4 : decode cL_load 4 = .ok (.invokevirtual 42, 3) := by decide +kernel
theorem dL_load_7 : decode cL_load 7 = .ok (.goto 7, 3) := by decide +kernel
theorem dL_load_10 : decode cL_load 10 = .ok (.astore 4, 2) := by decide +kernel
theorem dL_load_12 : decode cL_load 12 = .ok (.iconst 1, 1) := by decide +kernel
theorem dL_load_13 : decode cL_load 13 = .ok (.ireturn, 1) := by decide +kernel
theorem dL_load_14 : decode cL_load 14 = .ok (.iconst 0, 1) := by decide +kernel
theorem dL_load_15 : decode cL_load 15 = .ok (.ireturn, 1) := by decide +kernel
set_option maxRecDepth 20000 in
theorem ggL_disk_X8_disk : GoodIn wsL_disk wsX8_disk := goodIn_ca (goodIn_r _ [6, 7, 8, 9, 10, 11, 12, 13, 5, 14, 15, 16, 17, 18, 19, 20, 21, 22, 23, 24, 25, 26, 27, 28, 29, 30, 31, 32] (by decide +kernel) (by decide +kernel)) (goodIn_sub (fun _ h => List.mem_cons_of_mem _ (List.mem_append_right _ h)) (by decide +kernel))
set_option maxRecDepth 20000 in
theorem gL_disk_X8_disk : GoodIn wsL_disk (wsV RL 46 RX8 yX8_disk wsX8_disk) := goodIn_app (goodIn_of _ (by decide +kernel)) ggL_disk_X8_disk
theorem dL_disk_0 : decode cL_disk 0 = .ok (.aload_n 3, 1) := by decide +kernel
theorem dL_disk_1 : decode cL_disk 1 = .ok (.iconst 0, 1) := by decide +kernel
theorem dL_disk_2 : decode cL_disk 2 = .ok (.aload_n 0, 1) := by decide +kernel
theorem dL_disk_3 : decode cL_disk 3 = .ok (.iload_n 1, 1) := by decide +kernel
theorem dL_disk_4 : decode cL_disk 4 = .ok (.iload_n 2, 1) := by decide +kernel
theorem dL_disk_5 : decode cL_disk 5 = .ok (.invokevirtual 46, 3) := by decide +kernel
theorem dL_disk_8 : decode cL_disk 8 = .ok (.i2l, 1) := by decide +kernel
theorem dL_disk_9 : decode cL_disk 9 = .ok (.lastore, 1) := by decide +kernel
theorem dL_disk_10 : decode cL_disk 10 = .ok (.goto 7, 3) := by decide +kernel
theorem dL_disk_13 : decode cL_disk 13 = .ok (.astore 4, 2) := by decide +kernel
theorem dL_disk_15 : decode cL_disk 15 = .ok (.iconst 1, 1) := by decide +kernel
theorem dL_disk_16 : decode cL_disk 16 = .ok (.ireturn, 1) := by decide +kernel
theorem dL_disk_17 : decode cL_disk 17 = .ok (.iconst 0, 1) := by decide +kernel
theorem dL_disk_18 : decode cL_disk 18 = .ok (.ireturn, 1) := by decide +kernel
theorem dL_law_0 : decode cL_law 0 = .ok (.new 8, 3) := by decide +kernel
theorem dL_law_3 : decode cL_law 3 = .ok (.dup, 1) := by decide +kernel
theorem dL_law_4 : decode cL_law 4 = .ok (.invokespecial 50, 3) := by decide +kernel
theorem dL_law_7 : decode cL_law 7 = .ok (.astore_n 1, 1) := by decide +kernel
theorem dL_law_8 : decode cL_law 8 = .ok (.new 51, 3) := by decide +kernel
theorem dL_law_11 : decode cL_law 11 = .ok (.dup, 1) := by decide +kernel
theorem dL_law_12 : decode cL_law 12 = .ok (.invokespecial 53, 3) := by decide +kernel
theorem dL_law_15 : decode cL_law 15 = .ok (.astore_n 2, 1) := by decide +kernel
theorem dL_law_16 : decode cL_law 16 = .ok (.iconst 1, 1) := by decide +kernel
theorem dL_law_17 : decode cL_law 17 = .ok (.newarray .long, 2) := by decide +kernel
theorem dL_law_19 : decode cL_law 19 = .ok (.astore_n 3, 1) := by decide +kernel
theorem dL_law_20 : decode cL_law 20 = .ok (.iconst 0, 1) := by decide +kernel
theorem dL_law_21 : decode cL_law 21 = .ok (.istore 4, 2) := by decide +kernel
theorem dL_law_23 : decode cL_law 23 = .ok (.iload 4, 2) := by decide +kernel
theorem dL_law_25 : decode cL_law 25 = .ok (.aload_n 0, 1) := by decide +kernel
theorem dL_law_26 : decode cL_law 26 = .ok (.arraylength, 1) := by decide +kernel
theorem dL_law_27 : decode cL_law 27 = .ok (.iconst 4, 1) := by decide +kernel
theorem dL_law_28 : decode cL_law 28 = .ok (.isub, 1) := by decide +kernel
theorem dL_law_29 : decode cL_law 29 = .ok (.if_icmp .gt 635, 3) := by decide +kernel
theorem dL_law_32 : decode cL_law 32 = .ok (.aload_n 0, 1) := by decide +kernel
theorem dL_law_33 : decode cL_law 33 = .ok (.iload 4, 2) := by decide +kernel
theorem dL_law_35 : decode cL_law 35 = .ok (.iaload, 1) := by decide +kernel
theorem dL_law_36 : decode cL_law 36 = .ok (.bipush 15, 2) := by decide +kernel
theorem dL_law_38 : decode cL_law 38 = .ok (.iand, 1) := by decide +kernel
theorem dL_law_39 : decode cL_law 39 = .ok (.tableswitch 619 0 11 #[61, 109, 165, 213, 269, 305, 361, 397, 453, 513, 581, 606], 61) := by decide +kernel
theorem dL_law_100 : decode cL_law 100 = .ok (.aload_n 1, 1) := by decide +kernel
theorem dL_law_101 : decode cL_law 101 = .ok (.aload_n 0, 1) := by decide +kernel
theorem dL_law_102 : decode cL_law 102 = .ok (.iload 4, 2) := by decide +kernel
theorem dL_law_104 : decode cL_law 104 = .ok (.iconst 1, 1) := by decide +kernel
theorem dL_law_105 : decode cL_law 105 = .ok (.iadd, 1) := by decide +kernel
theorem dL_law_106 : decode cL_law 106 = .ok (.iaload, 1) := by decide +kernel
theorem dL_law_107 : decode cL_law 107 = .ok (.aload_n 0, 1) := by decide +kernel
theorem dL_law_108 : decode cL_law 108 = .ok (.iload 4, 2) := by decide +kernel
theorem dL_law_110 : decode cL_law 110 = .ok (.iconst 2, 1) := by decide +kernel
theorem dL_law_111 : decode cL_law 111 = .ok (.iadd, 1) := by decide +kernel
theorem dL_law_112 : decode cL_law 112 = .ok (.iaload, 1) := by decide +kernel
theorem dL_law_113 : decode cL_law 113 = .ok (.invokestatic 54, 3) := by decide +kernel
theorem dL_law_116 : decode cL_law 116 = .ok (.istore 5, 2) := by decide +kernel
theorem dL_law_118 : decode cL_law 118 = .ok (.aload_n 2, 1) := by decide +kernel
theorem dL_law_119 : decode cL_law 119 = .ok (.aload_n 0, 1) := by decide +kernel
theorem dL_law_120 : decode cL_law 120 = .ok (.iload 4, 2) := by decide +kernel
theorem dL_law_122 : decode cL_law 122 = .ok (.iconst 1, 1) := by decide +kernel
theorem dL_law_123 : decode cL_law 123 = .ok (.iadd, 1) := by decide +kernel
theorem dL_law_124 : decode cL_law 124 = .ok (.iaload, 1) := by decide +kernel
theorem dL_law_125 : decode cL_law 125 = .ok (.aload_n 0, 1) := by decide +kernel
theorem dL_law_126 : decode cL_law 126 = .ok (.iload 4, 2) := by decide +kernel
theorem dL_law_128 : decode cL_law 128 = .ok (.iconst 2, 1) := by decide +kernel
theorem dL_law_129 : decode cL_law 129 = .ok (.iadd, 1) := by decide +kernel
theorem dL_law_130 : decode cL_law 130 = .ok (.iaload, 1) := by decide +kernel
theorem dL_law_131 : decode cL_law 131 = .ok (.invokevirtual 59, 3) := by decide +kernel
theorem dL_law_134 : decode cL_law 134 = .ok (.aload_n 2, 1) := by decide +kernel
theorem dL_law_135 : decode cL_law 135 = .ok (.invokevirtual 60, 3) := by decide +kernel
theorem dL_law_138 : decode cL_law 138 = .ok (.iload 5, 2) := by decide +kernel
theorem dL_law_140 : decode cL_law 140 = .ok (.if_icmp .eq 5, 3) := by decide +kernel
theorem dL_law_143 : decode cL_law 143 = .ok (.iconst 0, 1) := by decide +kernel
theorem dL_law_144 : decode cL_law 144 = .ok (.ireturn, 1) := by decide +kernel
theorem dL_law_145 : decode cL_law 145 = .ok (.goto 513, 3) := by decide +kernel
theorem dL_law_148 : decode cL_law 148 = .ok (.aload_n 1, 1) := by decide +kernel
theorem dL_law_149 : decode cL_law 149 = .ok (.aload_n 0, 1) := by decide +kernel
theorem dL_law_150 : decode cL_law 150 = .ok (.iload 4, 2) := by decide +kernel
theorem dL_law_152 : decode cL_law 152 = .ok (.iconst 1, 1) := by decide +kernel
theorem dL_law_153 : decode cL_law 153 = .ok (.iadd, 1) := by decide +kernel
theorem dL_law_154 : decode cL_law 154 = .ok (.iaload, 1) := by decide +kernel
theorem dL_law_155 : decode cL_law 155 = .ok (.aload_n 3, 1) := by decide +kernel
theorem dL_law_156 : decode cL_law 156 = .ok (.invokestatic 64, 3) := by decide +kernel
theorem dL_law_159 : decode cL_law 159 = .ok (.istore 5, 2) := by decide +kernel
theorem dL_law_161 : decode cL_law 161 = .ok (.aload_n 2, 1) := by decide +kernel
theorem dL_law_162 : decode cL_law 162 = .ok (.aload_n 0, 1) := by decide +kernel
theorem dL_law_163 : decode cL_law 163 = .ok (.iload 4, 2) := by decide +kernel
theorem dL_law_165 : decode cL_law 165 = .ok (.iconst 1, 1) := by decide +kernel
theorem dL_law_166 : decode cL_law 166 = .ok (.iadd, 1) := by decide +kernel
theorem dL_law_167 : decode cL_law 167 = .ok (.iaload, 1) := by decide +kernel
theorem dL_law_168 : decode cL_law 168 = .ok (.invokevirtual 67, 3) := by decide +kernel
theorem dL_law_171 : decode cL_law 171 = .ok (.istore 6, 2) := by decide +kernel
theorem dL_law_173 : decode cL_law 173 = .ok (.aload_n 2, 1) := by decide +kernel
theorem dL_law_174 : decode cL_law 174 = .ok (.invokevirtual 60, 3) := by decide +kernel
theorem dL_law_177 : decode cL_law 177 = .ok (.iload 5, 2) := by decide +kernel
theorem dL_law_179 : decode cL_law 179 = .ok (.if_icmp .eq 5, 3) := by decide +kernel
theorem dL_law_182 : decode cL_law 182 = .ok (.iconst 0, 1) := by decide +kernel
theorem dL_law_183 : decode cL_law 183 = .ok (.ireturn, 1) := by decide +kernel
theorem dL_law_184 : decode cL_law 184 = .ok (.iload 5, 2) := by decide +kernel
theorem dL_law_186 : decode cL_law 186 = .ok (.ifCond .ne 15, 3) := by decide +kernel
theorem dL_law_189 : decode cL_law 189 = .ok (.aload_n 3, 1) := by decide +kernel
theorem dL_law_190 : decode cL_law 190 = .ok (.iconst 0, 1) := by decide +kernel
theorem dL_law_191 : decode cL_law 191 = .ok (.laload, 1) := by decide +kernel
theorem dL_law_192 : decode cL_law 192 = .ok (.iload 6, 2) := by decide +kernel
theorem dL_law_194 : decode cL_law 194 = .ok (.i2l, 1) := by decide +kernel
theorem dL_law_195 : decode cL_law 195 = .ok (.lcmp, 1) := by decide +kernel
theorem dL_law_196 : decode cL_law 196 = .ok (.ifCond .eq 5, 3) := by decide +kernel
theorem dL_law_199 : decode cL_law 199 = .ok (.iconst 0, 1) := by decide +kernel
theorem dL_law_200 : decode cL_law 200 = .ok (.ireturn, 1) := by decide +kernel
theorem dL_law_201 : decode cL_law 201 = .ok (.goto 457, 3) := by decide +kernel
theorem dL_law_204 : decode cL_law 204 = .ok (.aload_n 1, 1) := by decide +kernel
theorem dL_law_205 : decode cL_law 205 = .ok (.aload_n 0, 1) := by decide +kernel
theorem dL_law_206 : decode cL_law 206 = .ok (.iload 4, 2) := by decide +kernel
theorem dL_law_208 : decode cL_law 208 = .ok (.iconst 1, 1) := by decide +kernel
theorem dL_law_209 : decode cL_law 209 = .ok (.iadd, 1) := by decide +kernel
theorem dL_law_210 : decode cL_law 210 = .ok (.iaload, 1) := by decide +kernel
theorem dL_law_211 : decode cL_law 211 = .ok (.aload_n 0, 1) := by decide +kernel
theorem dL_law_212 : decode cL_law 212 = .ok (.iload 4, 2) := by decide +kernel
theorem dL_law_214 : decode cL_law 214 = .ok (.iconst 2, 1) := by decide +kernel
theorem dL_law_215 : decode cL_law 215 = .ok (.iadd, 1) := by decide +kernel
theorem dL_law_216 : decode cL_law 216 = .ok (.iaload, 1) := by decide +kernel
theorem dL_law_217 : decode cL_law 217 = .ok (.invokestatic 68, 3) := by decide +kernel
theorem dL_law_220 : decode cL_law 220 = .ok (.istore 5, 2) := by decide +kernel
theorem dL_law_222 : decode cL_law 222 = .ok (.aload_n 2, 1) := by decide +kernel
theorem dL_law_223 : decode cL_law 223 = .ok (.aload_n 0, 1) := by decide +kernel
theorem dL_law_224 : decode cL_law 224 = .ok (.iload 4, 2) := by decide +kernel
theorem dL_law_226 : decode cL_law 226 = .ok (.iconst 1, 1) := by decide +kernel
theorem dL_law_227 : decode cL_law 227 = .ok (.iadd, 1) := by decide +kernel
theorem dL_law_228 : decode cL_law 228 = .ok (.iaload, 1) := by decide +kernel
theorem dL_law_229 : decode cL_law 229 = .ok (.aload_n 0, 1) := by decide +kernel
theorem dL_law_230 : decode cL_law 230 = .ok (.iload 4, 2) := by decide +kernel
theorem dL_law_232 : decode cL_law 232 = .ok (.iconst 2, 1) := by decide +kernel
theorem dL_law_233 : decode cL_law 233 = .ok (.iadd, 1) := by decide +kernel
theorem dL_law_234 : decode cL_law 234 = .ok (.iaload, 1) := by decide +kernel
theorem dL_law_235 : decode cL_law 235 = .ok (.invokevirtual 70, 3) := by decide +kernel
theorem dL_law_238 : decode cL_law 238 = .ok (.aload_n 2, 1) := by decide +kernel
theorem dL_law_239 : decode cL_law 239 = .ok (.invokevirtual 60, 3) := by decide +kernel
theorem dL_law_242 : decode cL_law 242 = .ok (.iload 5, 2) := by decide +kernel
theorem dL_law_244 : decode cL_law 244 = .ok (.if_icmp .eq 5, 3) := by decide +kernel
theorem dL_law_247 : decode cL_law 247 = .ok (.iconst 0, 1) := by decide +kernel
theorem dL_law_248 : decode cL_law 248 = .ok (.ireturn, 1) := by decide +kernel
theorem dL_law_249 : decode cL_law 249 = .ok (.goto 409, 3) := by decide +kernel
theorem dL_law_252 : decode cL_law 252 = .ok (.aload_n 1, 1) := by decide +kernel
theorem dL_law_253 : decode cL_law 253 = .ok (.aload_n 0, 1) := by decide +kernel
theorem dL_law_254 : decode cL_law 254 = .ok (.iload 4, 2) := by decide +kernel
theorem dL_law_256 : decode cL_law 256 = .ok (.iconst 1, 1) := by decide +kernel
theorem dL_law_257 : decode cL_law 257 = .ok (.iadd, 1) := by decide +kernel
theorem dL_law_258 : decode cL_law 258 = .ok (.iaload, 1) := by decide +kernel
theorem dL_law_259 : decode cL_law 259 = .ok (.aload_n 3, 1) := by decide +kernel
theorem dL_law_260 : decode cL_law 260 = .ok (.invokestatic 71, 3) := by decide +kernel
theorem dL_law_263 : decode cL_law 263 = .ok (.istore 5, 2) := by decide +kernel
theorem dL_law_265 : decode cL_law 265 = .ok (.aload_n 2, 1) := by decide +kernel
theorem dL_law_266 : decode cL_law 266 = .ok (.aload_n 0, 1) := by decide +kernel
theorem dL_law_267 : decode cL_law 267 = .ok (.iload 4, 2) := by decide +kernel
theorem dL_law_269 : decode cL_law 269 = .ok (.iconst 1, 1) := by decide +kernel
theorem dL_law_270 : decode cL_law 270 = .ok (.iadd, 1) := by decide +kernel
theorem dL_law_271 : decode cL_law 271 = .ok (.iaload, 1) := by decide +kernel
theorem dL_law_272 : decode cL_law 272 = .ok (.invokevirtual 73, 3) := by decide +kernel
theorem dL_law_275 : decode cL_law 275 = .ok (.istore 6, 2) := by decide +kernel
theorem dL_law_277 : decode cL_law 277 = .ok (.aload_n 2, 1) := by decide +kernel
theorem dL_law_278 : decode cL_law 278 = .ok (.invokevirtual 60, 3) := by decide +kernel
theorem dL_law_281 : decode cL_law 281 = .ok (.iload 5, 2) := by decide +kernel
theorem dL_law_283 : decode cL_law 283 = .ok (.if_icmp .eq 5, 3) := by decide +kernel
theorem dL_law_286 : decode cL_law 286 = .ok (.iconst 0, 1) := by decide +kernel
theorem dL_law_287 : decode cL_law 287 = .ok (.ireturn, 1) := by decide +kernel
theorem dL_law_288 : decode cL_law 288 = .ok (.iload 5, 2) := by decide +kernel
theorem dL_law_290 : decode cL_law 290 = .ok (.ifCond .ne 15, 3) := by decide +kernel
theorem dL_law_293 : decode cL_law 293 = .ok (.aload_n 3, 1) := by decide +kernel
theorem dL_law_294 : decode cL_law 294 = .ok (.iconst 0, 1) := by decide +kernel
theorem dL_law_295 : decode cL_law 295 = .ok (.laload, 1) := by decide +kernel
theorem dL_law_296 : decode cL_law 296 = .ok (.iload 6, 2) := by decide +kernel
theorem dL_law_298 : decode cL_law 298 = .ok (.i2l, 1) := by decide +kernel
theorem dL_law_299 : decode cL_law 299 = .ok (.lcmp, 1) := by decide +kernel
theorem dL_law_300 : decode cL_law 300 = .ok (.ifCond .eq 5, 3) := by decide +kernel
theorem dL_law_303 : decode cL_law 303 = .ok (.iconst 0, 1) := by decide +kernel
theorem dL_law_304 : decode cL_law 304 = .ok (.ireturn, 1) := by decide +kernel
theorem dL_law_305 : decode cL_law 305 = .ok (.goto 353, 3) := by decide +kernel
theorem dL_law_308 : decode cL_law 308 = .ok (.aload_n 1, 1) := by decide +kernel
theorem dL_law_309 : decode cL_law 309 = .ok (.aload_n 0, 1) := by decide +kernel
theorem dL_law_310 : decode cL_law 310 = .ok (.iload 4, 2) := by decide +kernel
theorem dL_law_312 : decode cL_law 312 = .ok (.iconst 1, 1) := by decide +kernel
theorem dL_law_313 : decode cL_law 313 = .ok (.iadd, 1) := by decide +kernel
theorem dL_law_314 : decode cL_law 314 = .ok (.iaload, 1) := by decide +kernel
theorem dL_law_315 : decode cL_law 315 = .ok (.invokestatic 74, 3) := by decide +kernel
theorem dL_law_318 : decode cL_law 318 = .ok (.istore 5, 2) := by decide +kernel
theorem dL_law_320 : decode cL_law 320 = .ok (.aload_n 2, 1) := by decide +kernel
theorem dL_law_321 : decode cL_law 321 = .ok (.aload_n 0, 1) := by decide +kernel
theorem dL_law_322 : decode cL_law 322 = .ok (.iload 4, 2) := by decide +kernel
theorem dL_law_324 : decode cL_law 324 = .ok (.iconst 1, 1) := by decide +kernel
theorem dL_law_325 : decode cL_law 325 = .ok (.iadd, 1) := by decide +kernel
theorem dL_law_326 : decode cL_law 326 = .ok (.iaload, 1) := by decide +kernel
theorem dL_law_327 : decode cL_law 327 = .ok (.invokevirtual 77, 3) := by decide +kernel
theorem dL_law_330 : decode cL_law 330 = .ok (.aload_n 2, 1) := by decide +kernel
theorem dL_law_331 : decode cL_law 331 = .ok (.invokevirtual 60, 3) := by decide +kernel
theorem dL_law_334 : decode cL_law 334 = .ok (.iload 5, 2) := by decide +kernel
theorem dL_law_336 : decode cL_law 336 = .ok (.if_icmp .eq 5, 3) := by decide +kernel
theorem dL_law_339 : decode cL_law 339 = .ok (.iconst 0, 1) := by decide +kernel
theorem dL_law_340 : decode cL_law 340 = .ok (.ireturn, 1) := by decide +kernel
theorem dL_law_341 : decode cL_law 341 = .ok (.goto 317, 3) := by decide +kernel
theorem dL_law_344 : decode cL_law 344 = .ok (.aload_n 1, 1) := by decide +kernel
theorem dL_law_345 : decode cL_law 345 = .ok (.aload_n 0, 1) := by decide +kernel
theorem dL_law_346 : decode cL_law 346 = .ok (.iload 4, 2) := by decide +kernel
theorem dL_law_348 : decode cL_law 348 = .ok (.iconst 1, 1) := by decide +kernel
theorem dL_law_349 : decode cL_law 349 = .ok (.iadd, 1) := by decide +kernel
theorem dL_law_350 : decode cL_law 350 = .ok (.iaload, 1) := by decide +kernel
theorem dL_law_351 : decode cL_law 351 = .ok (.aload_n 3, 1) := by decide +kernel
theorem dL_law_352 : decode cL_law 352 = .ok (.invokestatic 78, 3) := by decide +kernel
theorem dL_law_355 : decode cL_law 355 = .ok (.istore 5, 2) := by decide +kernel
theorem dL_law_357 : decode cL_law 357 = .ok (.aload_n 2, 1) := by decide +kernel
theorem dL_law_358 : decode cL_law 358 = .ok (.aload_n 0, 1) := by decide +kernel
theorem dL_law_359 : decode cL_law 359 = .ok (.iload 4, 2) := by decide +kernel
theorem dL_law_361 : decode cL_law 361 = .ok (.iconst 1, 1) := by decide +kernel
theorem dL_law_362 : decode cL_law 362 = .ok (.iadd, 1) := by decide +kernel
theorem dL_law_363 : decode cL_law 363 = .ok (.iaload, 1) := by decide +kernel
theorem dL_law_364 : decode cL_law 364 = .ok (.invokevirtual 80, 3) := by decide +kernel
theorem dL_law_367 : decode cL_law 367 = .ok (.istore 6, 2) := by decide +kernel
theorem dL_law_369 : decode cL_law 369 = .ok (.aload_n 2, 1) := by decide +kernel
theorem dL_law_370 : decode cL_law 370 = .ok (.invokevirtual 60, 3) := by decide +kernel
theorem dL_law_373 : decode cL_law 373 = .ok (.iload 5, 2) := by decide +kernel
theorem dL_law_375 : decode cL_law 375 = .ok (.if_icmp .eq 5, 3) := by decide +kernel
theorem dL_law_378 : decode cL_law 378 = .ok (.iconst 0, 1) := by decide +kernel
theorem dL_law_379 : decode cL_law 379 = .ok (.ireturn, 1) := by decide +kernel
theorem dL_law_380 : decode cL_law 380 = .ok (.iload 5, 2) := by decide +kernel
theorem dL_law_382 : decode cL_law 382 = .ok (.ifCond .ne 15, 3) := by decide +kernel
theorem dL_law_385 : decode cL_law 385 = .ok (.aload_n 3, 1) := by decide +kernel
theorem dL_law_386 : decode cL_law 386 = .ok (.iconst 0, 1) := by decide +kernel
theorem dL_law_387 : decode cL_law 387 = .ok (.laload, 1) := by decide +kernel
theorem dL_law_388 : decode cL_law 388 = .ok (.iload 6, 2) := by decide +kernel
theorem dL_law_390 : decode cL_law 390 = .ok (.i2l, 1) := by decide +kernel
theorem dL_law_391 : decode cL_law 391 = .ok (.lcmp, 1) := by decide +kernel
theorem dL_law_392 : decode cL_law 392 = .ok (.ifCond .eq 5, 3) := by decide +kernel
theorem dL_law_395 : decode cL_law 395 = .ok (.iconst 0, 1) := by decide +kernel
theorem dL_law_396 : decode cL_law 396 = .ok (.ireturn, 1) := by decide +kernel
theorem dL_law_397 : decode cL_law 397 = .ok (.goto 261, 3) := by decide +kernel
theorem dL_law_400 : decode cL_law 400 = .ok (.aload_n 1, 1) := by decide +kernel
theorem dL_law_401 : decode cL_law 401 = .ok (.aload_n 0, 1) := by decide +kernel
theorem dL_law_402 : decode cL_law 402 = .ok (.iload 4, 2) := by decide +kernel
theorem dL_law_404 : decode cL_law 404 = .ok (.iconst 1, 1) := by decide +kernel
theorem dL_law_405 : decode cL_law 405 = .ok (.iadd, 1) := by decide +kernel
theorem dL_law_406 : decode cL_law 406 = .ok (.iaload, 1) := by decide +kernel
theorem dL_law_407 : decode cL_law 407 = .ok (.invokestatic 81, 3) := by decide +kernel
theorem dL_law_410 : decode cL_law 410 = .ok (.istore 5, 2) := by decide +kernel
theorem dL_law_412 : decode cL_law 412 = .ok (.aload_n 2, 1) := by decide +kernel
theorem dL_law_413 : decode cL_law 413 = .ok (.aload_n 0, 1) := by decide +kernel
theorem dL_law_414 : decode cL_law 414 = .ok (.iload 4, 2) := by decide +kernel
theorem dL_law_416 : decode cL_law 416 = .ok (.iconst 1, 1) := by decide +kernel
theorem dL_law_417 : decode cL_law 417 = .ok (.iadd, 1) := by decide +kernel
theorem dL_law_418 : decode cL_law 418 = .ok (.iaload, 1) := by decide +kernel
theorem dL_law_419 : decode cL_law 419 = .ok (.invokevirtual 83, 3) := by decide +kernel
theorem dL_law_422 : decode cL_law 422 = .ok (.aload_n 2, 1) := by decide +kernel
theorem dL_law_423 : decode cL_law 423 = .ok (.invokevirtual 60, 3) := by decide +kernel
theorem dL_law_426 : decode cL_law 426 = .ok (.iload 5, 2) := by decide +kernel
theorem dL_law_428 : decode cL_law 428 = .ok (.if_icmp .eq 5, 3) := by decide +kernel
theorem dL_law_431 : decode cL_law 431 = .ok (.iconst 0, 1) := by decide +kernel
theorem dL_law_432 : decode cL_law 432 = .ok (.ireturn, 1) := by decide +kernel
theorem dL_law_433 : decode cL_law 433 = .ok (.goto 225, 3) := by decide +kernel
theorem dL_law_436 : decode cL_law 436 = .ok (.aload_n 1, 1) := by decide +kernel
theorem dL_law_437 : decode cL_law 437 = .ok (.aload_n 0, 1) := by decide +kernel
theorem dL_law_438 : decode cL_law 438 = .ok (.iload 4, 2) := by decide +kernel
theorem dL_law_440 : decode cL_law 440 = .ok (.iconst 1, 1) := by decide +kernel
theorem dL_law_441 : decode cL_law 441 = .ok (.iadd, 1) := by decide +kernel
theorem dL_law_442 : decode cL_law 442 = .ok (.iaload, 1) := by decide +kernel
theorem dL_law_443 : decode cL_law 443 = .ok (.aload_n 3, 1) := by decide +kernel
theorem dL_law_444 : decode cL_law 444 = .ok (.invokestatic 84, 3) := by decide +kernel
theorem dL_law_447 : decode cL_law 447 = .ok (.istore 5, 2) := by decide +kernel
theorem dL_law_449 : decode cL_law 449 = .ok (.aload_n 2, 1) := by decide +kernel
theorem dL_law_450 : decode cL_law 450 = .ok (.aload_n 0, 1) := by decide +kernel
theorem dL_law_451 : decode cL_law 451 = .ok (.iload 4, 2) := by decide +kernel
theorem dL_law_453 : decode cL_law 453 = .ok (.iconst 1, 1) := by decide +kernel
theorem dL_law_454 : decode cL_law 454 = .ok (.iadd, 1) := by decide +kernel
theorem dL_law_455 : decode cL_law 455 = .ok (.iaload, 1) := by decide +kernel
theorem dL_law_456 : decode cL_law 456 = .ok (.invokevirtual 86, 3) := by decide +kernel
theorem dL_law_459 : decode cL_law 459 = .ok (.istore 6, 2) := by decide +kernel
theorem dL_law_461 : decode cL_law 461 = .ok (.aload_n 2, 1) := by decide +kernel
theorem dL_law_462 : decode cL_law 462 = .ok (.invokevirtual 60, 3) := by decide +kernel
theorem dL_law_465 : decode cL_law 465 = .ok (.iload 5, 2) := by decide +kernel
theorem dL_law_467 : decode cL_law 467 = .ok (.if_icmp .eq 5, 3) := by decide +kernel
theorem dL_law_470 : decode cL_law 470 = .ok (.iconst 0, 1) := by decide +kernel
theorem dL_law_471 : decode cL_law 471 = .ok (.ireturn, 1) := by decide +kernel
theorem dL_law_472 : decode cL_law 472 = .ok (.iload 5, 2) := by decide +kernel
theorem dL_law_474 : decode cL_law 474 = .ok (.ifCond .ne 15, 3) := by decide +kernel
theorem dL_law_477 : decode cL_law 477 = .ok (.aload_n 3, 1) := by decide +kernel
theorem dL_law_478 : decode cL_law 478 = .ok (.iconst 0, 1) := by decide +kernel
theorem dL_law_479 : decode cL_law 479 = .ok (.laload, 1) := by decide +kernel
theorem dL_law_480 : decode cL_law 480 = .ok (.iload 6, 2) := by decide +kernel
theorem dL_law_482 : decode cL_law 482 = .ok (.i2l, 1) := by decide +kernel
theorem dL_law_483 : decode cL_law 483 = .ok (.lcmp, 1) := by decide +kernel
theorem dL_law_484 : decode cL_law 484 = .ok (.ifCond .eq 5, 3) := by decide +kernel
theorem dL_law_487 : decode cL_law 487 = .ok (.iconst 0, 1) := by decide +kernel
theorem dL_law_488 : decode cL_law 488 = .ok (.ireturn, 1) := by decide +kernel
theorem dL_law_489 : decode cL_law 489 = .ok (.goto 169, 3) := by decide +kernel
theorem dL_law_492 : decode cL_law 492 = .ok (.aload_n 1, 1) := by decide +kernel
theorem dL_law_493 : decode cL_law 493 = .ok (.aload_n 0, 1) := by decide +kernel
theorem dL_law_494 : decode cL_law 494 = .ok (.iload 4, 2) := by decide +kernel
theorem dL_law_496 : decode cL_law 496 = .ok (.iconst 1, 1) := by decide +kernel
theorem dL_law_497 : decode cL_law 497 = .ok (.iadd, 1) := by decide +kernel
theorem dL_law_498 : decode cL_law 498 = .ok (.iaload, 1) := by decide +kernel
theorem dL_law_499 : decode cL_law 499 = .ok (.aload_n 0, 1) := by decide +kernel
theorem dL_law_500 : decode cL_law 500 = .ok (.iload 4, 2) := by decide +kernel
theorem dL_law_502 : decode cL_law 502 = .ok (.iconst 2, 1) := by decide +kernel
theorem dL_law_503 : decode cL_law 503 = .ok (.iadd, 1) := by decide +kernel
theorem dL_law_504 : decode cL_law 504 = .ok (.iaload, 1) := by decide +kernel
theorem dL_law_505 : decode cL_law 505 = .ok (.aload_n 0, 1) := by decide +kernel
theorem dL_law_506 : decode cL_law 506 = .ok (.iload 4, 2) := by decide +kernel
theorem dL_law_508 : decode cL_law 508 = .ok (.iconst 3, 1) := by decide +kernel
theorem dL_law_509 : decode cL_law 509 = .ok (.iadd, 1) := by decide +kernel
theorem dL_law_510 : decode cL_law 510 = .ok (.iaload, 1) := by decide +kernel
theorem dL_law_511 : decode cL_law 511 = .ok (.invokestatic 87, 3) := by decide +kernel
theorem dL_law_514 : decode cL_law 514 = .ok (.istore 5, 2) := by decide +kernel
theorem dL_law_516 : decode cL_law 516 = .ok (.aload_n 2, 1) := by decide +kernel
theorem dL_law_517 : decode cL_law 517 = .ok (.aload_n 0, 1) := by decide +kernel
theorem dL_law_518 : decode cL_law 518 = .ok (.iload 4, 2) := by decide +kernel
theorem dL_law_520 : decode cL_law 520 = .ok (.iconst 1, 1) := by decide +kernel
theorem dL_law_521 : decode cL_law 521 = .ok (.iadd, 1) := by decide +kernel
theorem dL_law_522 : decode cL_law 522 = .ok (.iaload, 1) := by decide +kernel
theorem dL_law_523 : decode cL_law 523 = .ok (.aload_n 0, 1) := by decide +kernel
theorem dL_law_524 : decode cL_law 524 = .ok (.iload 4, 2) := by decide +kernel
theorem dL_law_526 : decode cL_law 526 = .ok (.iconst 2, 1) := by decide +kernel
theorem dL_law_527 : decode cL_law 527 = .ok (.iadd, 1) := by decide +kernel
theorem dL_law_528 : decode cL_law 528 = .ok (.iaload, 1) := by decide +kernel
theorem dL_law_529 : decode cL_law 529 = .ok (.aload_n 0, 1) := by decide +kernel
theorem dL_law_530 : decode cL_law 530 = .ok (.iload 4, 2) := by decide +kernel
theorem dL_law_532 : decode cL_law 532 = .ok (.iconst 3, 1) := by decide +kernel
theorem dL_law_533 : decode cL_law 533 = .ok (.iadd, 1) := by decide +kernel
theorem dL_law_534 : decode cL_law 534 = .ok (.iaload, 1) := by decide +kernel
theorem dL_law_535 : decode cL_law 535 = .ok (.invokevirtual 90, 3) := by decide +kernel
theorem dL_law_538 : decode cL_law 538 = .ok (.aload_n 2, 1) := by decide +kernel
theorem dL_law_539 : decode cL_law 539 = .ok (.invokevirtual 60, 3) := by decide +kernel
theorem dL_law_542 : decode cL_law 542 = .ok (.iload 5, 2) := by decide +kernel
theorem dL_law_544 : decode cL_law 544 = .ok (.if_icmp .eq 5, 3) := by decide +kernel
theorem dL_law_547 : decode cL_law 547 = .ok (.iconst 0, 1) := by decide +kernel
theorem dL_law_548 : decode cL_law 548 = .ok (.ireturn, 1) := by decide +kernel
theorem dL_law_549 : decode cL_law 549 = .ok (.goto 109, 3) := by decide +kernel
theorem dL_law_552 : decode cL_law 552 = .ok (.aload_n 1, 1) := by decide +kernel
theorem dL_law_553 : decode cL_law 553 = .ok (.aload_n 0, 1) := by decide +kernel
theorem dL_law_554 : decode cL_law 554 = .ok (.iload 4, 2) := by decide +kernel
theorem dL_law_556 : decode cL_law 556 = .ok (.iconst 1, 1) := by decide +kernel
theorem dL_law_557 : decode cL_law 557 = .ok (.iadd, 1) := by decide +kernel
theorem dL_law_558 : decode cL_law 558 = .ok (.iaload, 1) := by decide +kernel
theorem dL_law_559 : decode cL_law 559 = .ok (.aload_n 0, 1) := by decide +kernel
theorem dL_law_560 : decode cL_law 560 = .ok (.iload 4, 2) := by decide +kernel
theorem dL_law_562 : decode cL_law 562 = .ok (.iconst 2, 1) := by decide +kernel
theorem dL_law_563 : decode cL_law 563 = .ok (.iadd, 1) := by decide +kernel
theorem dL_law_564 : decode cL_law 564 = .ok (.iaload, 1) := by decide +kernel
theorem dL_law_565 : decode cL_law 565 = .ok (.aload_n 3, 1) := by decide +kernel
theorem dL_law_566 : decode cL_law 566 = .ok (.invokestatic 91, 3) := by decide +kernel
theorem dL_law_569 : decode cL_law 569 = .ok (.istore 5, 2) := by decide +kernel
theorem dL_law_571 : decode cL_law 571 = .ok (.aload_n 2, 1) := by decide +kernel
theorem dL_law_572 : decode cL_law 572 = .ok (.aload_n 0, 1) := by decide +kernel
theorem dL_law_573 : decode cL_law 573 = .ok (.iload 4, 2) := by decide +kernel
theorem dL_law_575 : decode cL_law 575 = .ok (.iconst 1, 1) := by decide +kernel
theorem dL_law_576 : decode cL_law 576 = .ok (.iadd, 1) := by decide +kernel
theorem dL_law_577 : decode cL_law 577 = .ok (.iaload, 1) := by decide +kernel
theorem dL_law_578 : decode cL_law 578 = .ok (.aload_n 0, 1) := by decide +kernel
theorem dL_law_579 : decode cL_law 579 = .ok (.iload 4, 2) := by decide +kernel
theorem dL_law_581 : decode cL_law 581 = .ok (.iconst 2, 1) := by decide +kernel
theorem dL_law_582 : decode cL_law 582 = .ok (.iadd, 1) := by decide +kernel
theorem dL_law_583 : decode cL_law 583 = .ok (.iaload, 1) := by decide +kernel
theorem dL_law_584 : decode cL_law 584 = .ok (.invokevirtual 94, 3) := by decide +kernel
theorem dL_law_587 : decode cL_law 587 = .ok (.istore 6, 2) := by decide +kernel
theorem dL_law_589 : decode cL_law 589 = .ok (.aload_n 2, 1) := by decide +kernel
theorem dL_law_590 : decode cL_law 590 = .ok (.invokevirtual 60, 3) := by decide +kernel
theorem dL_law_593 : decode cL_law 593 = .ok (.iload 5, 2) := by decide +kernel
theorem dL_law_595 : decode cL_law 595 = .ok (.if_icmp .eq 5, 3) := by decide +kernel
theorem dL_law_598 : decode cL_law 598 = .ok (.iconst 0, 1) := by decide +kernel
theorem dL_law_599 : decode cL_law 599 = .ok (.ireturn, 1) := by decide +kernel
theorem dL_law_600 : decode cL_law 600 = .ok (.iload 5, 2) := by decide +kernel
theorem dL_law_602 : decode cL_law 602 = .ok (.ifCond .ne 15, 3) := by decide +kernel
theorem dL_law_605 : decode cL_law 605 = .ok (.aload_n 3, 1) := by decide +kernel
theorem dL_law_606 : decode cL_law 606 = .ok (.iconst 0, 1) := by decide +kernel
theorem dL_law_607 : decode cL_law 607 = .ok (.laload, 1) := by decide +kernel
theorem dL_law_608 : decode cL_law 608 = .ok (.iload 6, 2) := by decide +kernel
theorem dL_law_610 : decode cL_law 610 = .ok (.i2l, 1) := by decide +kernel
theorem dL_law_611 : decode cL_law 611 = .ok (.lcmp, 1) := by decide +kernel
theorem dL_law_612 : decode cL_law 612 = .ok (.ifCond .eq 5, 3) := by decide +kernel
theorem dL_law_615 : decode cL_law 615 = .ok (.iconst 0, 1) := by decide +kernel
theorem dL_law_616 : decode cL_law 616 = .ok (.ireturn, 1) := by decide +kernel
theorem dL_law_617 : decode cL_law 617 = .ok (.goto 41, 3) := by decide +kernel
theorem dL_law_620 : decode cL_law 620 = .ok (.aload_n 1, 1) := by decide +kernel
theorem dL_law_621 : decode cL_law 621 = .ok (.aload_n 0, 1) := by decide +kernel
theorem dL_law_622 : decode cL_law 622 = .ok (.iload 4, 2) := by decide +kernel
theorem dL_law_624 : decode cL_law 624 = .ok (.iconst 1, 1) := by decide +kernel
theorem dL_law_625 : decode cL_law 625 = .ok (.iadd, 1) := by decide +kernel
theorem dL_law_626 : decode cL_law 626 = .ok (.iaload, 1) := by decide +kernel
theorem dL_law_627 : decode cL_law 627 = .ok (.invokevirtual 95, 3) := by decide +kernel
theorem dL_law_630 : decode cL_law 630 = .ok (.aload_n 2, 1) := by decide +kernel
theorem dL_law_631 : decode cL_law 631 = .ok (.aload_n 0, 1) := by decide +kernel
theorem dL_law_632 : decode cL_law 632 = .ok (.iload 4, 2) := by decide +kernel
theorem dL_law_634 : decode cL_law 634 = .ok (.iconst 1, 1) := by decide +kernel
theorem dL_law_635 : decode cL_law 635 = .ok (.iadd, 1) := by decide +kernel
theorem dL_law_636 : decode cL_law 636 = .ok (.iaload, 1) := by decide +kernel
theorem dL_law_637 : decode cL_law 637 = .ok (.invokevirtual 98, 3) := by decide +kernel
theorem dL_law_640 : decode cL_law 640 = .ok (.if_icmp .eq 18, 3) := by decide +kernel
theorem dL_law_643 : decode cL_law 643 = .ok (.iconst 0, 1) := by decide +kernel
theorem dL_law_644 : decode cL_law 644 = .ok (.ireturn, 1) := by decide +kernel
theorem dL_law_645 : decode cL_law 645 = .ok (.aload_n 1, 1) := by decide +kernel
theorem dL_law_646 : decode cL_law 646 = .ok (.invokevirtual 99, 3) := by decide +kernel
theorem dL_law_649 : decode cL_law 649 = .ok (.aload_n 2, 1) := by decide +kernel
theorem dL_law_650 : decode cL_law 650 = .ok (.invokevirtual 102, 3) := by decide +kernel
theorem dL_law_653 : decode cL_law 653 = .ok (.if_icmp .eq 5, 3) := by decide +kernel
theorem dL_law_656 : decode cL_law 656 = .ok (.iconst 0, 1) := by decide +kernel
theorem dL_law_657 : decode cL_law 657 = .ok (.ireturn, 1) := by decide +kernel
theorem dL_law_658 : decode cL_law 658 = .ok (.iinc 4 4, 3) := by decide +kernel
theorem dL_law_661 : decode cL_law 661 = .ok (.goto (-638), 3) := by decide +kernel
theorem dL_law_664 : decode cL_law 664 = .ok (.iconst 1, 1) := by decide +kernel
theorem dL_law_665 : decode cL_law 665 = .ok (.ireturn, 1) := by decide +kernel
abbrev vwCl : List vw_C := [(RX0, TX0, 6), (RX1, TX1, 10), (RX2, TX2, 3), (RX4, TX4, 3), (RX5, TX5, 7), (RX6, TX6, 9), (RX7, TX7, 2), (RX8, TX8, 2), (RX9, TX9, 28)]
theorem gL_run_X8_run : GoodIn wsL_run (wsV RL 29 RX8 yX8_run wsX8_run) := goodIn_app (goodIn_of _ (by decide +kernel)) (goodIn_ca (a := []) (goodIn_r _ [7] (by decide +kernel) (by decide +kernel)) (goodIn_sub (fun _ h => List.mem_cons_of_mem _ (List.mem_append_right _ h)) (by decide +kernel)))
theorem lwx_I : ∀ w ∈ (vx_at0 RX8 34 "java/lang/IllegalArgumentException" ["java/lang/RuntimeException", "java/lang/Exception"]).filter goodWord, w ∈ lw_tbl := by decide +kernel
theorem lwx_S : ∀ w ∈ (vx_at0 RX8 72 "java/lang/IllegalStateException" ["java/lang/RuntimeException", "java/lang/Exception"]).filter goodWord, w ∈ lw_tbl := by decide +kernel
theorem lwx_B : ∀ w ∈ (vx_at0 RX8 102 "java/lang/IndexOutOfBoundsException" ["java/lang/RuntimeException", "java/lang/Exception"]).filter goodWord, w ∈ lw_tbl := by decide +kernel
theorem inX0 : ∀ w ∈ wsX00, w ∈ lw_tbl := by decide +kernel
theorem inX1 : ∀ w ∈ wsX10, w ∈ lw_tbl := by decide +kernel
theorem inX2 : ∀ w ∈ wsX20, w ∈ lw_tbl := by decide +kernel
theorem inX4 : ∀ w ∈ wsX40, w ∈ lw_tbl := by decide +kernel
theorem inX5 : ∀ w ∈ wsX50, w ∈ lw_tbl := by decide +kernel
theorem inX6 : ∀ w ∈ wsX60, w ∈ lw_tbl := by decide +kernel
theorem inX7 : ∀ w ∈ wsX70, w ∈ lw_tbl := by decide +kernel
theorem inX8 : ∀ w ∈ wsX80, w ∈ lw_tbl := by decide +kernel
theorem inX9 : ∀ w ∈ wsX90, w ∈ lw_tbl := by decide +kernel
set_option maxRecDepth 20000 in
theorem ggL_law_X8_init : GoodIn lw_tbl wsX8_init := goodIn_p _ [106, 109, 114, 120, 140, 158, 161, 196, 223, 292] rfl (by decide +kernel)
set_option maxRecDepth 20000 in
theorem ggL_law_X9_init : GoodIn lw_tbl wsX9_init := goodIn_p _ [813, 109] rfl (by decide +kernel)
set_option maxRecDepth 20000 in
theorem ggL_law_L_deposit : GoodIn lw_tbl wsL_deposit := goodIn_ca (goodIn_p _ [356, 359, 362] rfl (by decide +kernel)) (goodIn_sub lwx_I (by decide +kernel))
set_option maxRecDepth 20000 in
theorem ggL_law_X9_deposit : GoodIn lw_tbl wsX9_deposit := goodIn_p _ [908, 911, 914] rfl (by decide +kernel)
set_option maxRecDepth 20000 in
theorem ggL_law_X9_thrown : GoodIn lw_tbl wsX9_thrown := goodIn_p _ [904] rfl (by decide +kernel)
set_option maxRecDepth 20000 in
theorem ggL_law_L_examine : GoodIn lw_tbl wsL_examine := goodIn_ca (goodIn_p _ [434, 359] rfl (by decide +kernel)) (goodIn_sub lwx_I (by decide +kernel))
set_option maxRecDepth 20000 in
theorem ggL_law_X9_examine : GoodIn lw_tbl wsX9_examine := goodIn_p _ [919, 911, 923] rfl (by decide +kernel)
set_option maxRecDepth 20000 in
theorem ggL_law_L_set : GoodIn lw_tbl wsL_set := goodIn_ca (goodIn_p _ [441, 362, 445] rfl (by decide +kernel)) (goodIn_sub lwx_I (by decide +kernel))
set_option maxRecDepth 20000 in
theorem ggL_law_X9_set : GoodIn lw_tbl wsX9_set := goodIn_p _ [927, 930, 914] rfl (by decide +kernel)
set_option maxRecDepth 20000 in
theorem ggL_law_L_register : GoodIn lw_tbl wsL_register := goodIn_ca (goodIn_p _ [452] rfl (by decide +kernel)) (goodIn_sub lwx_I (by decide +kernel))
set_option maxRecDepth 20000 in
theorem ggL_law_X9_register : GoodIn lw_tbl wsX9_register := goodIn_p _ [934, 930, 923] rfl (by decide +kernel)
set_option maxRecDepth 20000 in
theorem ggL_law_L_start : GoodIn lw_tbl wsL_start := goodIn_ca (goodIn_p _ [459, 362, 463] rfl (by decide +kernel)) (goodIn_sub lwx_I (by decide +kernel))
set_option maxRecDepth 20000 in
theorem ggL_law_X9_start : GoodIn lw_tbl wsX9_start := goodIn_p _ [938, 914, 942] rfl (by decide +kernel)
set_option maxRecDepth 20000 in
theorem ggL_law_L_key : GoodIn lw_tbl wsL_key := goodIn_ca (goodIn_p _ [763, 767, 541] rfl (by decide +kernel)) (goodIn_sub lwx_I (by decide +kernel))
set_option maxRecDepth 20000 in
theorem ggL_law_X9_key : GoodIn lw_tbl wsX9_key := goodIn_p _ [1140, 930] rfl (by decide +kernel)
set_option maxRecDepth 20000 in
theorem ggL_law_L_printed : GoodIn lw_tbl wsL_printed := goodIn_ca (goodIn_p _ [776] rfl (by decide +kernel)) (goodIn_sub lwx_B (by decide +kernel))
set_option maxRecDepth 20000 in
theorem ggL_law_X9_printed : GoodIn lw_tbl wsX9_printed := goodIn_p _ [1144] rfl (by decide +kernel)
set_option maxRecDepth 20000 in
theorem ggL_law_L_load : GoodIn lw_tbl wsL_load := goodIn_ca (goodIn_p _ [798, 801, 362] rfl (by decide +kernel)) (goodIn_sub lwx_I (by decide +kernel))
set_option maxRecDepth 20000 in
theorem ggL_law_X9_load : GoodIn lw_tbl wsX9_load := goodIn_p _ [1148, 930, 914] rfl (by decide +kernel)
set_option maxRecDepth 20000 in
theorem ggL_law_L_disk : GoodIn lw_tbl wsL_disk := goodIn_ca (goodIn_p _ [808, 801] rfl (by decide +kernel)) (goodIn_sub lwx_I (by decide +kernel))
set_option maxRecDepth 20000 in
theorem ggL_law_X9_disk : GoodIn lw_tbl wsX9_disk := goodIn_p _ [1152, 930, 923] rfl (by decide +kernel)
set_option maxRecDepth 20000 in
theorem ggL_law_X8_device : GoodIn lw_tbl wsX8_device := goodIn_p _ [336, 341] rfl (by decide +kernel)
set_option maxRecDepth 20000 in
theorem ggL_law_X9_device : GoodIn lw_tbl wsX9_device := goodIn_p _ [1156, 970, 975, 978] rfl (by decide +kernel)
set_option maxRecDepth 20000 in
theorem ggL_law_X8_state : GoodIn lw_tbl wsX8_state := goodIn_p _ [348] rfl (by decide +kernel)
set_option maxRecDepth 20000 in
theorem ggL_law_X9_state : GoodIn lw_tbl wsX9_state := goodIn_p _ [1160] rfl (by decide +kernel)
set_option maxRecDepth 20000 in
theorem gL_law_X8_init : GoodIn lw_tbl (wsX8_init) := ggL_law_X8_init
set_option maxRecDepth 20000 in
theorem gL_law_X9_init : GoodIn lw_tbl (wsX9_init) := ggL_law_X9_init
set_option maxRecDepth 20000 in
theorem gL_law_L_deposit : GoodIn lw_tbl (va_wsS RL 54 yL_deposit wsL_deposit) := goodIn_app (goodIn_of _ (by decide +kernel)) ggL_law_L_deposit
set_option maxRecDepth 20000 in
theorem gL_law_X9_deposit : GoodIn lw_tbl (wsV RL 59 RX9 yX9_deposit wsX9_deposit) := goodIn_app (goodIn_of _ (by decide +kernel)) ggL_law_X9_deposit
set_option maxRecDepth 20000 in
theorem gL_law_X9_thrown : GoodIn lw_tbl (wsV RL 60 RX9 yX9_thrown wsX9_thrown) := goodIn_app (goodIn_of _ (by decide +kernel)) ggL_law_X9_thrown
set_option maxRecDepth 20000 in
theorem gL_law_L_examine : GoodIn lw_tbl (va_wsS RL 64 yL_examine wsL_examine) := goodIn_app (goodIn_of _ (by decide +kernel)) ggL_law_L_examine
set_option maxRecDepth 20000 in
theorem gL_law_X9_examine : GoodIn lw_tbl (wsV RL 67 RX9 yX9_examine wsX9_examine) := goodIn_app (goodIn_of _ (by decide +kernel)) ggL_law_X9_examine
set_option maxRecDepth 20000 in
theorem gL_law_L_set : GoodIn lw_tbl (va_wsS RL 68 yL_set wsL_set) := goodIn_app (goodIn_of _ (by decide +kernel)) ggL_law_L_set
set_option maxRecDepth 20000 in
theorem gL_law_X9_set : GoodIn lw_tbl (wsV RL 70 RX9 yX9_set wsX9_set) := goodIn_app (goodIn_of _ (by decide +kernel)) ggL_law_X9_set
set_option maxRecDepth 20000 in
theorem gL_law_L_register : GoodIn lw_tbl (va_wsS RL 71 yL_register wsL_register) := goodIn_app (goodIn_of _ (by decide +kernel)) ggL_law_L_register
set_option maxRecDepth 20000 in
theorem gL_law_X9_register : GoodIn lw_tbl (wsV RL 73 RX9 yX9_register wsX9_register) := goodIn_app (goodIn_of _ (by decide +kernel)) ggL_law_X9_register
set_option maxRecDepth 20000 in
theorem gL_law_L_start : GoodIn lw_tbl (va_wsS RL 74 yL_start wsL_start) := goodIn_app (goodIn_of _ (by decide +kernel)) ggL_law_L_start
set_option maxRecDepth 20000 in
theorem gL_law_X9_start : GoodIn lw_tbl (wsV RL 77 RX9 yX9_start wsX9_start) := goodIn_app (goodIn_of _ (by decide +kernel)) ggL_law_X9_start
set_option maxRecDepth 20000 in
theorem gL_law_L_key : GoodIn lw_tbl (va_wsS RL 81 yL_key wsL_key) := goodIn_app (goodIn_of _ (by decide +kernel)) ggL_law_L_key
set_option maxRecDepth 20000 in
theorem gL_law_X9_key : GoodIn lw_tbl (wsV RL 83 RX9 yX9_key wsX9_key) := goodIn_app (goodIn_of _ (by decide +kernel)) ggL_law_X9_key
set_option maxRecDepth 20000 in
theorem gL_law_L_printed : GoodIn lw_tbl (va_wsS RL 84 yL_printed wsL_printed) := goodIn_app (goodIn_of _ (by decide +kernel)) ggL_law_L_printed
set_option maxRecDepth 20000 in
theorem gL_law_X9_printed : GoodIn lw_tbl (wsV RL 86 RX9 yX9_printed wsX9_printed) := goodIn_app (goodIn_of _ (by decide +kernel)) ggL_law_X9_printed
set_option maxRecDepth 20000 in
theorem gL_law_L_load : GoodIn lw_tbl (va_wsS RL 87 yL_load wsL_load) := goodIn_app (goodIn_of _ (by decide +kernel)) ggL_law_L_load
set_option maxRecDepth 20000 in
theorem gL_law_X9_load : GoodIn lw_tbl (wsV RL 90 RX9 yX9_load wsX9_load) := goodIn_app (goodIn_of _ (by decide +kernel)) ggL_law_X9_load
set_option maxRecDepth 20000 in
theorem gL_law_L_disk : GoodIn lw_tbl (va_wsS RL 91 yL_disk wsL_disk) := goodIn_app (goodIn_of _ (by decide +kernel)) ggL_law_L_disk
set_option maxRecDepth 20000 in
theorem gL_law_X9_disk : GoodIn lw_tbl (wsV RL 94 RX9 yX9_disk wsX9_disk) := goodIn_app (goodIn_of _ (by decide +kernel)) ggL_law_X9_disk
set_option maxRecDepth 20000 in
theorem gL_law_X8_device : GoodIn lw_tbl (wsV RL 95 RX8 yX8_device wsX8_device) := goodIn_app (goodIn_of _ (by decide +kernel)) ggL_law_X8_device
set_option maxRecDepth 20000 in
theorem gL_law_X9_device : GoodIn lw_tbl (wsV RL 98 RX9 yX9_device wsX9_device) := goodIn_app (goodIn_of _ (by decide +kernel)) ggL_law_X9_device
set_option maxRecDepth 20000 in
theorem gL_law_X8_state : GoodIn lw_tbl (wsV RL 99 RX8 yX8_state wsX8_state) := goodIn_app (goodIn_of _ (by decide +kernel)) ggL_law_X8_state
set_option maxRecDepth 20000 in
theorem gL_law_X9_state : GoodIn lw_tbl (wsV RL 102 RX9 yX9_state wsX9_state) := goodIn_app (goodIn_of _ (by decide +kernel)) ggL_law_X9_state
set_option maxRecDepth 20000 in
theorem gL_law_L_run : GoodIn lw_tbl (va_wsS RL 78 yL_run wsL_run) := goodIn_app (goodIn_of _ (by decide +kernel)) (goodIn_ca (goodIn_p _ [471] rfl (by decide +kernel)) (goodIn_app (goodIn_app (goodIn_p _ [] rfl (by decide +kernel)) (goodIn_sub lwx_I (by decide +kernel))) (goodIn_sub lwx_S (by decide +kernel))))
set_option maxRecDepth 20000 in
theorem gL_law_X9_run : GoodIn lw_tbl (wsV RL 80 RX9 yX9_run wsX9_run) := goodIn_app (goodIn_of _ (by decide +kernel)) (goodIn_p _ [946] rfl (by decide +kernel))
end
section
/-! THE CLAIM OUT OF ONE WALK OF THE LAW'S BODY. Your part is whole_start (and what it stands on); all else here is the same for every law, but numbers. -/
def R_law : String := "UnibusMachineLaw"
def lw_P (b : Addr) (xs : List Int32) (args : Array Value) (s : State) : Prop := args = #[.ref b] ∧ s.IntsAt b xs ∧ xs.length ≤ 4 ∧ (Jvm.Cond.and given_1 narrow_1).before args s = true
def lw_Q (_ : Array Value) (s : State) (o : Outcome) (t : State) : Prop := o = .returned (some (.int 1)) ∧ Framed s o t [] 41 1598
def lw_Z (below : List Frame) (a : Array Value) (s : State) : State → Prop := fun t => ∃ o, t.status = .running ∧ Ended t below o ∧ lw_Q a s o t
/-- the law's own end, with 1 on the stack, nothing written that was there before, its room as the claim has it -/
theorem lw_ret {p : Program} {l : Launch} {e : Env} {s : State} {m : MethodId} {below : List Frame} {meth : Method} {c : Code} {b : Nat} (hx : p.tables.exec = Jvm.exec) (hb : c.code = code) (hr : meth.sig.returnType = ret) (hlocks : meth.locks = false) {pc : Nat} {H : Heap} {ls : Array Slot} (hdg : decode code pc = .ok (.ireturn, 1)) : W p l e room_1 s m #[Value.ref b] below meth c H [] 41 1598 (lw_Z below #[Value.ref b] s) (F0 m pc ls [.int 1]) := by
  intro T hT X
  obtain ⟨fs, hret, hrun, hended, hW, hframe⟩ := X.leave (v := some (.int 1)) (hlocks := hlocks) (fun h => by rw [hr] at h; cases h)
  have hmeth' : T.vm.method? m = some meth := X.method'
  refine ⟨T.setFrames fs, ?_, .returned (some (.int 1)), hrun, hended, rfl, ⟨_, rfl⟩, hW, hframe⟩
  jvm_step X.here [X.here.top, hx, hb, hdg, hmeth', hr, ret, narrow_b1]
  (try refine ⟨rfl, ?_⟩); (try refine ⟨rfl, ?_⟩)
  first | (intro acts; rw [hret _ acts rfl rfl rfl]) | rw [hret _ _ rfl rfl rfl]
  exact Steps.refl _
/-- what holds at the law's entry: the machine, the code, the tables' words (any of lw_tbl by 'hts w (by decide +kernel)'), the script of L ints xs at the cell b, what the Statement gives of the start (any of its parts by flat_of_before) -/
def lw_At (p : Program) (s : State) (m : MethodId) (meth : Method) (c : Code) (b L : Nat) (xs : Nat → Int32) : Prop :=
  p.tables.exec = Jvm.exec ∧ c.code = code ∧ meth.sig.returnType = ret ∧ c.maxLocals = 7 ∧ s.vm.findClass R_law = some m.cls ∧ (∀ w ∈ lw_tbl, w.before #[Value.ref b] s = true) ∧ va_X b L xs s s.heap ∧ b < s.heap.size ∧ meth.locks = false ∧ (Jvm.Cond.and given_1 narrow_1).before #[Value.ref b] s = true
-- plain facts of ints
theorem fz_lt {a b : Int32} : a < b ↔ a.toInt < b.toInt := Int32.lt_iff_toInt_lt
theorem fz_le {a b : Int32} : a ≤ b ↔ a.toInt ≤ b.toInt := Int32.le_iff_toInt_le
theorem fz_eq {a b : Int32} : a = b ↔ a.toInt = b.toInt := Int32.toInt_inj.symm
theorem fz_nlt {a b : Int32} : ¬ a < b ↔ b.toInt ≤ a.toInt := by rw [fz_lt]; omega
theorem fz_nle {a b : Int32} : ¬ a ≤ b ↔ b.toInt < a.toInt := by rw [fz_le]; omega
theorem fz_ne {a b : Int32} : ¬ a = b ↔ a.toInt ≠ b.toInt := by rw [fz_eq]
theorem fz_rng (a : Int32) : -2147483648 ≤ a.toInt ∧ a.toInt ≤ 2147483647 := by
  have h1 := Int32.le_toInt a
  have h2 := Int32.toInt_lt a
  omega
theorem fz_bm (x : Int) (h1 : -2147483648 ≤ x) (h2 : x ≤ 2147483647) : x.bmod (2 ^ 32) = x := by
  rw [Int.bmod_def]
  have h : ((2 ^ 32 : Nat) : Int) = 4294967296 := by decide
  rw [h]
  split <;> omega
theorem fz_sub (a b : Int32) (h1 : -2147483648 ≤ a.toInt - b.toInt) (h2 : a.toInt - b.toInt ≤ 2147483647) : (a - b).toInt = a.toInt - b.toInt := by
  rw [Int32.toInt_sub, fz_bm _ h1 h2]
theorem fz_add (a b : Int32) (h1 : -2147483648 ≤ a.toInt + b.toInt) (h2 : a.toInt + b.toInt ≤ 2147483647) : (a + b).toInt = a.toInt + b.toInt := by
  rw [Int32.toInt_add, fz_bm _ h1 h2]
theorem fz_mul (a b : Int32) (h1 : -2147483648 ≤ a.toInt * b.toInt) (h2 : a.toInt * b.toInt ≤ 2147483647) : (a * b).toInt = a.toInt * b.toInt := by
  rw [Int32.toInt_mul, fz_bm _ h1 h2]
theorem fz_16 (a b : Int32) (h1 : 0 ≤ a.toInt) (h2 : a.toInt < 8) (h3 : 0 ≤ b.toInt) (h4 : b.toInt < 16) : (16 * a + b).toInt = 16 * a.toInt + b.toInt := by
  have k : (16 : Int32).toInt = 16 := by decide
  have e1 : (16 * a).toInt = 16 * a.toInt := by rw [fz_mul _ _ (by rw [k]; omega) (by rw [k]; omega), k]
  rw [fz_add _ _ (by rw [e1]; omega) (by rw [e1]; omega), e1]
theorem fz_div2 (a : Int32) (h : 0 ≤ a.toInt) : (a / 2).toInt = a.toInt / 2 := by
  have k : (2 : Int32).toInt = 2 := by decide
  have hr := fz_rng a
  rw [Int32.toInt_div, k, Int.tdiv_eq_ediv_of_nonneg h, fz_bm _ (by omega) (by omega)]
theorem fz_rem2 (a : Int32) (h : 0 ≤ a.toInt) : (a - a / 2 * 2).toInt = a.toInt % 2 := by
  have k : (2 : Int32).toInt = 2 := by decide
  have e := fz_div2 a h
  have hr := fz_rng a
  have e2 : (a / 2 * 2).toInt = a.toInt / 2 * 2 := by rw [fz_mul _ _ (by rw [k, e]; omega) (by rw [k, e]; omega), k, e]
  rw [fz_sub _ _ (by rw [e2]; omega) (by rw [e2]; omega), e2]
  omega
theorem fz_nat (a : Int32) (h : 0 ≤ a.toInt) : ∃ n : Nat, n < 2 ^ 31 ∧ a = nI n ∧ a.toInt = n := by
  have hr := fz_rng a
  refine ⟨a.toInt.toNat, by omega, ?_, by omega⟩
  rw [fz_eq, nI_toInt (by omega)]
  omega
theorem fz_and1 (a : Int32) : (a &&& 1).toInt = a.toInt % 2 := by
  have h1 : (a &&& 1).toInt = (a.toBitVec &&& 1#32).toInt := rfl
  rw [h1, BitVec.toInt_eq_toNat_bmod, BitVec.toNat_and]
  have h2 : a.toInt = a.toBitVec.toInt := rfl
  rw [h2, BitVec.toInt_eq_toNat_bmod]
  have h3 : (1#32).toNat = 1 := rfl
  rw [h3, Nat.and_one_is_mod]
  have h4 := a.toBitVec.isLt
  rw [fz_bm _ (by omega) (by omega), Int.bmod_def]
  have h : ((2 ^ 32 : Nat) : Int) = 4294967296 := by decide
  rw [h]
  split <;> omega
theorem fz_shr1 (a : Int32) (h : 0 ≤ a.toInt) : (a >>> (1 &&& 31)).toInt = a.toInt / 2 := by
  have e : ((1 : Int32) &&& 31) = 1 := by decide
  rw [e]
  have h1 : (a >>> (1 : Int32)).toInt = (a.toBitVec.sshiftRight 1).toInt := rfl
  rw [h1, BitVec.toInt_sshiftRight]
  show a.toInt >>> 1 = _
  rw [Int.shiftRight_eq_div_pow]
  rfl
theorem fz_sw (x : Int32) : x = 0 ∨ x = 1 ∨ x = 2 ∨ x = 3 ∨ x = 4 ∨ x = 5 ∨ x = 6 ∨ x = 7 ∨ x = 8 ∨ x = 9 ∨ x = 10 ∨ x = 11 ∨ (x.toInt < 0 ∨ 11 < x.toInt) := by
  simp only [fz_eq, show (0 : Int32).toInt = 0 from by decide, show (1 : Int32).toInt = 1 from by decide, show (2 : Int32).toInt = 2 from by decide, show (3 : Int32).toInt = 3 from by decide, show (4 : Int32).toInt = 4 from by decide, show (5 : Int32).toInt = 5 from by decide, show (6 : Int32).toInt = 6 from by decide, show (7 : Int32).toInt = 7 from by decide, show (8 : Int32).toInt = 8 from by decide, show (9 : Int32).toInt = 9 from by decide, show (10 : Int32).toInt = 10 from by decide, show (11 : Int32).toInt = 11 from by decide]
  omega
theorem fz_flags (l : Launch) (h : l.flags = flags0) : l.stackTraces = false := by
  unfold Launch.stackTraces
  rw [h]
  decide
/-- what a device register of a new object answers -/
def dv (z : Int) : Int32 := if z = 57428 ∨ z = 57440 then 128 else if (57344 ≤ z ∧ z ≤ 57408 ∧ z % 2 = 0) ∨ z = 57424 ∨ z = 57426 ∨ z = 57430 ∨ z = 57442 ∨ z = 57444 ∨ z = 57446 ∨ z = 57470 then 0 else -1
theorem dv_pos {z : Int} (h : z = 57428 ∨ z = 57440) : (128 : Int32) = dv z := by unfold dv; rw [if_pos h]
theorem dv_zero {z : Int} (h : ¬ (z = 57428 ∨ z = 57440)) (h2 : (57344 ≤ z ∧ z ≤ 57408 ∧ z % 2 = 0) ∨ z = 57424 ∨ z = 57426 ∨ z = 57430 ∨ z = 57442 ∨ z = 57444 ∨ z = 57446 ∨ z = 57470) : (0 : Int32) = dv z := by unfold dv; rw [if_neg h, if_pos h2]
theorem dv_neg {z : Int} (h : ¬ (z = 57428 ∨ z = 57440)) (h2 : ¬ ((57344 ≤ z ∧ z ≤ 57408 ∧ z % 2 = 0) ∨ z = 57424 ∨ z = 57426 ∨ z = 57430 ∨ z = 57442 ∨ z = 57444 ∨ z = 57446 ∨ z = 57470)) : (-1 : Int32) = dv z := by unfold dv; rw [if_neg h, if_neg h2]
abbrev rdy : Nat → Int32 := upd (upd (fun _ => 0) (0 : Int32).toNatClampNeg (vp_nar .boolean 1)) (2 : Int32).toNatClampNeg (vp_nar .boolean 1)
end
section
set_option maxHeartbeats 4000000 in
set_option maxRecDepth 100000 in
theorem c_Line_init_K (l : Launch) (dC : Nat → ClassId) (dI : Nat → Nat → Nat) (h0 : Nat) (sz : Nat) : Met l yX3_init wsX3_init ({ frames := 1, cells := 0, slots := 0, locals := 12 } : Room) (va_Pc [.ref h0] (fun U => U.heap.size = sz ∧ va_P (dC, dI) vwCl [(h0, .inr (2, [.int 0, .int 0, .int 0]))] U.heap ∧ va_K (dC, dI) vwCl [] U ∧ va_D (fun _ => True) [(h0, .inr (2, [.int 0, .int 0, .int 0]))])) (va_Qv (fun (u : Unit) => True) (fun (u : Unit) (t : State) => va_P (dC, dI) vwCl [(h0, .inr (2, [.int 0, .int 0, .int 0]))] t.heap ∧ va_K (dC, dI) vwCl [] t ∧ va_D (va_A [(h0, .inr (2, [.int 0, .int 0, .int 0]))] sz) [(h0, .inr (2, [.int 0, .int 0, .int 0]))]) (va_A [(h0, .inr (2, [.int 0, .int 0, .int 0]))] sz)) 0 0 (va_A [(h0, .inr (2, [.int 0, .int 0, .int 0]))] sz) := by
  refine Met.ofW (cc := cX3_init) (maxL := 1) (ret := none) (by decide) rfl ?_
  intro p e s m args below meth c s₁ B hml hv
  obtain ⟨rfl, hsz, hP, hK, hD0⟩ := hv
  have hx := B.exec
  have hb := B.bytes
  have hr := B.returns
  have hts := atoms_spec (ws := wsX3_init) B.pre
  have hown : s.vm.findClass RX3 = some m.cls := findClass_of_methodNamed B.named
  have hlocks := B.notSynchronized
  have hin : meth.name = "<init>" := (name_of_methodNamed B.named B.method).1
  subst hsz
  have hD := hD0.self (sz := s.heap.size)
  generalize hAe : va_A [(h0, .inr (2, [.int 0, .int 0, .int 0]))] s.heap.size = A at hD ⊢
  have hA : ∀ q : Nat, s.heap.size ≤ q → A q := fun q h => by rw [← hAe]; exact Or.inr h
  have hS0 : ∀ G : Heap, s.heap = G → va_S A s.heap G [] := fun G h => by subst h; exact va_S.rf
  generalize hHe : s.heap = H at hP ⊢
  have hS := hS0 H hHe
  have hP : va_P (dC, dI) vwCl [(h0, .inr (2, [.int 0, .int 0, .int 0]))] H := hP
  have hD : va_D A [(h0, .inr (2, [.int 0, .int 0, .int 0]))] := hD
  have hK : va_K (dC, dI) vwCl [] s := hK
  have hl := lv_entry ([.ref h0]) (n := 1) (Nat.le_of_ble_eq_true rfl)
  rw [lg_entry_eq]
  generalize (lg_sl ([.ref h0]) ++ List.replicate (1 - (lg_sl ([.ref h0])).length) Slot.unset).toArray = ls at hl ⊢
  have hl : lv_has ls 1 [(0, .ref h0)] := hl
  refine lv_aload_n hx hb dX3_init_0 rfl (lv_at hl 0 rfl) ?_
  refine W.objInit hx hb hown (hts (.methodLink RX3 3 objectInit) (by decide +kernel)) (hts (.instanceMethod objectInit) (by decide +kernel)) (hts _ (List.mem_of_getElem? (i := 3) rfl)) rfl (by rw [hml]; exact hl.1) rfl dX3_init_1 (Nat.le_of_ble_eq_true rfl) (Nat.le_of_ble_eq_true rfl) ?_
  refine W.eq (g2 := F0 m 4 ls []) rfl ?_
  refine lv_aload_n hx hb dX3_init_4 rfl (lv_at hl 0 rfl) ?_
  refine lv_iconst (v := 0) hx hb dX3_init_5 (by decide) ?_
  refine va_put (D := (dC, dI)) (ci := 2) (v := .int 0) (ty := .int) (C := RX2) (T := TX2) (N := 3) hx hb hts (by decide +kernel) tyX2 tyX2_ok nmX2 hown hK hP hD hS 0 rfl rfl 0 (by decide) (hts (.fieldLink RX3 9 "UnibusMachine$Line" "bits" "I") (by decide +kernel)) (fun _ h9 => h9) rfl (by decide +kernel) rfl rfl (Nat.le_of_ble_eq_true rfl) dX3_init_6 (fun H locs hP hD hS => ?_)
  have hP : va_P (dC, dI) vwCl [(h0, .inr (2, [.int 0, .int 0, .int 0]))] H := hP
  have hD : va_D A [(h0, .inr (2, [.int 0, .int 0, .int 0]))] := hD
  refine lv_aload_n hx hb dX3_init_9 rfl (lv_at hl 0 rfl) ?_
  refine lv_iconst (v := 0) hx hb dX3_init_10 (by decide) ?_
  refine va_put (D := (dC, dI)) (ci := 2) (v := .int 0) (ty := .boolean) (C := RX2) (T := TX2) (N := 3) hx hb hts (by decide +kernel) tyX2 tyX2_ok nmX2 hown hK hP hD hS 0 rfl rfl 1 (by decide) (hts (.fieldLink RX3 13 "UnibusMachine$Line" "wanting" "Z") (by decide +kernel)) (fun _ h9 => h9) rfl (by decide +kernel) (by decide) rfl (Nat.le_of_ble_eq_true rfl) dX3_init_11 (fun H locs hP hD hS => ?_)
  have hP : va_P (dC, dI) vwCl [(h0, .inr (2, [.int 0, .int 0, .int 0]))] H := hP
  have hD : va_D A [(h0, .inr (2, [.int 0, .int 0, .int 0]))] := hD
  have hP9 := hP.sub (ws' := [(h0, .inr (2, [.int 0, .int 0, .int 0]))]) [0] rfl
  have hD9 := hD.sub (ws' := [(h0, .inr (2, [.int 0, .int 0, .int 0]))]) [0] (by decide) rfl
  have hK9 := hK.sub (tys' := []) [] rfl
  exact W.vret hx hb hr (fun t ht hW => ⟨⟨(), rfl, trivial, by rw [ht]; exact hP9, va_K.moved hW.alike hK9, hD9⟩, hS.F ht⟩) hS.2.2 dX3_init_14
set_option maxHeartbeats 4000000 in
set_option maxRecDepth 100000 in
theorem c_Line_init_P (l : Launch) (dC : Nat → ClassId) (dI : Nat → Nat → Nat) (h0 : Nat) (sz : Nat) : Met l yX3_init wsX3_init ({ frames := 1, cells := 0, slots := 0, locals := 12 } : Room) (va_Pc [.ref h0] (fun U => U.heap.size = sz ∧ va_P (dC, dI) vwCl [(h0, .inr (4, [.int 0, .int 0, .null, .int 0, .int 0, .int 0, .int 0]))] U.heap ∧ va_K (dC, dI) vwCl [] U ∧ va_D (fun _ => True) [(h0, .inr (4, [.int 0, .int 0, .null, .int 0, .int 0, .int 0, .int 0]))])) (va_Qv (fun (u : Unit) => True) (fun (u : Unit) (t : State) => va_P (dC, dI) vwCl [(h0, .inr (4, [.int 0, .int 0, .null, .int 0, .int 0, .int 0, .int 0]))] t.heap ∧ va_K (dC, dI) vwCl [] t ∧ va_D (va_A [(h0, .inr (4, [.int 0, .int 0, .null, .int 0, .int 0, .int 0, .int 0]))] sz) [(h0, .inr (4, [.int 0, .int 0, .null, .int 0, .int 0, .int 0, .int 0]))]) (va_A [(h0, .inr (4, [.int 0, .int 0, .null, .int 0, .int 0, .int 0, .int 0]))] sz)) 0 0 (va_A [(h0, .inr (4, [.int 0, .int 0, .null, .int 0, .int 0, .int 0, .int 0]))] sz) := by
  refine Met.ofW (cc := cX3_init) (maxL := 1) (ret := none) (by decide) rfl ?_
  intro p e s m args below meth c s₁ B hml hv
  obtain ⟨rfl, hsz, hP, hK, hD0⟩ := hv
  have hx := B.exec
  have hb := B.bytes
  have hr := B.returns
  have hts := atoms_spec (ws := wsX3_init) B.pre
  have hown : s.vm.findClass RX3 = some m.cls := findClass_of_methodNamed B.named
  have hlocks := B.notSynchronized
  have hin : meth.name = "<init>" := (name_of_methodNamed B.named B.method).1
  subst hsz
  have hD := hD0.self (sz := s.heap.size)
  generalize hAe : va_A [(h0, .inr (4, [.int 0, .int 0, .null, .int 0, .int 0, .int 0, .int 0]))] s.heap.size = A at hD ⊢
  have hA : ∀ q : Nat, s.heap.size ≤ q → A q := fun q h => by rw [← hAe]; exact Or.inr h
  have hS0 : ∀ G : Heap, s.heap = G → va_S A s.heap G [] := fun G h => by subst h; exact va_S.rf
  generalize hHe : s.heap = H at hP ⊢
  have hS := hS0 H hHe
  have hP : va_P (dC, dI) vwCl [(h0, .inr (4, [.int 0, .int 0, .null, .int 0, .int 0, .int 0, .int 0]))] H := hP
  have hD : va_D A [(h0, .inr (4, [.int 0, .int 0, .null, .int 0, .int 0, .int 0, .int 0]))] := hD
  have hK : va_K (dC, dI) vwCl [] s := hK
  have hl := lv_entry ([.ref h0]) (n := 1) (Nat.le_of_ble_eq_true rfl)
  rw [lg_entry_eq]
  generalize (lg_sl ([.ref h0]) ++ List.replicate (1 - (lg_sl ([.ref h0])).length) Slot.unset).toArray = ls at hl ⊢
  have hl : lv_has ls 1 [(0, .ref h0)] := hl
  refine lv_aload_n hx hb dX3_init_0 rfl (lv_at hl 0 rfl) ?_
  refine W.objInit hx hb hown (hts (.methodLink RX3 3 objectInit) (by decide +kernel)) (hts (.instanceMethod objectInit) (by decide +kernel)) (hts _ (List.mem_of_getElem? (i := 3) rfl)) rfl (by rw [hml]; exact hl.1) rfl dX3_init_1 (Nat.le_of_ble_eq_true rfl) (Nat.le_of_ble_eq_true rfl) ?_
  refine W.eq (g2 := F0 m 4 ls []) rfl ?_
  refine lv_aload_n hx hb dX3_init_4 rfl (lv_at hl 0 rfl) ?_
  refine lv_iconst (v := 0) hx hb dX3_init_5 (by decide) ?_
  refine va_put (D := (dC, dI)) (ci := 4) (v := .int 0) (ty := .int) (C := RX5) (T := TX5) (N := 7) hx hb hts (by decide +kernel) tyX5 tyX5_ok nmX5 hown hK hP hD hS 0 rfl rfl 0 (by decide) (hts (.fieldLink RX3 9 "UnibusMachine$Line" "bits" "I") (by decide +kernel)) (fun _ h9 => h9) rfl (by decide +kernel) rfl rfl (Nat.le_of_ble_eq_true rfl) dX3_init_6 (fun H locs hP hD hS => ?_)
  have hP : va_P (dC, dI) vwCl [(h0, .inr (4, [.int 0, .int 0, .null, .int 0, .int 0, .int 0, .int 0]))] H := hP
  have hD : va_D A [(h0, .inr (4, [.int 0, .int 0, .null, .int 0, .int 0, .int 0, .int 0]))] := hD
  refine lv_aload_n hx hb dX3_init_9 rfl (lv_at hl 0 rfl) ?_
  refine lv_iconst (v := 0) hx hb dX3_init_10 (by decide) ?_
  refine va_put (D := (dC, dI)) (ci := 4) (v := .int 0) (ty := .boolean) (C := RX5) (T := TX5) (N := 7) hx hb hts (by decide +kernel) tyX5 tyX5_ok nmX5 hown hK hP hD hS 0 rfl rfl 1 (by decide) (hts (.fieldLink RX3 13 "UnibusMachine$Line" "wanting" "Z") (by decide +kernel)) (fun _ h9 => h9) rfl (by decide +kernel) (by decide) rfl (Nat.le_of_ble_eq_true rfl) dX3_init_11 (fun H locs hP hD hS => ?_)
  have hP : va_P (dC, dI) vwCl [(h0, .inr (4, [.int 0, .int 0, .null, .int 0, .int 0, .int 0, .int 0]))] H := hP
  have hD : va_D A [(h0, .inr (4, [.int 0, .int 0, .null, .int 0, .int 0, .int 0, .int 0]))] := hD
  have hP9 := hP.sub (ws' := [(h0, .inr (4, [.int 0, .int 0, .null, .int 0, .int 0, .int 0, .int 0]))]) [0] rfl
  have hD9 := hD.sub (ws' := [(h0, .inr (4, [.int 0, .int 0, .null, .int 0, .int 0, .int 0, .int 0]))]) [0] (by decide) rfl
  have hK9 := hK.sub (tys' := []) [] rfl
  exact W.vret hx hb hr (fun t ht hW => ⟨⟨(), rfl, trivial, by rw [ht]; exact hP9, va_K.moved hW.alike hK9, hD9⟩, hS.F ht⟩) hS.2.2 dX3_init_14
set_option maxHeartbeats 4000000 in
set_option maxRecDepth 100000 in
theorem c_Line_init_D (l : Launch) (dC : Nat → ClassId) (dI : Nat → Nat → Nat) (h0 : Nat) (sz : Nat) : Met l yX3_init wsX3_init ({ frames := 1, cells := 0, slots := 0, locals := 12 } : Room) (va_Pc [.ref h0] (fun U => U.heap.size = sz ∧ va_P (dC, dI) vwCl [(h0, .inr (1, [.int 0, .int 0, .null, .int 0, .int 0, .int 0, .int 0, .int 0, .int 0, .int 0]))] U.heap ∧ va_K (dC, dI) vwCl [] U ∧ va_D (fun _ => True) [(h0, .inr (1, [.int 0, .int 0, .null, .int 0, .int 0, .int 0, .int 0, .int 0, .int 0, .int 0]))])) (va_Qv (fun (u : Unit) => True) (fun (u : Unit) (t : State) => va_P (dC, dI) vwCl [(h0, .inr (1, [.int 0, .int 0, .null, .int 0, .int 0, .int 0, .int 0, .int 0, .int 0, .int 0]))] t.heap ∧ va_K (dC, dI) vwCl [] t ∧ va_D (va_A [(h0, .inr (1, [.int 0, .int 0, .null, .int 0, .int 0, .int 0, .int 0, .int 0, .int 0, .int 0]))] sz) [(h0, .inr (1, [.int 0, .int 0, .null, .int 0, .int 0, .int 0, .int 0, .int 0, .int 0, .int 0]))]) (va_A [(h0, .inr (1, [.int 0, .int 0, .null, .int 0, .int 0, .int 0, .int 0, .int 0, .int 0, .int 0]))] sz)) 0 0 (va_A [(h0, .inr (1, [.int 0, .int 0, .null, .int 0, .int 0, .int 0, .int 0, .int 0, .int 0, .int 0]))] sz) := by
  refine Met.ofW (cc := cX3_init) (maxL := 1) (ret := none) (by decide) rfl ?_
  intro p e s m args below meth c s₁ B hml hv
  obtain ⟨rfl, hsz, hP, hK, hD0⟩ := hv
  have hx := B.exec
  have hb := B.bytes
  have hr := B.returns
  have hts := atoms_spec (ws := wsX3_init) B.pre
  have hown : s.vm.findClass RX3 = some m.cls := findClass_of_methodNamed B.named
  have hlocks := B.notSynchronized
  have hin : meth.name = "<init>" := (name_of_methodNamed B.named B.method).1
  subst hsz
  have hD := hD0.self (sz := s.heap.size)
  generalize hAe : va_A [(h0, .inr (1, [.int 0, .int 0, .null, .int 0, .int 0, .int 0, .int 0, .int 0, .int 0, .int 0]))] s.heap.size = A at hD ⊢
  have hA : ∀ q : Nat, s.heap.size ≤ q → A q := fun q h => by rw [← hAe]; exact Or.inr h
  have hS0 : ∀ G : Heap, s.heap = G → va_S A s.heap G [] := fun G h => by subst h; exact va_S.rf
  generalize hHe : s.heap = H at hP ⊢
  have hS := hS0 H hHe
  have hP : va_P (dC, dI) vwCl [(h0, .inr (1, [.int 0, .int 0, .null, .int 0, .int 0, .int 0, .int 0, .int 0, .int 0, .int 0]))] H := hP
  have hD : va_D A [(h0, .inr (1, [.int 0, .int 0, .null, .int 0, .int 0, .int 0, .int 0, .int 0, .int 0, .int 0]))] := hD
  have hK : va_K (dC, dI) vwCl [] s := hK
  have hl := lv_entry ([.ref h0]) (n := 1) (Nat.le_of_ble_eq_true rfl)
  rw [lg_entry_eq]
  generalize (lg_sl ([.ref h0]) ++ List.replicate (1 - (lg_sl ([.ref h0])).length) Slot.unset).toArray = ls at hl ⊢
  have hl : lv_has ls 1 [(0, .ref h0)] := hl
  refine lv_aload_n hx hb dX3_init_0 rfl (lv_at hl 0 rfl) ?_
  refine W.objInit hx hb hown (hts (.methodLink RX3 3 objectInit) (by decide +kernel)) (hts (.instanceMethod objectInit) (by decide +kernel)) (hts _ (List.mem_of_getElem? (i := 3) rfl)) rfl (by rw [hml]; exact hl.1) rfl dX3_init_1 (Nat.le_of_ble_eq_true rfl) (Nat.le_of_ble_eq_true rfl) ?_
  refine W.eq (g2 := F0 m 4 ls []) rfl ?_
  refine lv_aload_n hx hb dX3_init_4 rfl (lv_at hl 0 rfl) ?_
  refine lv_iconst (v := 0) hx hb dX3_init_5 (by decide) ?_
  refine va_put (D := (dC, dI)) (ci := 1) (v := .int 0) (ty := .int) (C := RX1) (T := TX1) (N := 10) hx hb hts (by decide +kernel) tyX1 tyX1_ok nmX1 hown hK hP hD hS 0 rfl rfl 0 (by decide) (hts (.fieldLink RX3 9 "UnibusMachine$Line" "bits" "I") (by decide +kernel)) (fun _ h9 => h9) rfl (by decide +kernel) rfl rfl (Nat.le_of_ble_eq_true rfl) dX3_init_6 (fun H locs hP hD hS => ?_)
  have hP : va_P (dC, dI) vwCl [(h0, .inr (1, [.int 0, .int 0, .null, .int 0, .int 0, .int 0, .int 0, .int 0, .int 0, .int 0]))] H := hP
  have hD : va_D A [(h0, .inr (1, [.int 0, .int 0, .null, .int 0, .int 0, .int 0, .int 0, .int 0, .int 0, .int 0]))] := hD
  refine lv_aload_n hx hb dX3_init_9 rfl (lv_at hl 0 rfl) ?_
  refine lv_iconst (v := 0) hx hb dX3_init_10 (by decide) ?_
  refine va_put (D := (dC, dI)) (ci := 1) (v := .int 0) (ty := .boolean) (C := RX1) (T := TX1) (N := 10) hx hb hts (by decide +kernel) tyX1 tyX1_ok nmX1 hown hK hP hD hS 0 rfl rfl 1 (by decide) (hts (.fieldLink RX3 13 "UnibusMachine$Line" "wanting" "Z") (by decide +kernel)) (fun _ h9 => h9) rfl (by decide +kernel) (by decide) rfl (Nat.le_of_ble_eq_true rfl) dX3_init_11 (fun H locs hP hD hS => ?_)
  have hP : va_P (dC, dI) vwCl [(h0, .inr (1, [.int 0, .int 0, .null, .int 0, .int 0, .int 0, .int 0, .int 0, .int 0, .int 0]))] H := hP
  have hD : va_D A [(h0, .inr (1, [.int 0, .int 0, .null, .int 0, .int 0, .int 0, .int 0, .int 0, .int 0, .int 0]))] := hD
  have hP9 := hP.sub (ws' := [(h0, .inr (1, [.int 0, .int 0, .null, .int 0, .int 0, .int 0, .int 0, .int 0, .int 0, .int 0]))]) [0] rfl
  have hD9 := hD.sub (ws' := [(h0, .inr (1, [.int 0, .int 0, .null, .int 0, .int 0, .int 0, .int 0, .int 0, .int 0, .int 0]))]) [0] (by decide) rfl
  have hK9 := hK.sub (tys' := []) [] rfl
  exact W.vret hx hb hr (fun t ht hW => ⟨⟨(), rfl, trivial, by rw [ht]; exact hP9, va_K.moved hW.alike hK9, hD9⟩, hS.F ht⟩) hS.2.2 dX3_init_14
set_option maxHeartbeats 4000000 in
set_option maxRecDepth 100000 in
theorem c_Keyboard_init (l : Launch) (dC : Nat → ClassId) (dI : Nat → Nat → Nat) (h0 : Nat) (sz : Nat) : Met l yX2_init wsX2_init ({ frames := 2, cells := 0, slots := 0, locals := 32 } : Room) (va_Pc [.ref h0] (fun U => U.heap.size = sz ∧ va_P (dC, dI) vwCl [(h0, .inr (2, [.int 0, .int 0, .int 0]))] U.heap ∧ va_K (dC, dI) vwCl [] U ∧ va_D (fun _ => True) [(h0, .inr (2, [.int 0, .int 0, .int 0]))] ∧ va_Nw (.methodLinkNest RX2 1 yX3_init "UnibusMachine") U)) (va_Qv (fun (u : Unit) => True) (fun (u : Unit) (t : State) => va_P (dC, dI) vwCl [(h0, .inr (2, [.int 0, .int 0, .int 0]))] t.heap ∧ va_K (dC, dI) vwCl [] t ∧ va_D (va_A [(h0, .inr (2, [.int 0, .int 0, .int 0]))] sz) [(h0, .inr (2, [.int 0, .int 0, .int 0]))]) (va_A [(h0, .inr (2, [.int 0, .int 0, .int 0]))] sz)) 0 0 (va_A [(h0, .inr (2, [.int 0, .int 0, .int 0]))] sz) := by
  refine Met.ofW (cc := cX2_init) (maxL := 1) (ret := none) (by decide) rfl ?_
  intro p e s m args below meth c s₁ B hml hv
  obtain ⟨rfl, hsz, hP, hK, hD0, hnX2_1⟩ := hv
  have hx := B.exec
  have hb := B.bytes
  have hr := B.returns
  have hts := atoms_spec (ws := wsX2_init) B.pre
  have hown : s.vm.findClass RX2 = some m.cls := findClass_of_methodNamed B.named
  have hlocks := B.notSynchronized
  have hin : meth.name = "<init>" := (name_of_methodNamed B.named B.method).1
  subst hsz
  have hD := hD0.self (sz := s.heap.size)
  generalize hAe : va_A [(h0, .inr (2, [.int 0, .int 0, .int 0]))] s.heap.size = A at hD ⊢
  have hA : ∀ q : Nat, s.heap.size ≤ q → A q := fun q h => by rw [← hAe]; exact Or.inr h
  have hS0 : ∀ G : Heap, s.heap = G → va_S A s.heap G [] := fun G h => by subst h; exact va_S.rf
  generalize hHe : s.heap = H at hP ⊢
  have hS := hS0 H hHe
  have hP : va_P (dC, dI) vwCl [(h0, .inr (2, [.int 0, .int 0, .int 0]))] H := hP
  have hD : va_D A [(h0, .inr (2, [.int 0, .int 0, .int 0]))] := hD
  have hK : va_K (dC, dI) vwCl [] s := hK
  have hl := lv_entry ([.ref h0]) (n := 1) (Nat.le_of_ble_eq_true rfl)
  rw [lg_entry_eq]
  generalize (lg_sl ([.ref h0]) ++ List.replicate (1 - (lg_sl ([.ref h0])).length) Slot.unset).toArray = ls at hl ⊢
  have hl : lv_has ls 1 [(0, .ref h0)] := hl
  refine lv_aload_n hx hb dX2_init_0 rfl (lv_at hl 0 rfl) ?_
  have hPc := hP.sub (ws' := [(h0, .inr (2, [.int 0, .int 0, .int 0]))]) [0] rfl
  have hDc := hD.sub (ws' := [(h0, .inr (2, [.int 0, .int 0, .int 0]))]) [0] (by decide) rfl
  have hKc := hK.sub (tys' := []) [] rfl
  have hFc := va_free (wc := [(h0, .inr (2, [.int 0, .int 0, .int 0]))]) hD hS hA [0] rfl
  refine va_callv (va_runIN (As := []) (rest := []) ⟨hx, hb, hml, hown, hts⟩ (c_Line_init_K l dC dI h0 H.size) ⟨va_cnB (host := "UnibusMachine") 0 hts gX2_init_X3_init_n1 rfl rfl rfl hnX2_1 (hts (.initialized RX3) (by decide +kernel)) (by decide +kernel) ⟨Nat.le_of_ble_eq_true rfl, Nat.le_of_ble_eq_true rfl⟩, rfl, (hts (.instanceMethod yX3_init) (by decide +kernel))⟩ ⟨fun a U g mk q => by obtain ⟨q0, q1, qP, qK, qD⟩ := q; exact ⟨q0, q1, qP, va_K.moved (u := U) (U := U.calling g mk a) (Vm.Alike.refl U.vm) qK, qD⟩, fun U hU hW => ⟨rfl, by rw [hU], by rw [hU]; exact hPc, va_K.moved hW.alike hKc, hDc.weaken (fun _ _ _ _ => trivial)⟩⟩ rfl rfl hl.1 rfl (lv_room (Nat.le_of_ble_eq_true rfl)) dX2_init_1 ⟨Nat.le_of_ble_eq_true rfl, Nat.le_of_ble_eq_true rfl⟩) hS (fun q _ h => hFc q h) hFc (fun u2 t H1 locs ht hvm hw hB hz1 hk1 hS => ?_)
  obtain ⟨hP1, hK1, hD1⟩ := hB
  rw [ht] at hP1
  have hK1 := va_K.moved hvm.symm hK1
  try dsimp only at hw
  obtain ⟨hP, hD⟩ := va_join (wr := []) (w1 := [(h0, .inr (2, [.int 0, .int 0, .int 0]))]) hP hD [0] [] rfl rfl (by decide) (by decide) hk1 hFc hP1 hD1
  have hK := (hK.sub (tys' := []) [] rfl).app hK1
  generalize H1 = H at hP hS ⊢
  have hP : va_P (dC, dI) vwCl [(h0, .inr (2, [.int 0, .int 0, .int 0]))] H := hP
  have hD : va_D A [(h0, .inr (2, [.int 0, .int 0, .int 0]))] := hD
  have hK : va_K (dC, dI) vwCl [] s := hK
  refine lv_aload_n hx hb dX2_init_4 rfl (lv_at hl 0 rfl) ?_
  refine lv_iconst (v := 0) hx hb dX2_init_5 (by decide) ?_
  refine va_put (D := (dC, dI)) (ci := 2) (v := .int 0) (ty := .int) (C := RX2) (T := TX2) (N := 3) hx hb hts (by decide +kernel) tyX2 tyX2_ok nmX2 hown hK hP hD hS 0 rfl rfl 2 (by decide) (hts (.fieldLink RX2 7 "UnibusMachine$Keyboard" "character" "I") (by decide +kernel)) (fun _ h9 => h9) rfl (by decide +kernel) rfl rfl (Nat.le_of_ble_eq_true rfl) dX2_init_6 (fun H locs hP hD hS => ?_)
  have hP : va_P (dC, dI) vwCl [(h0, .inr (2, [.int 0, .int 0, .int 0]))] H := hP
  have hD : va_D A [(h0, .inr (2, [.int 0, .int 0, .int 0]))] := hD
  have hP9 := hP.sub (ws' := [(h0, .inr (2, [.int 0, .int 0, .int 0]))]) [0] rfl
  have hD9 := hD.sub (ws' := [(h0, .inr (2, [.int 0, .int 0, .int 0]))]) [0] (by decide) rfl
  have hK9 := hK.sub (tys' := []) [] rfl
  exact W.vret hx hb hr (fun t ht hW => ⟨⟨(), rfl, trivial, by rw [ht]; exact hP9, va_K.moved hW.alike hK9, hD9⟩, hS.F ht⟩) hS.2.2 dX2_init_9
set_option maxHeartbeats 4000000 in
set_option maxRecDepth 100000 in
theorem c_Printer_init (l : Launch) (dC : Nat → ClassId) (dI : Nat → Nat → Nat) (h0 : Nat) (sz : Nat) : Met l yX5_init wsX5_init ({ frames := 2, cells := 1, slots := 32, locals := 32 } : Room) (va_Pc [.ref h0] (fun U => U.heap.size = sz ∧ va_P (dC, dI) vwCl [(h0, .inr (4, [.int 0, .int 0, .null, .int 0, .int 0, .int 0, .int 0]))] U.heap ∧ va_K (dC, dI) vwCl [] U ∧ va_D (fun _ => True) [(h0, .inr (4, [.int 0, .int 0, .null, .int 0, .int 0, .int 0, .int 0]))] ∧ va_Nw (.methodLinkNest RX5 1 yX3_init "UnibusMachine") U)) (va_Qv (fun (u : Unit) => True) (fun (u : Unit) (t : State) => ∃ (ap : Nat) (tp : ClassId), va_P (dC, dI) vwCl [(h0, .inr (4, [.int 128, .int 0, .ref ap, .int 0, .int 0, .int 0, .int 0])), (ap, .inl (tp, 32, .inl (fun _ => 0)))] t.heap ∧ va_K (dC, dI) vwCl [(tp, .int)] t ∧ va_D (va_A [(h0, .inr (4, [.int 0, .int 0, .null, .int 0, .int 0, .int 0, .int 0]))] sz) [(h0, .inr (4, [.int 128, .int 0, .ref ap, .int 0, .int 0, .int 0, .int 0])), (ap, .inl (tp, 32, .inl (fun _ => 0)))]) (va_A [(h0, .inr (4, [.int 0, .int 0, .null, .int 0, .int 0, .int 0, .int 0]))] sz)) 1 32 (va_A [(h0, .inr (4, [.int 0, .int 0, .null, .int 0, .int 0, .int 0, .int 0]))] sz) := by
  refine Met.ofW (cc := cX5_init) (maxL := 1) (ret := none) (by decide) rfl ?_
  intro p e s m args below meth c s₁ B hml hv
  obtain ⟨rfl, hsz, hP, hK, hD0, hnX5_1⟩ := hv
  have hx := B.exec
  have hb := B.bytes
  have hr := B.returns
  have hts := atoms_spec (ws := wsX5_init) B.pre
  have hown : s.vm.findClass RX5 = some m.cls := findClass_of_methodNamed B.named
  have hlocks := B.notSynchronized
  have hin : meth.name = "<init>" := (name_of_methodNamed B.named B.method).1
  subst hsz
  have hD := hD0.self (sz := s.heap.size)
  generalize hAe : va_A [(h0, .inr (4, [.int 0, .int 0, .null, .int 0, .int 0, .int 0, .int 0]))] s.heap.size = A at hD ⊢
  have hA : ∀ q : Nat, s.heap.size ≤ q → A q := fun q h => by rw [← hAe]; exact Or.inr h
  have hS0 : ∀ G : Heap, s.heap = G → va_S A s.heap G [] := fun G h => by subst h; exact va_S.rf
  generalize hHe : s.heap = H at hP ⊢
  have hS := hS0 H hHe
  have hP : va_P (dC, dI) vwCl [(h0, .inr (4, [.int 0, .int 0, .null, .int 0, .int 0, .int 0, .int 0]))] H := hP
  have hD : va_D A [(h0, .inr (4, [.int 0, .int 0, .null, .int 0, .int 0, .int 0, .int 0]))] := hD
  have hK : va_K (dC, dI) vwCl [] s := hK
  have hl := lv_entry ([.ref h0]) (n := 1) (Nat.le_of_ble_eq_true rfl)
  rw [lg_entry_eq]
  generalize (lg_sl ([.ref h0]) ++ List.replicate (1 - (lg_sl ([.ref h0])).length) Slot.unset).toArray = ls at hl ⊢
  have hl : lv_has ls 1 [(0, .ref h0)] := hl
  refine lv_aload_n hx hb dX5_init_0 rfl (lv_at hl 0 rfl) ?_
  have hPc := hP.sub (ws' := [(h0, .inr (4, [.int 0, .int 0, .null, .int 0, .int 0, .int 0, .int 0]))]) [0] rfl
  have hDc := hD.sub (ws' := [(h0, .inr (4, [.int 0, .int 0, .null, .int 0, .int 0, .int 0, .int 0]))]) [0] (by decide) rfl
  have hKc := hK.sub (tys' := []) [] rfl
  have hFc := va_free (wc := [(h0, .inr (4, [.int 0, .int 0, .null, .int 0, .int 0, .int 0, .int 0]))]) hD hS hA [0] rfl
  refine va_callv (va_runIN (As := []) (rest := []) ⟨hx, hb, hml, hown, hts⟩ (c_Line_init_P l dC dI h0 H.size) ⟨va_cnB (host := "UnibusMachine") 0 hts gX5_init_X3_init_n1 rfl rfl rfl hnX5_1 (hts (.initialized RX3) (by decide +kernel)) (by decide +kernel) ⟨Nat.le_of_ble_eq_true rfl, Nat.le_of_ble_eq_true rfl⟩, rfl, (hts (.instanceMethod yX3_init) (by decide +kernel))⟩ ⟨fun a U g mk q => by obtain ⟨q0, q1, qP, qK, qD⟩ := q; exact ⟨q0, q1, qP, va_K.moved (u := U) (U := U.calling g mk a) (Vm.Alike.refl U.vm) qK, qD⟩, fun U hU hW => ⟨rfl, by rw [hU], by rw [hU]; exact hPc, va_K.moved hW.alike hKc, hDc.weaken (fun _ _ _ _ => trivial)⟩⟩ rfl rfl hl.1 rfl (lv_room (Nat.le_of_ble_eq_true rfl)) dX5_init_1 ⟨Nat.le_of_ble_eq_true rfl, Nat.le_of_ble_eq_true rfl⟩) hS (fun q _ h => hFc q h) hFc (fun u2 t H1 locs ht hvm hw hB hz1 hk1 hS => ?_)
  obtain ⟨hP1, hK1, hD1⟩ := hB
  rw [ht] at hP1
  have hK1 := va_K.moved hvm.symm hK1
  try dsimp only at hw
  obtain ⟨hP, hD⟩ := va_join (wr := []) (w1 := [(h0, .inr (4, [.int 0, .int 0, .null, .int 0, .int 0, .int 0, .int 0]))]) hP hD [0] [] rfl rfl (by decide) (by decide) hk1 hFc hP1 hD1
  have hK := (hK.sub (tys' := []) [] rfl).app hK1
  generalize H1 = H at hP hS ⊢
  have hP : va_P (dC, dI) vwCl [(h0, .inr (4, [.int 0, .int 0, .null, .int 0, .int 0, .int 0, .int 0]))] H := hP
  have hD : va_D A [(h0, .inr (4, [.int 0, .int 0, .null, .int 0, .int 0, .int 0, .int 0]))] := hD
  have hK : va_K (dC, dI) vwCl [] s := hK
  refine lv_aload_n hx hb dX5_init_4 rfl (lv_at hl 0 rfl) ?_
  refine lv_bipush (v := 32) hx hb dX5_init_5 (by decide) ?_
  refine va_newa (atype := .int) (ty := .int) (a0 := (32, .inl (fun _ => 0))) hx hb (hts (.arrayClass .int) (by decide +kernel)) rfl hK hP hD hS hA (fun _ => rfl) (by decide) (by decide) (Nat.le_of_ble_eq_true rfl) (Nat.le_of_ble_eq_true rfl) (Nat.le_of_ble_eq_true rfl) dX5_init_7 (fun q3 cA4 H hK hP hD hS => ?_)
  have hP : va_P (dC, dI) vwCl [(h0, .inr (4, [.int 0, .int 0, .null, .int 0, .int 0, .int 0, .int 0])), (q3, .inl (cA4, 32, .inl (fun _ => 0)))] H := hP
  have hD : va_D A [(h0, .inr (4, [.int 0, .int 0, .null, .int 0, .int 0, .int 0, .int 0])), (q3, .inl (cA4, 32, .inl (fun _ => 0)))] := hD
  have hK : va_K (dC, dI) vwCl [(cA4, .int)] s := hK
  refine W.widen (k := 1) (n := 32) (Nat.le_of_ble_eq_true rfl) (Nat.le_of_ble_eq_true rfl) ?_
  refine va_putF (D := (dC, dI)) (ci := 4) (v := .ref q3) (ty := .array .int) (C := RX5) (T := TX5) (N := 7) hx hb hts (by decide +kernel) tyX5 tyX5_ok nmX5 hown hK hP hD hS 0 rfl rfl 2 (by decide) (hts (.fieldLink RX5 9 "UnibusMachine$Printer" "paper" "[I") (by decide +kernel)) (fun _ h9 => h9) rfl hin rfl (by decide +kernel) rfl rfl (Nat.le_of_ble_eq_true rfl) dX5_init_9 (fun H locs hP hD hS => ?_)
  have hP : va_P (dC, dI) vwCl [(h0, .inr (4, [.int 0, .int 0, .ref q3, .int 0, .int 0, .int 0, .int 0])), (q3, .inl (cA4, 32, .inl (fun _ => 0)))] H := hP
  have hD : va_D A [(h0, .inr (4, [.int 0, .int 0, .ref q3, .int 0, .int 0, .int 0, .int 0])), (q3, .inl (cA4, 32, .inl (fun _ => 0)))] := hD
  refine lv_aload_n hx hb dX5_init_12 rfl (lv_at hl 0 rfl) ?_
  refine lv_iconst (v := 0) hx hb dX5_init_13 (by decide) ?_
  refine va_put (D := (dC, dI)) (ci := 4) (v := .int 0) (ty := .int) (C := RX5) (T := TX5) (N := 7) hx hb hts (by decide +kernel) tyX5 tyX5_ok nmX5 hown hK hP hD hS 0 rfl rfl 3 (by decide) (hts (.fieldLink RX5 13 "UnibusMachine$Printer" "count" "I") (by decide +kernel)) (fun _ h9 => h9) rfl (by decide +kernel) rfl rfl (Nat.le_of_ble_eq_true rfl) dX5_init_14 (fun H locs hP hD hS => ?_)
  have hP : va_P (dC, dI) vwCl [(h0, .inr (4, [.int 0, .int 0, .ref q3, .int 0, .int 0, .int 0, .int 0])), (q3, .inl (cA4, 32, .inl (fun _ => 0)))] H := hP
  have hD : va_D A [(h0, .inr (4, [.int 0, .int 0, .ref q3, .int 0, .int 0, .int 0, .int 0])), (q3, .inl (cA4, 32, .inl (fun _ => 0)))] := hD
  refine lv_aload_n hx hb dX5_init_17 rfl (lv_at hl 0 rfl) ?_
  refine lv_iconst (v := 0) hx hb dX5_init_18 (by decide) ?_
  refine va_put (D := (dC, dI)) (ci := 4) (v := .int 0) (ty := .int) (C := RX5) (T := TX5) (N := 7) hx hb hts (by decide +kernel) tyX5 tyX5_ok nmX5 hown hK hP hD hS 0 rfl rfl 4 (by decide) (hts (.fieldLink RX5 17 "UnibusMachine$Printer" "character" "I") (by decide +kernel)) (fun _ h9 => h9) rfl (by decide +kernel) rfl rfl (Nat.le_of_ble_eq_true rfl) dX5_init_19 (fun H locs hP hD hS => ?_)
  have hP : va_P (dC, dI) vwCl [(h0, .inr (4, [.int 0, .int 0, .ref q3, .int 0, .int 0, .int 0, .int 0])), (q3, .inl (cA4, 32, .inl (fun _ => 0)))] H := hP
  have hD : va_D A [(h0, .inr (4, [.int 0, .int 0, .ref q3, .int 0, .int 0, .int 0, .int 0])), (q3, .inl (cA4, 32, .inl (fun _ => 0)))] := hD
  refine lv_aload_n hx hb dX5_init_22 rfl (lv_at hl 0 rfl) ?_
  refine lv_iconst (v := 0) hx hb dX5_init_23 (by decide) ?_
  refine va_put (D := (dC, dI)) (ci := 4) (v := .int 0) (ty := .int) (C := RX5) (T := TX5) (N := 7) hx hb hts (by decide +kernel) tyX5 tyX5_ok nmX5 hown hK hP hD hS 0 rfl rfl 5 (by decide) (hts (.fieldLink RX5 20 "UnibusMachine$Printer" "left" "I") (by decide +kernel)) (fun _ h9 => h9) rfl (by decide +kernel) rfl rfl (Nat.le_of_ble_eq_true rfl) dX5_init_24 (fun H locs hP hD hS => ?_)
  have hP : va_P (dC, dI) vwCl [(h0, .inr (4, [.int 0, .int 0, .ref q3, .int 0, .int 0, .int 0, .int 0])), (q3, .inl (cA4, 32, .inl (fun _ => 0)))] H := hP
  have hD : va_D A [(h0, .inr (4, [.int 0, .int 0, .ref q3, .int 0, .int 0, .int 0, .int 0])), (q3, .inl (cA4, 32, .inl (fun _ => 0)))] := hD
  refine lv_aload_n hx hb dX5_init_27 rfl (lv_at hl 0 rfl) ?_
  refine lv_iconst (v := 0) hx hb dX5_init_28 (by decide) ?_
  refine va_put (D := (dC, dI)) (ci := 4) (v := .int 0) (ty := .boolean) (C := RX5) (T := TX5) (N := 7) hx hb hts (by decide +kernel) tyX5 tyX5_ok nmX5 hown hK hP hD hS 0 rfl rfl 6 (by decide) (hts (.fieldLink RX5 23 "UnibusMachine$Printer" "fresh" "Z") (by decide +kernel)) (fun _ h9 => h9) rfl (by decide +kernel) (by decide) rfl (Nat.le_of_ble_eq_true rfl) dX5_init_29 (fun H locs hP hD hS => ?_)
  have hP : va_P (dC, dI) vwCl [(h0, .inr (4, [.int 0, .int 0, .ref q3, .int 0, .int 0, .int 0, .int 0])), (q3, .inl (cA4, 32, .inl (fun _ => 0)))] H := hP
  have hD : va_D A [(h0, .inr (4, [.int 0, .int 0, .ref q3, .int 0, .int 0, .int 0, .int 0])), (q3, .inl (cA4, 32, .inl (fun _ => 0)))] := hD
  refine lv_aload_n hx hb dX5_init_32 rfl (lv_at hl 0 rfl) ?_
  refine lv_sipush (v := 128) hx hb dX5_init_33 (by decide) ?_
  refine va_put (D := (dC, dI)) (ci := 4) (v := .int 128) (ty := .int) (C := RX5) (T := TX5) (N := 7) hx hb hts (by decide +kernel) tyX5 tyX5_ok nmX5 hown hK hP hD hS 0 rfl rfl 0 (by decide) (hts (.fieldLink RX5 27 "UnibusMachine$Printer" "bits" "I") (by decide +kernel)) (u_same (hts (.sameField "UnibusMachine$Printer" "UnibusMachine$Line" "bits" "I") (by decide +kernel))) rfl (by decide +kernel) rfl rfl (Nat.le_of_ble_eq_true rfl) dX5_init_36 (fun H locs hP hD hS => ?_)
  have hP : va_P (dC, dI) vwCl [(h0, .inr (4, [.int 128, .int 0, .ref q3, .int 0, .int 0, .int 0, .int 0])), (q3, .inl (cA4, 32, .inl (fun _ => 0)))] H := hP
  have hD : va_D A [(h0, .inr (4, [.int 128, .int 0, .ref q3, .int 0, .int 0, .int 0, .int 0])), (q3, .inl (cA4, 32, .inl (fun _ => 0)))] := hD
  have hP9 := hP.sub (ws' := [(h0, .inr (4, [.int 128, .int 0, .ref q3, .int 0, .int 0, .int 0, .int 0])), (q3, .inl (cA4, 32, .inl (fun _ => 0)))]) [0, 1] rfl
  have hD9 := hD.sub (ws' := [(h0, .inr (4, [.int 128, .int 0, .ref q3, .int 0, .int 0, .int 0, .int 0])), (q3, .inl (cA4, 32, .inl (fun _ => 0)))]) [0, 1] (by decide) rfl
  have hK9 := hK.sub (tys' := [(cA4, .int)]) [0] rfl
  exact W.vret hx hb hr (fun t ht hW => ⟨⟨(), rfl, trivial, q3, cA4, by rw [ht]; exact hP9, va_K.moved hW.alike hK9, hD9⟩, hS.F ht⟩) hS.2.2 dX5_init_39
set_option maxHeartbeats 4000000 in
set_option maxRecDepth 100000 in
theorem c_Drive_init (l : Launch) (dC : Nat → ClassId) (dI : Nat → Nat → Nat) (h0 : Nat) (sz : Nat) : Met l yX1_init wsX1_init ({ frames := 2, cells := 1, slots := 128, locals := 32 } : Room) (va_Pc [.ref h0] (fun U => U.heap.size = sz ∧ va_P (dC, dI) vwCl [(h0, .inr (1, [.int 0, .int 0, .null, .int 0, .int 0, .int 0, .int 0, .int 0, .int 0, .int 0]))] U.heap ∧ va_K (dC, dI) vwCl [] U ∧ va_D (fun _ => True) [(h0, .inr (1, [.int 0, .int 0, .null, .int 0, .int 0, .int 0, .int 0, .int 0, .int 0, .int 0]))] ∧ va_Nw (.methodLinkNest RX1 1 yX3_init "UnibusMachine") U)) (va_Qv (fun (u : Unit) => True) (fun (u : Unit) (t : State) => ∃ (aw : Nat) (tw : ClassId), va_P (dC, dI) vwCl [(h0, .inr (1, [.int 128, .int 0, .ref aw, .int 0, .int 0, .int 0, .int 0, .int 0, .int 0, .int 0])), (aw, .inl (tw, 128, .inl (fun _ => 0)))] t.heap ∧ va_K (dC, dI) vwCl [(tw, .int)] t ∧ va_D (va_A [(h0, .inr (1, [.int 0, .int 0, .null, .int 0, .int 0, .int 0, .int 0, .int 0, .int 0, .int 0]))] sz) [(h0, .inr (1, [.int 128, .int 0, .ref aw, .int 0, .int 0, .int 0, .int 0, .int 0, .int 0, .int 0])), (aw, .inl (tw, 128, .inl (fun _ => 0)))]) (va_A [(h0, .inr (1, [.int 0, .int 0, .null, .int 0, .int 0, .int 0, .int 0, .int 0, .int 0, .int 0]))] sz)) 1 128 (va_A [(h0, .inr (1, [.int 0, .int 0, .null, .int 0, .int 0, .int 0, .int 0, .int 0, .int 0, .int 0]))] sz) := by
  refine Met.ofW (cc := cX1_init) (maxL := 1) (ret := none) (by decide) rfl ?_
  intro p e s m args below meth c s₁ B hml hv
  obtain ⟨rfl, hsz, hP, hK, hD0, hnX1_1⟩ := hv
  have hx := B.exec
  have hb := B.bytes
  have hr := B.returns
  have hts := atoms_spec (ws := wsX1_init) B.pre
  have hown : s.vm.findClass RX1 = some m.cls := findClass_of_methodNamed B.named
  have hlocks := B.notSynchronized
  have hin : meth.name = "<init>" := (name_of_methodNamed B.named B.method).1
  subst hsz
  have hD := hD0.self (sz := s.heap.size)
  generalize hAe : va_A [(h0, .inr (1, [.int 0, .int 0, .null, .int 0, .int 0, .int 0, .int 0, .int 0, .int 0, .int 0]))] s.heap.size = A at hD ⊢
  have hA : ∀ q : Nat, s.heap.size ≤ q → A q := fun q h => by rw [← hAe]; exact Or.inr h
  have hS0 : ∀ G : Heap, s.heap = G → va_S A s.heap G [] := fun G h => by subst h; exact va_S.rf
  generalize hHe : s.heap = H at hP ⊢
  have hS := hS0 H hHe
  have hP : va_P (dC, dI) vwCl [(h0, .inr (1, [.int 0, .int 0, .null, .int 0, .int 0, .int 0, .int 0, .int 0, .int 0, .int 0]))] H := hP
  have hD : va_D A [(h0, .inr (1, [.int 0, .int 0, .null, .int 0, .int 0, .int 0, .int 0, .int 0, .int 0, .int 0]))] := hD
  have hK : va_K (dC, dI) vwCl [] s := hK
  have hl := lv_entry ([.ref h0]) (n := 1) (Nat.le_of_ble_eq_true rfl)
  rw [lg_entry_eq]
  generalize (lg_sl ([.ref h0]) ++ List.replicate (1 - (lg_sl ([.ref h0])).length) Slot.unset).toArray = ls at hl ⊢
  have hl : lv_has ls 1 [(0, .ref h0)] := hl
  refine lv_aload_n hx hb dX1_init_0 rfl (lv_at hl 0 rfl) ?_
  have hPc := hP.sub (ws' := [(h0, .inr (1, [.int 0, .int 0, .null, .int 0, .int 0, .int 0, .int 0, .int 0, .int 0, .int 0]))]) [0] rfl
  have hDc := hD.sub (ws' := [(h0, .inr (1, [.int 0, .int 0, .null, .int 0, .int 0, .int 0, .int 0, .int 0, .int 0, .int 0]))]) [0] (by decide) rfl
  have hKc := hK.sub (tys' := []) [] rfl
  have hFc := va_free (wc := [(h0, .inr (1, [.int 0, .int 0, .null, .int 0, .int 0, .int 0, .int 0, .int 0, .int 0, .int 0]))]) hD hS hA [0] rfl
  refine va_callv (va_runIN (As := []) (rest := []) ⟨hx, hb, hml, hown, hts⟩ (c_Line_init_D l dC dI h0 H.size) ⟨va_cnB (host := "UnibusMachine") 0 hts gX1_init_X3_init_n1 rfl rfl rfl hnX1_1 (hts (.initialized RX3) (by decide +kernel)) (by decide +kernel) ⟨Nat.le_of_ble_eq_true rfl, Nat.le_of_ble_eq_true rfl⟩, rfl, (hts (.instanceMethod yX3_init) (by decide +kernel))⟩ ⟨fun a U g mk q => by obtain ⟨q0, q1, qP, qK, qD⟩ := q; exact ⟨q0, q1, qP, va_K.moved (u := U) (U := U.calling g mk a) (Vm.Alike.refl U.vm) qK, qD⟩, fun U hU hW => ⟨rfl, by rw [hU], by rw [hU]; exact hPc, va_K.moved hW.alike hKc, hDc.weaken (fun _ _ _ _ => trivial)⟩⟩ rfl rfl hl.1 rfl (lv_room (Nat.le_of_ble_eq_true rfl)) dX1_init_1 ⟨Nat.le_of_ble_eq_true rfl, Nat.le_of_ble_eq_true rfl⟩) hS (fun q _ h => hFc q h) hFc (fun u2 t H1 locs ht hvm hw hB hz1 hk1 hS => ?_)
  obtain ⟨hP1, hK1, hD1⟩ := hB
  rw [ht] at hP1
  have hK1 := va_K.moved hvm.symm hK1
  try dsimp only at hw
  obtain ⟨hP, hD⟩ := va_join (wr := []) (w1 := [(h0, .inr (1, [.int 0, .int 0, .null, .int 0, .int 0, .int 0, .int 0, .int 0, .int 0, .int 0]))]) hP hD [0] [] rfl rfl (by decide) (by decide) hk1 hFc hP1 hD1
  have hK := (hK.sub (tys' := []) [] rfl).app hK1
  generalize H1 = H at hP hS ⊢
  have hP : va_P (dC, dI) vwCl [(h0, .inr (1, [.int 0, .int 0, .null, .int 0, .int 0, .int 0, .int 0, .int 0, .int 0, .int 0]))] H := hP
  have hD : va_D A [(h0, .inr (1, [.int 0, .int 0, .null, .int 0, .int 0, .int 0, .int 0, .int 0, .int 0, .int 0]))] := hD
  have hK : va_K (dC, dI) vwCl [] s := hK
  refine lv_aload_n hx hb dX1_init_4 rfl (lv_at hl 0 rfl) ?_
  refine lv_sipush (v := 128) hx hb dX1_init_5 (by decide) ?_
  refine va_newa (atype := .int) (ty := .int) (a0 := (128, .inl (fun _ => 0))) hx hb (hts (.arrayClass .int) (by decide +kernel)) rfl hK hP hD hS hA (fun _ => rfl) (by decide) (by decide) (Nat.le_of_ble_eq_true rfl) (Nat.le_of_ble_eq_true rfl) (Nat.le_of_ble_eq_true rfl) dX1_init_8 (fun q3 cA4 H hK hP hD hS => ?_)
  have hP : va_P (dC, dI) vwCl [(h0, .inr (1, [.int 0, .int 0, .null, .int 0, .int 0, .int 0, .int 0, .int 0, .int 0, .int 0])), (q3, .inl (cA4, 128, .inl (fun _ => 0)))] H := hP
  have hD : va_D A [(h0, .inr (1, [.int 0, .int 0, .null, .int 0, .int 0, .int 0, .int 0, .int 0, .int 0, .int 0])), (q3, .inl (cA4, 128, .inl (fun _ => 0)))] := hD
  have hK : va_K (dC, dI) vwCl [(cA4, .int)] s := hK
  refine W.widen (k := 1) (n := 128) (Nat.le_of_ble_eq_true rfl) (Nat.le_of_ble_eq_true rfl) ?_
  refine va_putF (D := (dC, dI)) (ci := 1) (v := .ref q3) (ty := .array .int) (C := RX1) (T := TX1) (N := 10) hx hb hts (by decide +kernel) tyX1 tyX1_ok nmX1 hown hK hP hD hS 0 rfl rfl 2 (by decide) (hts (.fieldLink RX1 9 "UnibusMachine$Drive" "words" "[I") (by decide +kernel)) (fun _ h9 => h9) rfl hin rfl (by decide +kernel) rfl rfl (Nat.le_of_ble_eq_true rfl) dX1_init_10 (fun H locs hP hD hS => ?_)
  have hP : va_P (dC, dI) vwCl [(h0, .inr (1, [.int 0, .int 0, .ref q3, .int 0, .int 0, .int 0, .int 0, .int 0, .int 0, .int 0])), (q3, .inl (cA4, 128, .inl (fun _ => 0)))] H := hP
  have hD : va_D A [(h0, .inr (1, [.int 0, .int 0, .ref q3, .int 0, .int 0, .int 0, .int 0, .int 0, .int 0, .int 0])), (q3, .inl (cA4, 128, .inl (fun _ => 0)))] := hD
  refine lv_aload_n hx hb dX1_init_13 rfl (lv_at hl 0 rfl) ?_
  refine lv_iconst (v := 0) hx hb dX1_init_14 (by decide) ?_
  refine va_put (D := (dC, dI)) (ci := 1) (v := .int 0) (ty := .int) (C := RX1) (T := TX1) (N := 10) hx hb hts (by decide +kernel) tyX1 tyX1_ok nmX1 hown hK hP hD hS 0 rfl rfl 3 (by decide) (hts (.fieldLink RX1 13 "UnibusMachine$Drive" "writing" "I") (by decide +kernel)) (fun _ h9 => h9) rfl (by decide +kernel) rfl rfl (Nat.le_of_ble_eq_true rfl) dX1_init_15 (fun H locs hP hD hS => ?_)
  have hP : va_P (dC, dI) vwCl [(h0, .inr (1, [.int 0, .int 0, .ref q3, .int 0, .int 0, .int 0, .int 0, .int 0, .int 0, .int 0])), (q3, .inl (cA4, 128, .inl (fun _ => 0)))] H := hP
  have hD : va_D A [(h0, .inr (1, [.int 0, .int 0, .ref q3, .int 0, .int 0, .int 0, .int 0, .int 0, .int 0, .int 0])), (q3, .inl (cA4, 128, .inl (fun _ => 0)))] := hD
  refine lv_aload_n hx hb dX1_init_18 rfl (lv_at hl 0 rfl) ?_
  refine lv_iconst (v := 0) hx hb dX1_init_19 (by decide) ?_
  refine va_put (D := (dC, dI)) (ci := 1) (v := .int 0) (ty := .int) (C := RX1) (T := TX1) (N := 10) hx hb hts (by decide +kernel) tyX1 tyX1_ok nmX1 hown hK hP hD hS 0 rfl rfl 4 (by decide) (hts (.fieldLink RX1 17 "UnibusMachine$Drive" "wrong" "I") (by decide +kernel)) (fun _ h9 => h9) rfl (by decide +kernel) rfl rfl (Nat.le_of_ble_eq_true rfl) dX1_init_20 (fun H locs hP hD hS => ?_)
  have hP : va_P (dC, dI) vwCl [(h0, .inr (1, [.int 0, .int 0, .ref q3, .int 0, .int 0, .int 0, .int 0, .int 0, .int 0, .int 0])), (q3, .inl (cA4, 128, .inl (fun _ => 0)))] H := hP
  have hD : va_D A [(h0, .inr (1, [.int 0, .int 0, .ref q3, .int 0, .int 0, .int 0, .int 0, .int 0, .int 0, .int 0])), (q3, .inl (cA4, 128, .inl (fun _ => 0)))] := hD
  refine lv_aload_n hx hb dX1_init_23 rfl (lv_at hl 0 rfl) ?_
  refine lv_iconst (v := 0) hx hb dX1_init_24 (by decide) ?_
  refine va_put (D := (dC, dI)) (ci := 1) (v := .int 0) (ty := .int) (C := RX1) (T := TX1) (N := 10) hx hb hts (by decide +kernel) tyX1 tyX1_ok nmX1 hown hK hP hD hS 0 rfl rfl 5 (by decide) (hts (.fieldLink RX1 20 "UnibusMachine$Drive" "count" "I") (by decide +kernel)) (fun _ h9 => h9) rfl (by decide +kernel) rfl rfl (Nat.le_of_ble_eq_true rfl) dX1_init_25 (fun H locs hP hD hS => ?_)
  have hP : va_P (dC, dI) vwCl [(h0, .inr (1, [.int 0, .int 0, .ref q3, .int 0, .int 0, .int 0, .int 0, .int 0, .int 0, .int 0])), (q3, .inl (cA4, 128, .inl (fun _ => 0)))] H := hP
  have hD : va_D A [(h0, .inr (1, [.int 0, .int 0, .ref q3, .int 0, .int 0, .int 0, .int 0, .int 0, .int 0, .int 0])), (q3, .inl (cA4, 128, .inl (fun _ => 0)))] := hD
  refine lv_aload_n hx hb dX1_init_28 rfl (lv_at hl 0 rfl) ?_
  refine lv_iconst (v := 0) hx hb dX1_init_29 (by decide) ?_
  refine va_put (D := (dC, dI)) (ci := 1) (v := .int 0) (ty := .int) (C := RX1) (T := TX1) (N := 10) hx hb hts (by decide +kernel) tyX1 tyX1_ok nmX1 hown hK hP hD hS 0 rfl rfl 6 (by decide) (hts (.fieldLink RX1 23 "UnibusMachine$Drive" "address" "I") (by decide +kernel)) (fun _ h9 => h9) rfl (by decide +kernel) rfl rfl (Nat.le_of_ble_eq_true rfl) dX1_init_30 (fun H locs hP hD hS => ?_)
  have hP : va_P (dC, dI) vwCl [(h0, .inr (1, [.int 0, .int 0, .ref q3, .int 0, .int 0, .int 0, .int 0, .int 0, .int 0, .int 0])), (q3, .inl (cA4, 128, .inl (fun _ => 0)))] H := hP
  have hD : va_D A [(h0, .inr (1, [.int 0, .int 0, .ref q3, .int 0, .int 0, .int 0, .int 0, .int 0, .int 0, .int 0])), (q3, .inl (cA4, 128, .inl (fun _ => 0)))] := hD
  refine lv_aload_n hx hb dX1_init_33 rfl (lv_at hl 0 rfl) ?_
  refine lv_iconst (v := 0) hx hb dX1_init_34 (by decide) ?_
  refine va_put (D := (dC, dI)) (ci := 1) (v := .int 0) (ty := .int) (C := RX1) (T := TX1) (N := 10) hx hb hts (by decide +kernel) tyX1 tyX1_ok nmX1 hown hK hP hD hS 0 rfl rfl 7 (by decide) (hts (.fieldLink RX1 26 "UnibusMachine$Drive" "sector" "I") (by decide +kernel)) (fun _ h9 => h9) rfl (by decide +kernel) rfl rfl (Nat.le_of_ble_eq_true rfl) dX1_init_35 (fun H locs hP hD hS => ?_)
  have hP : va_P (dC, dI) vwCl [(h0, .inr (1, [.int 0, .int 0, .ref q3, .int 0, .int 0, .int 0, .int 0, .int 0, .int 0, .int 0])), (q3, .inl (cA4, 128, .inl (fun _ => 0)))] H := hP
  have hD : va_D A [(h0, .inr (1, [.int 0, .int 0, .ref q3, .int 0, .int 0, .int 0, .int 0, .int 0, .int 0, .int 0])), (q3, .inl (cA4, 128, .inl (fun _ => 0)))] := hD
  refine lv_aload_n hx hb dX1_init_38 rfl (lv_at hl 0 rfl) ?_
  refine lv_iconst (v := 0) hx hb dX1_init_39 (by decide) ?_
  refine va_put (D := (dC, dI)) (ci := 1) (v := .int 0) (ty := .int) (C := RX1) (T := TX1) (N := 10) hx hb hts (by decide +kernel) tyX1 tyX1_ok nmX1 hown hK hP hD hS 0 rfl rfl 8 (by decide) (hts (.fieldLink RX1 29 "UnibusMachine$Drive" "left" "I") (by decide +kernel)) (fun _ h9 => h9) rfl (by decide +kernel) rfl rfl (Nat.le_of_ble_eq_true rfl) dX1_init_40 (fun H locs hP hD hS => ?_)
  have hP : va_P (dC, dI) vwCl [(h0, .inr (1, [.int 0, .int 0, .ref q3, .int 0, .int 0, .int 0, .int 0, .int 0, .int 0, .int 0])), (q3, .inl (cA4, 128, .inl (fun _ => 0)))] H := hP
  have hD : va_D A [(h0, .inr (1, [.int 0, .int 0, .ref q3, .int 0, .int 0, .int 0, .int 0, .int 0, .int 0, .int 0])), (q3, .inl (cA4, 128, .inl (fun _ => 0)))] := hD
  refine lv_aload_n hx hb dX1_init_43 rfl (lv_at hl 0 rfl) ?_
  refine lv_iconst (v := 0) hx hb dX1_init_44 (by decide) ?_
  refine va_put (D := (dC, dI)) (ci := 1) (v := .int 0) (ty := .boolean) (C := RX1) (T := TX1) (N := 10) hx hb hts (by decide +kernel) tyX1 tyX1_ok nmX1 hown hK hP hD hS 0 rfl rfl 9 (by decide) (hts (.fieldLink RX1 32 "UnibusMachine$Drive" "fresh" "Z") (by decide +kernel)) (fun _ h9 => h9) rfl (by decide +kernel) (by decide) rfl (Nat.le_of_ble_eq_true rfl) dX1_init_45 (fun H locs hP hD hS => ?_)
  have hP : va_P (dC, dI) vwCl [(h0, .inr (1, [.int 0, .int 0, .ref q3, .int 0, .int 0, .int 0, .int 0, .int 0, .int 0, .int 0])), (q3, .inl (cA4, 128, .inl (fun _ => 0)))] H := hP
  have hD : va_D A [(h0, .inr (1, [.int 0, .int 0, .ref q3, .int 0, .int 0, .int 0, .int 0, .int 0, .int 0, .int 0])), (q3, .inl (cA4, 128, .inl (fun _ => 0)))] := hD
  refine lv_aload_n hx hb dX1_init_48 rfl (lv_at hl 0 rfl) ?_
  refine lv_sipush (v := 128) hx hb dX1_init_49 (by decide) ?_
  refine va_put (D := (dC, dI)) (ci := 1) (v := .int 128) (ty := .int) (C := RX1) (T := TX1) (N := 10) hx hb hts (by decide +kernel) tyX1 tyX1_ok nmX1 hown hK hP hD hS 0 rfl rfl 0 (by decide) (hts (.fieldLink RX1 36 "UnibusMachine$Drive" "bits" "I") (by decide +kernel)) (u_same (hts (.sameField "UnibusMachine$Drive" "UnibusMachine$Line" "bits" "I") (by decide +kernel))) rfl (by decide +kernel) rfl rfl (Nat.le_of_ble_eq_true rfl) dX1_init_52 (fun H locs hP hD hS => ?_)
  have hP : va_P (dC, dI) vwCl [(h0, .inr (1, [.int 128, .int 0, .ref q3, .int 0, .int 0, .int 0, .int 0, .int 0, .int 0, .int 0])), (q3, .inl (cA4, 128, .inl (fun _ => 0)))] H := hP
  have hD : va_D A [(h0, .inr (1, [.int 128, .int 0, .ref q3, .int 0, .int 0, .int 0, .int 0, .int 0, .int 0, .int 0])), (q3, .inl (cA4, 128, .inl (fun _ => 0)))] := hD
  have hP9 := hP.sub (ws' := [(h0, .inr (1, [.int 128, .int 0, .ref q3, .int 0, .int 0, .int 0, .int 0, .int 0, .int 0, .int 0])), (q3, .inl (cA4, 128, .inl (fun _ => 0)))]) [0, 1] rfl
  have hD9 := hD.sub (ws' := [(h0, .inr (1, [.int 128, .int 0, .ref q3, .int 0, .int 0, .int 0, .int 0, .int 0, .int 0, .int 0])), (q3, .inl (cA4, 128, .inl (fun _ => 0)))]) [0, 1] (by decide) rfl
  have hK9 := hK.sub (tys' := [(cA4, .int)]) [0] rfl
  exact W.vret hx hb hr (fun t ht hW => ⟨⟨(), rfl, trivial, q3, cA4, by rw [ht]; exact hP9, va_K.moved hW.alike hK9, hD9⟩, hS.F ht⟩) hS.2.2 dX1_init_55
set_option maxHeartbeats 4000000 in
set_option maxRecDepth 100000 in
theorem c_PageMap_init (l : Launch) (dC : Nat → ClassId) (dI : Nat → Nat → Nat) (h0 : Nat) (sz : Nat) : Met l yX4_init wsX4_init ({ frames := 1, cells := 2, slots := 32, locals := 12 } : Room) (va_Pc [.ref h0] (fun U => U.heap.size = sz ∧ va_P (dC, dI) vwCl [(h0, .inr (3, [.null, .null, .int 0]))] U.heap ∧ va_K (dC, dI) vwCl [] U ∧ va_D (fun _ => True) [(h0, .inr (3, [.null, .null, .int 0]))])) (va_Qv (fun (u : Unit) => True) (fun (u : Unit) (t : State) => ∃ (ad : Nat) (ab : Nat) (td : ClassId) (tb : ClassId), va_P (dC, dI) vwCl [(h0, .inr (3, [.ref ad, .ref ab, .int 0])), (ad, .inl (td, 16, .inl (fun _ => 0))), (ab, .inl (tb, 16, .inl (fun _ => 0)))] t.heap ∧ va_K (dC, dI) vwCl [(td, .int), (tb, .int)] t ∧ va_D (va_A [(h0, .inr (3, [.null, .null, .int 0]))] sz) [(h0, .inr (3, [.ref ad, .ref ab, .int 0])), (ad, .inl (td, 16, .inl (fun _ => 0))), (ab, .inl (tb, 16, .inl (fun _ => 0)))]) (va_A [(h0, .inr (3, [.null, .null, .int 0]))] sz)) 2 32 (va_A [(h0, .inr (3, [.null, .null, .int 0]))] sz) := by
  refine Met.ofW (cc := cX4_init) (maxL := 1) (ret := none) (by decide) rfl ?_
  intro p e s m args below meth c s₁ B hml hv
  obtain ⟨rfl, hsz, hP, hK, hD0⟩ := hv
  have hx := B.exec
  have hb := B.bytes
  have hr := B.returns
  have hts := atoms_spec (ws := wsX4_init) B.pre
  have hown : s.vm.findClass RX4 = some m.cls := findClass_of_methodNamed B.named
  have hlocks := B.notSynchronized
  have hin : meth.name = "<init>" := (name_of_methodNamed B.named B.method).1
  subst hsz
  have hD := hD0.self (sz := s.heap.size)
  generalize hAe : va_A [(h0, .inr (3, [.null, .null, .int 0]))] s.heap.size = A at hD ⊢
  have hA : ∀ q : Nat, s.heap.size ≤ q → A q := fun q h => by rw [← hAe]; exact Or.inr h
  have hS0 : ∀ G : Heap, s.heap = G → va_S A s.heap G [] := fun G h => by subst h; exact va_S.rf
  generalize hHe : s.heap = H at hP ⊢
  have hS := hS0 H hHe
  have hP : va_P (dC, dI) vwCl [(h0, .inr (3, [.null, .null, .int 0]))] H := hP
  have hD : va_D A [(h0, .inr (3, [.null, .null, .int 0]))] := hD
  have hK : va_K (dC, dI) vwCl [] s := hK
  have hl := lv_entry ([.ref h0]) (n := 1) (Nat.le_of_ble_eq_true rfl)
  rw [lg_entry_eq]
  generalize (lg_sl ([.ref h0]) ++ List.replicate (1 - (lg_sl ([.ref h0])).length) Slot.unset).toArray = ls at hl ⊢
  have hl : lv_has ls 1 [(0, .ref h0)] := hl
  refine lv_aload_n hx hb dX4_init_0 rfl (lv_at hl 0 rfl) ?_
  refine W.objInit hx hb hown (hts (.methodLink RX4 3 objectInit) (by decide +kernel)) (hts (.instanceMethod objectInit) (by decide +kernel)) (hts _ (List.mem_of_getElem? (i := 3) rfl)) rfl (by rw [hml]; exact hl.1) rfl dX4_init_1 (Nat.le_of_ble_eq_true rfl) (Nat.le_of_ble_eq_true rfl) ?_
  refine W.eq (g2 := F0 m 4 ls []) rfl ?_
  refine lv_aload_n hx hb dX4_init_4 rfl (lv_at hl 0 rfl) ?_
  refine lv_bipush (v := 16) hx hb dX4_init_5 (by decide) ?_
  refine va_newa (atype := .int) (ty := .int) (a0 := (16, .inl (fun _ => 0))) hx hb (hts (.arrayClass .int) (by decide +kernel)) rfl hK hP hD hS hA (fun _ => rfl) (by decide) (by decide) (Nat.le_of_ble_eq_true rfl) (Nat.le_of_ble_eq_true rfl) (Nat.le_of_ble_eq_true rfl) dX4_init_7 (fun q1 cA2 H hK hP hD hS => ?_)
  have hP : va_P (dC, dI) vwCl [(h0, .inr (3, [.null, .null, .int 0])), (q1, .inl (cA2, 16, .inl (fun _ => 0)))] H := hP
  have hD : va_D A [(h0, .inr (3, [.null, .null, .int 0])), (q1, .inl (cA2, 16, .inl (fun _ => 0)))] := hD
  have hK : va_K (dC, dI) vwCl [(cA2, .int)] s := hK
  refine W.widen (k := 1) (n := 16) (Nat.le_of_ble_eq_true rfl) (Nat.le_of_ble_eq_true rfl) ?_
  refine va_putF (D := (dC, dI)) (ci := 3) (v := .ref q1) (ty := .array .int) (C := RX4) (T := TX4) (N := 3) hx hb hts (by decide +kernel) tyX4 tyX4_ok nmX4 hown hK hP hD hS 0 rfl rfl 0 (by decide) (hts (.fieldLink RX4 9 "UnibusMachine$PageMap" "descriptors" "[I") (by decide +kernel)) (fun _ h9 => h9) rfl hin rfl (by decide +kernel) rfl rfl (Nat.le_of_ble_eq_true rfl) dX4_init_9 (fun H locs hP hD hS => ?_)
  have hP : va_P (dC, dI) vwCl [(h0, .inr (3, [.ref q1, .null, .int 0])), (q1, .inl (cA2, 16, .inl (fun _ => 0)))] H := hP
  have hD : va_D A [(h0, .inr (3, [.ref q1, .null, .int 0])), (q1, .inl (cA2, 16, .inl (fun _ => 0)))] := hD
  refine lv_aload_n hx hb dX4_init_12 rfl (lv_at hl 0 rfl) ?_
  refine lv_bipush (v := 16) hx hb dX4_init_13 (by decide) ?_
  refine va_newa (atype := .int) (ty := .int) (a0 := (16, .inl (fun _ => 0))) hx hb (hts (.arrayClass .int) (by decide +kernel)) rfl hK hP hD hS hA (fun _ => rfl) (by decide) (by decide) (Nat.le_of_ble_eq_true rfl) (Nat.le_of_ble_eq_true rfl) (Nat.le_of_ble_eq_true rfl) dX4_init_15 (fun q3 cA4 H hK hP hD hS => ?_)
  have hP : va_P (dC, dI) vwCl [(h0, .inr (3, [.ref q1, .null, .int 0])), (q1, .inl (cA2, 16, .inl (fun _ => 0))), (q3, .inl (cA4, 16, .inl (fun _ => 0)))] H := hP
  have hD : va_D A [(h0, .inr (3, [.ref q1, .null, .int 0])), (q1, .inl (cA2, 16, .inl (fun _ => 0))), (q3, .inl (cA4, 16, .inl (fun _ => 0)))] := hD
  have hK : va_K (dC, dI) vwCl [(cA2, .int), (cA4, .int)] s := hK
  refine W.widen (k := 2) (n := 32) (Nat.le_of_ble_eq_true rfl) (Nat.le_of_ble_eq_true rfl) ?_
  refine va_putF (D := (dC, dI)) (ci := 3) (v := .ref q3) (ty := .array .int) (C := RX4) (T := TX4) (N := 3) hx hb hts (by decide +kernel) tyX4 tyX4_ok nmX4 hown hK hP hD hS 0 rfl rfl 1 (by decide) (hts (.fieldLink RX4 13 "UnibusMachine$PageMap" "bases" "[I") (by decide +kernel)) (fun _ h9 => h9) rfl hin rfl (by decide +kernel) rfl rfl (Nat.le_of_ble_eq_true rfl) dX4_init_17 (fun H locs hP hD hS => ?_)
  have hP : va_P (dC, dI) vwCl [(h0, .inr (3, [.ref q1, .ref q3, .int 0])), (q1, .inl (cA2, 16, .inl (fun _ => 0))), (q3, .inl (cA4, 16, .inl (fun _ => 0)))] H := hP
  have hD : va_D A [(h0, .inr (3, [.ref q1, .ref q3, .int 0])), (q1, .inl (cA2, 16, .inl (fun _ => 0))), (q3, .inl (cA4, 16, .inl (fun _ => 0)))] := hD
  refine lv_aload_n hx hb dX4_init_20 rfl (lv_at hl 0 rfl) ?_
  refine lv_iconst (v := 0) hx hb dX4_init_21 (by decide) ?_
  refine va_put (D := (dC, dI)) (ci := 3) (v := .int 0) (ty := .int) (C := RX4) (T := TX4) (N := 3) hx hb hts (by decide +kernel) tyX4 tyX4_ok nmX4 hown hK hP hD hS 0 rfl rfl 2 (by decide) (hts (.fieldLink RX4 16 "UnibusMachine$PageMap" "control" "I") (by decide +kernel)) (fun _ h9 => h9) rfl (by decide +kernel) rfl rfl (Nat.le_of_ble_eq_true rfl) dX4_init_22 (fun H locs hP hD hS => ?_)
  have hP : va_P (dC, dI) vwCl [(h0, .inr (3, [.ref q1, .ref q3, .int 0])), (q1, .inl (cA2, 16, .inl (fun _ => 0))), (q3, .inl (cA4, 16, .inl (fun _ => 0)))] H := hP
  have hD : va_D A [(h0, .inr (3, [.ref q1, .ref q3, .int 0])), (q1, .inl (cA2, 16, .inl (fun _ => 0))), (q3, .inl (cA4, 16, .inl (fun _ => 0)))] := hD
  have hP9 := hP.sub (ws' := [(h0, .inr (3, [.ref q1, .ref q3, .int 0])), (q1, .inl (cA2, 16, .inl (fun _ => 0))), (q3, .inl (cA4, 16, .inl (fun _ => 0)))]) [0, 1, 2] rfl
  have hD9 := hD.sub (ws' := [(h0, .inr (3, [.ref q1, .ref q3, .int 0])), (q1, .inl (cA2, 16, .inl (fun _ => 0))), (q3, .inl (cA4, 16, .inl (fun _ => 0)))]) [0, 1, 2] (by decide) rfl
  have hK9 := hK.sub (tys' := [(cA2, .int), (cA4, .int)]) [0, 1] rfl
  exact W.vret hx hb hr (fun t ht hW => ⟨⟨(), rfl, trivial, q1, q3, cA2, cA4, by rw [ht]; exact hP9, va_K.moved hW.alike hK9, hD9⟩, hS.F ht⟩) hS.2.2 dX4_init_25
set_option maxHeartbeats 4000000 in
set_option maxRecDepth 100000 in
theorem c_Status_init (l : Launch) (dC : Nat → ClassId) (dI : Nat → Nat → Nat) (h0 : Nat) (sz : Nat) : Met l yX7_init wsX7_init ({ frames := 1, cells := 0, slots := 0, locals := 12 } : Room) (va_Pc [.ref h0] (fun U => U.heap.size = sz ∧ va_P (dC, dI) vwCl [(h0, .inr (6, [.int 0, .int 0]))] U.heap ∧ va_K (dC, dI) vwCl [] U ∧ va_D (fun _ => True) [(h0, .inr (6, [.int 0, .int 0]))])) (va_Qv (fun (u : Unit) => True) (fun (u : Unit) (t : State) => va_P (dC, dI) vwCl [(h0, .inr (6, [.int 0, .int (-1)]))] t.heap ∧ va_K (dC, dI) vwCl [] t ∧ va_D (va_A [(h0, .inr (6, [.int 0, .int 0]))] sz) [(h0, .inr (6, [.int 0, .int (-1)]))]) (va_A [(h0, .inr (6, [.int 0, .int 0]))] sz)) 0 0 (va_A [(h0, .inr (6, [.int 0, .int 0]))] sz) := by
  refine Met.ofW (cc := cX7_init) (maxL := 1) (ret := none) (by decide) rfl ?_
  intro p e s m args below meth c s₁ B hml hv
  obtain ⟨rfl, hsz, hP, hK, hD0⟩ := hv
  have hx := B.exec
  have hb := B.bytes
  have hr := B.returns
  have hts := atoms_spec (ws := wsX7_init) B.pre
  have hown : s.vm.findClass RX7 = some m.cls := findClass_of_methodNamed B.named
  have hlocks := B.notSynchronized
  have hin : meth.name = "<init>" := (name_of_methodNamed B.named B.method).1
  subst hsz
  have hD := hD0.self (sz := s.heap.size)
  generalize hAe : va_A [(h0, .inr (6, [.int 0, .int 0]))] s.heap.size = A at hD ⊢
  have hA : ∀ q : Nat, s.heap.size ≤ q → A q := fun q h => by rw [← hAe]; exact Or.inr h
  have hS0 : ∀ G : Heap, s.heap = G → va_S A s.heap G [] := fun G h => by subst h; exact va_S.rf
  generalize hHe : s.heap = H at hP ⊢
  have hS := hS0 H hHe
  have hP : va_P (dC, dI) vwCl [(h0, .inr (6, [.int 0, .int 0]))] H := hP
  have hD : va_D A [(h0, .inr (6, [.int 0, .int 0]))] := hD
  have hK : va_K (dC, dI) vwCl [] s := hK
  have hl := lv_entry ([.ref h0]) (n := 1) (Nat.le_of_ble_eq_true rfl)
  rw [lg_entry_eq]
  generalize (lg_sl ([.ref h0]) ++ List.replicate (1 - (lg_sl ([.ref h0])).length) Slot.unset).toArray = ls at hl ⊢
  have hl : lv_has ls 1 [(0, .ref h0)] := hl
  refine lv_aload_n hx hb dX7_init_0 rfl (lv_at hl 0 rfl) ?_
  refine W.objInit hx hb hown (hts (.methodLink RX7 1 objectInit) (by decide +kernel)) (hts (.instanceMethod objectInit) (by decide +kernel)) (hts _ (List.mem_of_getElem? (i := 3) rfl)) rfl (by rw [hml]; exact hl.1) rfl dX7_init_1 (Nat.le_of_ble_eq_true rfl) (Nat.le_of_ble_eq_true rfl) ?_
  refine W.eq (g2 := F0 m 4 ls []) rfl ?_
  refine lv_aload_n hx hb dX7_init_4 rfl (lv_at hl 0 rfl) ?_
  refine lv_iconst (v := 0) hx hb dX7_init_5 (by decide) ?_
  refine va_put (D := (dC, dI)) (ci := 6) (v := .int 0) (ty := .int) (C := RX7) (T := TX7) (N := 2) hx hb hts (by decide +kernel) tyX7 tyX7_ok nmX7 hown hK hP hD hS 0 rfl rfl 0 (by decide) (hts (.fieldLink RX7 7 "UnibusMachine$Status" "now" "I") (by decide +kernel)) (fun _ h9 => h9) rfl (by decide +kernel) rfl rfl (Nat.le_of_ble_eq_true rfl) dX7_init_6 (fun H locs hP hD hS => ?_)
  have hP : va_P (dC, dI) vwCl [(h0, .inr (6, [.int 0, .int 0]))] H := hP
  have hD : va_D A [(h0, .inr (6, [.int 0, .int 0]))] := hD
  refine lv_aload_n hx hb dX7_init_9 rfl (lv_at hl 0 rfl) ?_
  refine lv_iconst (v := (-1)) hx hb dX7_init_10 (by decide) ?_
  refine va_put (D := (dC, dI)) (ci := 6) (v := .int (-1)) (ty := .int) (C := RX7) (T := TX7) (N := 2) hx hb hts (by decide +kernel) tyX7 tyX7_ok nmX7 hown hK hP hD hS 0 rfl rfl 1 (by decide) (hts (.fieldLink RX7 13 "UnibusMachine$Status" "written" "I") (by decide +kernel)) (fun _ h9 => h9) rfl (by decide +kernel) rfl rfl (Nat.le_of_ble_eq_true rfl) dX7_init_11 (fun H locs hP hD hS => ?_)
  have hP : va_P (dC, dI) vwCl [(h0, .inr (6, [.int 0, .int (-1)]))] H := hP
  have hD : va_D A [(h0, .inr (6, [.int 0, .int (-1)]))] := hD
  have hP9 := hP.sub (ws' := [(h0, .inr (6, [.int 0, .int (-1)]))]) [0] rfl
  have hD9 := hD.sub (ws' := [(h0, .inr (6, [.int 0, .int (-1)]))]) [0] (by decide) rfl
  have hK9 := hK.sub (tys' := []) [] rfl
  exact W.vret hx hb hr (fun t ht hW => ⟨⟨(), rfl, trivial, by rw [ht]; exact hP9, va_K.moved hW.alike hK9, hD9⟩, hS.F ht⟩) hS.2.2 dX7_init_14
set_option maxHeartbeats 4000000 in
set_option maxRecDepth 100000 in
theorem c_Bus_init (l : Launch) (dC : Nat → ClassId) (dI : Nat → Nat → Nat) (h0 : Nat) (sz : Nat) : Met l yX0_init wsX0_init ({ frames := 3, cells := 10, slots := 729, locals := 52 } : Room) (va_Pc [.ref h0] (fun U => U.heap.size = sz ∧ va_P (dC, dI) vwCl [(h0, .inr (0, [.null, .null, .null, .null, .null, .null]))] U.heap ∧ va_K (dC, dI) vwCl [] U ∧ va_D (fun _ => True) [(h0, .inr (0, [.null, .null, .null, .null, .null, .null]))] ∧ va_Nw (.methodLinkNest RX0 15 yX4_init "UnibusMachine") U ∧ va_Nw (.methodLinkNest RX0 22 yX7_init "UnibusMachine") U ∧ va_Nw (.methodLinkNest RX0 29 yX2_init "UnibusMachine") U ∧ va_Nw (.methodLinkNest RX2 1 yX3_init "UnibusMachine") U ∧ va_Nw (.methodLinkNest RX5 1 yX3_init "UnibusMachine") U ∧ va_Nw (.methodLinkNest RX1 1 yX3_init "UnibusMachine") U)) (va_Qv (fun (u : Unit) => True) (fun (u : Unit) (t : State) => ∃ (am : Nat) (oM : Nat) (oS : Nat) (oK : Nat) (oL : Nat) (oD : Nat) (ad : Nat) (ab : Nat) (ap : Nat) (aw : Nat) (tm : ClassId) (td : ClassId) (tb : ClassId) (tp : ClassId) (tw : ClassId), va_P (dC, dI) vwCl [(h0, .inr (0, [.ref am, .ref oM, .ref oS, .ref oK, .ref oL, .ref oD])), (am, .inl (tm, 512, .inl (fun _ => 0))), (oM, .inr (3, [.ref ad, .ref ab, .int 0])), (ad, .inl (td, 16, .inl (fun _ => 0))), (ab, .inl (tb, 16, .inl (fun _ => 0))), (oS, .inr (6, [.int 0, .int (-1)])), (oK, .inr (2, [.int 0, .int 0, .int 0])), (oL, .inr (4, [.int 128, .int 0, .ref ap, .int 0, .int 0, .int 0, .int 0])), (ap, .inl (tp, 32, .inl (fun _ => 0))), (oD, .inr (1, [.int 128, .int 0, .ref aw, .int 0, .int 0, .int 0, .int 0, .int 0, .int 0, .int 0])), (aw, .inl (tw, 128, .inl (fun _ => 0)))] t.heap ∧ va_K (dC, dI) vwCl [(tm, .int), (td, .int), (tb, .int), (tp, .int), (tw, .int)] t ∧ va_D (va_A [(h0, .inr (0, [.null, .null, .null, .null, .null, .null]))] sz) [(h0, .inr (0, [.ref am, .ref oM, .ref oS, .ref oK, .ref oL, .ref oD])), (am, .inl (tm, 512, .inl (fun _ => 0))), (oM, .inr (3, [.ref ad, .ref ab, .int 0])), (ad, .inl (td, 16, .inl (fun _ => 0))), (ab, .inl (tb, 16, .inl (fun _ => 0))), (oS, .inr (6, [.int 0, .int (-1)])), (oK, .inr (2, [.int 0, .int 0, .int 0])), (oL, .inr (4, [.int 128, .int 0, .ref ap, .int 0, .int 0, .int 0, .int 0])), (ap, .inl (tp, 32, .inl (fun _ => 0))), (oD, .inr (1, [.int 128, .int 0, .ref aw, .int 0, .int 0, .int 0, .int 0, .int 0, .int 0, .int 0])), (aw, .inl (tw, 128, .inl (fun _ => 0)))]) (va_A [(h0, .inr (0, [.null, .null, .null, .null, .null, .null]))] sz)) 10 729 (va_A [(h0, .inr (0, [.null, .null, .null, .null, .null, .null]))] sz) := by
  refine Met.ofW (cc := cX0_init) (maxL := 1) (ret := none) (by decide) rfl ?_
  intro p e s m args below meth c s₁ B hml hv
  obtain ⟨rfl, hsz, hP, hK, hD0, hnX0_15, hnX0_22, hnX0_29, hnX2_1, hnX5_1, hnX1_1⟩ := hv
  have hx := B.exec
  have hb := B.bytes
  have hr := B.returns
  have hts := atoms_spec (ws := wsX0_init) B.pre
  have hown : s.vm.findClass RX0 = some m.cls := findClass_of_methodNamed B.named
  have hlocks := B.notSynchronized
  have hin : meth.name = "<init>" := (name_of_methodNamed B.named B.method).1
  subst hsz
  have hD := hD0.self (sz := s.heap.size)
  generalize hAe : va_A [(h0, .inr (0, [.null, .null, .null, .null, .null, .null]))] s.heap.size = A at hD ⊢
  have hA : ∀ q : Nat, s.heap.size ≤ q → A q := fun q h => by rw [← hAe]; exact Or.inr h
  have hS0 : ∀ G : Heap, s.heap = G → va_S A s.heap G [] := fun G h => by subst h; exact va_S.rf
  generalize hHe : s.heap = H at hP ⊢
  have hS := hS0 H hHe
  have hP : va_P (dC, dI) vwCl [(h0, .inr (0, [.null, .null, .null, .null, .null, .null]))] H := hP
  have hD : va_D A [(h0, .inr (0, [.null, .null, .null, .null, .null, .null]))] := hD
  have hK : va_K (dC, dI) vwCl [] s := hK
  have hl := lv_entry ([.ref h0]) (n := 1) (Nat.le_of_ble_eq_true rfl)
  rw [lg_entry_eq]
  generalize (lg_sl ([.ref h0]) ++ List.replicate (1 - (lg_sl ([.ref h0])).length) Slot.unset).toArray = ls at hl ⊢
  have hl : lv_has ls 1 [(0, .ref h0)] := hl
  refine lv_aload_n hx hb dX0_init_0 rfl (lv_at hl 0 rfl) ?_
  refine W.objInit hx hb hown (hts (.methodLink RX0 1 objectInit) (by decide +kernel)) (hts (.instanceMethod objectInit) (by decide +kernel)) (hts _ (List.mem_of_getElem? (i := 3) rfl)) rfl (by rw [hml]; exact hl.1) rfl dX0_init_1 (Nat.le_of_ble_eq_true rfl) (Nat.le_of_ble_eq_true rfl) ?_
  refine W.eq (g2 := F0 m 4 ls []) rfl ?_
  refine lv_aload_n hx hb dX0_init_4 rfl (lv_at hl 0 rfl) ?_
  refine lv_sipush (v := 512) hx hb dX0_init_5 (by decide) ?_
  refine va_newa (atype := .int) (ty := .int) (a0 := (512, .inl (fun _ => 0))) hx hb (hts (.arrayClass .int) (by decide +kernel)) rfl hK hP hD hS hA (fun _ => rfl) (by decide) (by decide) (Nat.le_of_ble_eq_true rfl) (Nat.le_of_ble_eq_true rfl) (Nat.le_of_ble_eq_true rfl) dX0_init_8 (fun q1 cA2 H hK hP hD hS => ?_)
  have hP : va_P (dC, dI) vwCl [(h0, .inr (0, [.null, .null, .null, .null, .null, .null])), (q1, .inl (cA2, 512, .inl (fun _ => 0)))] H := hP
  have hD : va_D A [(h0, .inr (0, [.null, .null, .null, .null, .null, .null])), (q1, .inl (cA2, 512, .inl (fun _ => 0)))] := hD
  have hK : va_K (dC, dI) vwCl [(cA2, .int)] s := hK
  refine W.widen (k := 1) (n := 512) (Nat.le_of_ble_eq_true rfl) (Nat.le_of_ble_eq_true rfl) ?_
  refine va_putF (D := (dC, dI)) (ci := 0) (v := .ref q1) (ty := .array .int) (C := RX0) (T := TX0) (N := 6) hx hb hts (by decide +kernel) tyX0 tyX0_ok nmX0 hown hK hP hD hS 0 rfl rfl 0 (by decide) (hts (.fieldLink RX0 9 "UnibusMachine$Bus" "memory" "[I") (by decide +kernel)) (fun _ h9 => h9) rfl hin rfl (by decide +kernel) rfl rfl (Nat.le_of_ble_eq_true rfl) dX0_init_10 (fun H locs hP hD hS => ?_)
  have hP : va_P (dC, dI) vwCl [(h0, .inr (0, [.ref q1, .null, .null, .null, .null, .null])), (q1, .inl (cA2, 512, .inl (fun _ => 0)))] H := hP
  have hD : va_D A [(h0, .inr (0, [.ref q1, .null, .null, .null, .null, .null])), (q1, .inl (cA2, 512, .inl (fun _ => 0)))] := hD
  refine lv_aload_n hx hb dX0_init_13 rfl (lv_at hl 0 rfl) ?_
  refine va_new (D := (dC, dI)) (ci := 3) (fs := [.null, .null, .int 0]) (C := RX4) (T := TX4) (N := 3) hx hb hts (by decide +kernel) tyX4 tyX4_ok hown (hts (.classLink RX0 13 RX4) (by decide +kernel)) (hts (.instantiable RX4 3) (by decide +kernel)) (hts (.initialized RX4) (by decide +kernel)) hK hP hD hS hA rfl (fun j hj => by rcases (show j = 0 ∨ j = 1 ∨ j = 2 by omega) with rfl | rfl | rfl <;> rfl) (Nat.le_of_ble_eq_true rfl) (Nat.le_of_ble_eq_true rfl) dX0_init_14 (fun q3 H hP hD hS => ?_)
  have hP : va_P (dC, dI) vwCl [(h0, .inr (0, [.ref q1, .null, .null, .null, .null, .null])), (q1, .inl (cA2, 512, .inl (fun _ => 0))), (q3, .inr (3, [.null, .null, .int 0]))] H := hP
  have hD : va_D A [(h0, .inr (0, [.ref q1, .null, .null, .null, .null, .null])), (q1, .inl (cA2, 512, .inl (fun _ => 0))), (q3, .inr (3, [.null, .null, .int 0]))] := hD
  refine W.widen (k := 2) (n := 515) (Nat.le_of_ble_eq_true rfl) (Nat.le_of_ble_eq_true rfl) ?_
  refine lv_dup hx hb dX0_init_17 rfl ?_
  have hPc := hP.sub (ws' := [(q3, .inr (3, [.null, .null, .int 0]))]) [2] rfl
  have hDc := hD.sub (ws' := [(q3, .inr (3, [.null, .null, .int 0]))]) [2] (by decide) rfl
  have hKc := hK.sub (tys' := []) [] rfl
  have hFc := va_free (wc := [(q3, .inr (3, [.null, .null, .int 0]))]) hD hS hA [2] rfl
  refine va_callv (va_runIN (As := []) (rest := [.ref q3, .ref h0]) ⟨hx, hb, hml, hown, hts⟩ (c_PageMap_init l dC dI q3 H.size) ⟨va_cnB (host := "UnibusMachine") 0 hts gX0_init_X4_init_n15 rfl rfl rfl hnX0_15 (hts (.initialized RX4) (by decide +kernel)) (by decide +kernel) ⟨Nat.le_of_ble_eq_true rfl, Nat.le_of_ble_eq_true rfl⟩, rfl, (hts (.instanceMethod yX4_init) (by decide +kernel))⟩ ⟨fun a U g mk q => by obtain ⟨q0, q1, qP, qK, qD⟩ := q; exact ⟨q0, q1, qP, va_K.moved (u := U) (U := U.calling g mk a) (Vm.Alike.refl U.vm) qK, qD⟩, fun U hU hW => ⟨rfl, by rw [hU], by rw [hU]; exact hPc, va_K.moved hW.alike hKc, hDc.weaken (fun _ _ _ _ => trivial)⟩⟩ rfl rfl hl.1 rfl (lv_room (Nat.le_of_ble_eq_true rfl)) dX0_init_18 ⟨Nat.le_of_ble_eq_true rfl, Nat.le_of_ble_eq_true rfl⟩) hS (fun q _ h => hFc q h) hFc (fun u9 t H1 locs ht hvm hw hB hz1 hk1 hS => ?_)
  obtain ⟨ad4, ab5, td6, tb7, hP1, hK1, hD1⟩ := hB
  rw [ht] at hP1
  have hK1 := va_K.moved hvm.symm hK1
  try dsimp only at hw
  obtain ⟨hP, hD⟩ := va_join (wr := [(h0, .inr (0, [.ref q1, .null, .null, .null, .null, .null])), (q1, .inl (cA2, 512, .inl (fun _ => 0)))]) (w1 := [(q3, .inr (3, [.ref ad4, .ref ab5, .int 0])), (ad4, .inl (td6, 16, .inl (fun _ => 0))), (ab5, .inl (tb7, 16, .inl (fun _ => 0)))]) hP hD [2] [0, 1] rfl rfl (by decide) (by decide) hk1 hFc hP1 hD1
  have hK := (hK.sub (tys' := [(cA2, .int)]) [0] rfl).app hK1
  generalize H1 = H at hP hS ⊢
  have hP : va_P (dC, dI) vwCl [(h0, .inr (0, [.ref q1, .null, .null, .null, .null, .null])), (q1, .inl (cA2, 512, .inl (fun _ => 0))), (q3, .inr (3, [.ref ad4, .ref ab5, .int 0])), (ad4, .inl (td6, 16, .inl (fun _ => 0))), (ab5, .inl (tb7, 16, .inl (fun _ => 0)))] H := hP
  have hD : va_D A [(h0, .inr (0, [.ref q1, .null, .null, .null, .null, .null])), (q1, .inl (cA2, 512, .inl (fun _ => 0))), (q3, .inr (3, [.ref ad4, .ref ab5, .int 0])), (ad4, .inl (td6, 16, .inl (fun _ => 0))), (ab5, .inl (tb7, 16, .inl (fun _ => 0)))] := hD
  have hK : va_K (dC, dI) vwCl [(cA2, .int), (td6, .int), (tb7, .int)] s := hK
  refine W.widen (k := 4) (n := 547) (Nat.le_of_ble_eq_true rfl) (Nat.le_of_ble_eq_true rfl) ?_
  refine va_putF (D := (dC, dI)) (ci := 0) (v := .ref q3) (ty := .object "UnibusMachine$PageMap") (C := RX0) (T := TX0) (N := 6) hx hb hts (by decide +kernel) tyX0 tyX0_ok nmX0 hown hK hP hD hS 0 rfl rfl 1 (by decide) (hts (.fieldLink RX0 16 "UnibusMachine$Bus" "map" "LUnibusMachine$PageMap;") (by decide +kernel)) (fun _ h9 => h9) rfl hin rfl (by decide +kernel) rfl rfl (Nat.le_of_ble_eq_true rfl) dX0_init_21 (fun H locs hP hD hS => ?_)
  have hP : va_P (dC, dI) vwCl [(h0, .inr (0, [.ref q1, .ref q3, .null, .null, .null, .null])), (q1, .inl (cA2, 512, .inl (fun _ => 0))), (q3, .inr (3, [.ref ad4, .ref ab5, .int 0])), (ad4, .inl (td6, 16, .inl (fun _ => 0))), (ab5, .inl (tb7, 16, .inl (fun _ => 0)))] H := hP
  have hD : va_D A [(h0, .inr (0, [.ref q1, .ref q3, .null, .null, .null, .null])), (q1, .inl (cA2, 512, .inl (fun _ => 0))), (q3, .inr (3, [.ref ad4, .ref ab5, .int 0])), (ad4, .inl (td6, 16, .inl (fun _ => 0))), (ab5, .inl (tb7, 16, .inl (fun _ => 0)))] := hD
  refine lv_aload_n hx hb dX0_init_24 rfl (lv_at hl 0 rfl) ?_
  refine va_new (D := (dC, dI)) (ci := 6) (fs := [.int 0, .int 0]) (C := RX7) (T := TX7) (N := 2) hx hb hts (by decide +kernel) tyX7 tyX7_ok hown (hts (.classLink RX0 20 RX7) (by decide +kernel)) (hts (.instantiable RX7 2) (by decide +kernel)) (hts (.initialized RX7) (by decide +kernel)) hK hP hD hS hA rfl (fun j hj => by rcases (show j = 0 ∨ j = 1 by omega) with rfl | rfl <;> rfl) (Nat.le_of_ble_eq_true rfl) (Nat.le_of_ble_eq_true rfl) dX0_init_25 (fun q10 H hP hD hS => ?_)
  have hP : va_P (dC, dI) vwCl [(h0, .inr (0, [.ref q1, .ref q3, .null, .null, .null, .null])), (q1, .inl (cA2, 512, .inl (fun _ => 0))), (q3, .inr (3, [.ref ad4, .ref ab5, .int 0])), (ad4, .inl (td6, 16, .inl (fun _ => 0))), (ab5, .inl (tb7, 16, .inl (fun _ => 0))), (q10, .inr (6, [.int 0, .int 0]))] H := hP
  have hD : va_D A [(h0, .inr (0, [.ref q1, .ref q3, .null, .null, .null, .null])), (q1, .inl (cA2, 512, .inl (fun _ => 0))), (q3, .inr (3, [.ref ad4, .ref ab5, .int 0])), (ad4, .inl (td6, 16, .inl (fun _ => 0))), (ab5, .inl (tb7, 16, .inl (fun _ => 0))), (q10, .inr (6, [.int 0, .int 0]))] := hD
  refine W.widen (k := 5) (n := 549) (Nat.le_of_ble_eq_true rfl) (Nat.le_of_ble_eq_true rfl) ?_
  refine lv_dup hx hb dX0_init_28 rfl ?_
  have hPc := hP.sub (ws' := [(q10, .inr (6, [.int 0, .int 0]))]) [5] rfl
  have hDc := hD.sub (ws' := [(q10, .inr (6, [.int 0, .int 0]))]) [5] (by decide) rfl
  have hKc := hK.sub (tys' := []) [] rfl
  have hFc := va_free (wc := [(q10, .inr (6, [.int 0, .int 0]))]) hD hS hA [5] rfl
  refine va_callv (va_runIN (As := []) (rest := [.ref q10, .ref h0]) ⟨hx, hb, hml, hown, hts⟩ (c_Status_init l dC dI q10 H.size) ⟨va_cnB (host := "UnibusMachine") 0 hts gX0_init_X7_init_n22 rfl rfl rfl hnX0_22 (hts (.initialized RX7) (by decide +kernel)) (by decide +kernel) ⟨Nat.le_of_ble_eq_true rfl, Nat.le_of_ble_eq_true rfl⟩, rfl, (hts (.instanceMethod yX7_init) (by decide +kernel))⟩ ⟨fun a U g mk q => by obtain ⟨q0, q1, qP, qK, qD⟩ := q; exact ⟨q0, q1, qP, va_K.moved (u := U) (U := U.calling g mk a) (Vm.Alike.refl U.vm) qK, qD⟩, fun U hU hW => ⟨rfl, by rw [hU], by rw [hU]; exact hPc, va_K.moved hW.alike hKc, hDc.weaken (fun _ _ _ _ => trivial)⟩⟩ rfl rfl hl.1 rfl (lv_room (Nat.le_of_ble_eq_true rfl)) dX0_init_29 ⟨Nat.le_of_ble_eq_true rfl, Nat.le_of_ble_eq_true rfl⟩) hS (fun q _ h => hFc q h) hFc (fun u12 t H1 locs ht hvm hw hB hz1 hk1 hS => ?_)
  obtain ⟨hP1, hK1, hD1⟩ := hB
  rw [ht] at hP1
  have hK1 := va_K.moved hvm.symm hK1
  try dsimp only at hw
  obtain ⟨hP, hD⟩ := va_join (wr := [(h0, .inr (0, [.ref q1, .ref q3, .null, .null, .null, .null])), (q1, .inl (cA2, 512, .inl (fun _ => 0))), (q3, .inr (3, [.ref ad4, .ref ab5, .int 0])), (ad4, .inl (td6, 16, .inl (fun _ => 0))), (ab5, .inl (tb7, 16, .inl (fun _ => 0)))]) (w1 := [(q10, .inr (6, [.int 0, .int (-1)]))]) hP hD [5] [0, 1, 2, 3, 4] rfl rfl (by decide) (by decide) hk1 hFc hP1 hD1
  have hK := (hK.sub (tys' := [(cA2, .int), (td6, .int), (tb7, .int)]) [0, 1, 2] rfl).app hK1
  generalize H1 = H at hP hS ⊢
  have hP : va_P (dC, dI) vwCl [(h0, .inr (0, [.ref q1, .ref q3, .null, .null, .null, .null])), (q1, .inl (cA2, 512, .inl (fun _ => 0))), (q3, .inr (3, [.ref ad4, .ref ab5, .int 0])), (ad4, .inl (td6, 16, .inl (fun _ => 0))), (ab5, .inl (tb7, 16, .inl (fun _ => 0))), (q10, .inr (6, [.int 0, .int (-1)]))] H := hP
  have hD : va_D A [(h0, .inr (0, [.ref q1, .ref q3, .null, .null, .null, .null])), (q1, .inl (cA2, 512, .inl (fun _ => 0))), (q3, .inr (3, [.ref ad4, .ref ab5, .int 0])), (ad4, .inl (td6, 16, .inl (fun _ => 0))), (ab5, .inl (tb7, 16, .inl (fun _ => 0))), (q10, .inr (6, [.int 0, .int (-1)]))] := hD
  have hK : va_K (dC, dI) vwCl [(cA2, .int), (td6, .int), (tb7, .int)] s := hK
  refine va_putF (D := (dC, dI)) (ci := 0) (v := .ref q10) (ty := .object "UnibusMachine$Status") (C := RX0) (T := TX0) (N := 6) hx hb hts (by decide +kernel) tyX0 tyX0_ok nmX0 hown hK hP hD hS 0 rfl rfl 2 (by decide) (hts (.fieldLink RX0 23 "UnibusMachine$Bus" "status" "LUnibusMachine$Status;") (by decide +kernel)) (fun _ h9 => h9) rfl hin rfl (by decide +kernel) rfl rfl (Nat.le_of_ble_eq_true rfl) dX0_init_32 (fun H locs hP hD hS => ?_)
  have hP : va_P (dC, dI) vwCl [(h0, .inr (0, [.ref q1, .ref q3, .ref q10, .null, .null, .null])), (q1, .inl (cA2, 512, .inl (fun _ => 0))), (q3, .inr (3, [.ref ad4, .ref ab5, .int 0])), (ad4, .inl (td6, 16, .inl (fun _ => 0))), (ab5, .inl (tb7, 16, .inl (fun _ => 0))), (q10, .inr (6, [.int 0, .int (-1)]))] H := hP
  have hD : va_D A [(h0, .inr (0, [.ref q1, .ref q3, .ref q10, .null, .null, .null])), (q1, .inl (cA2, 512, .inl (fun _ => 0))), (q3, .inr (3, [.ref ad4, .ref ab5, .int 0])), (ad4, .inl (td6, 16, .inl (fun _ => 0))), (ab5, .inl (tb7, 16, .inl (fun _ => 0))), (q10, .inr (6, [.int 0, .int (-1)]))] := hD
  refine lv_aload_n hx hb dX0_init_35 rfl (lv_at hl 0 rfl) ?_
  refine va_new (D := (dC, dI)) (ci := 2) (fs := [.int 0, .int 0, .int 0]) (C := RX2) (T := TX2) (N := 3) hx hb hts (by decide +kernel) tyX2 tyX2_ok hown (hts (.classLink RX0 27 RX2) (by decide +kernel)) (hts (.instantiable RX2 3) (by decide +kernel)) (hts (.initialized RX2) (by decide +kernel)) hK hP hD hS hA rfl (fun j hj => by rcases (show j = 0 ∨ j = 1 ∨ j = 2 by omega) with rfl | rfl | rfl <;> rfl) (Nat.le_of_ble_eq_true rfl) (Nat.le_of_ble_eq_true rfl) dX0_init_36 (fun q13 H hP hD hS => ?_)
  have hP : va_P (dC, dI) vwCl [(h0, .inr (0, [.ref q1, .ref q3, .ref q10, .null, .null, .null])), (q1, .inl (cA2, 512, .inl (fun _ => 0))), (q3, .inr (3, [.ref ad4, .ref ab5, .int 0])), (ad4, .inl (td6, 16, .inl (fun _ => 0))), (ab5, .inl (tb7, 16, .inl (fun _ => 0))), (q10, .inr (6, [.int 0, .int (-1)])), (q13, .inr (2, [.int 0, .int 0, .int 0]))] H := hP
  have hD : va_D A [(h0, .inr (0, [.ref q1, .ref q3, .ref q10, .null, .null, .null])), (q1, .inl (cA2, 512, .inl (fun _ => 0))), (q3, .inr (3, [.ref ad4, .ref ab5, .int 0])), (ad4, .inl (td6, 16, .inl (fun _ => 0))), (ab5, .inl (tb7, 16, .inl (fun _ => 0))), (q10, .inr (6, [.int 0, .int (-1)])), (q13, .inr (2, [.int 0, .int 0, .int 0]))] := hD
  refine W.widen (k := 6) (n := 552) (Nat.le_of_ble_eq_true rfl) (Nat.le_of_ble_eq_true rfl) ?_
  refine lv_dup hx hb dX0_init_39 rfl ?_
  have hPc := hP.sub (ws' := [(q13, .inr (2, [.int 0, .int 0, .int 0]))]) [6] rfl
  have hDc := hD.sub (ws' := [(q13, .inr (2, [.int 0, .int 0, .int 0]))]) [6] (by decide) rfl
  have hKc := hK.sub (tys' := []) [] rfl
  have hFc := va_free (wc := [(q13, .inr (2, [.int 0, .int 0, .int 0]))]) hD hS hA [6] rfl
  refine va_callv (va_runIN (As := []) (rest := [.ref q13, .ref h0]) ⟨hx, hb, hml, hown, hts⟩ (c_Keyboard_init l dC dI q13 H.size) ⟨va_cnB (host := "UnibusMachine") 0 hts gX0_init_X2_init_n29 rfl rfl rfl hnX0_29 (hts (.initialized RX2) (by decide +kernel)) (by decide +kernel) ⟨Nat.le_of_ble_eq_true rfl, Nat.le_of_ble_eq_true rfl⟩, rfl, (hts (.instanceMethod yX2_init) (by decide +kernel))⟩ ⟨fun a U g mk q => by obtain ⟨q0, q1, qP, qK, qD, e0⟩ := q; exact ⟨q0, q1, qP, va_K.moved (u := U) (U := U.calling g mk a) (Vm.Alike.refl U.vm) qK, qD, va_Nw.same (U := U.calling g mk a) rfl rfl e0⟩, fun U hU hW => ⟨rfl, by rw [hU], by rw [hU]; exact hPc, va_K.moved hW.alike hKc, hDc.weaken (fun _ _ _ _ => trivial), va_Nw.warmM hW hnX2_1⟩⟩ rfl rfl hl.1 rfl (lv_room (Nat.le_of_ble_eq_true rfl)) dX0_init_40 ⟨Nat.le_of_ble_eq_true rfl, Nat.le_of_ble_eq_true rfl⟩) hS (fun q _ h => hFc q h) hFc (fun u15 t H1 locs ht hvm hw hB hz1 hk1 hS => ?_)
  obtain ⟨hP1, hK1, hD1⟩ := hB
  rw [ht] at hP1
  have hK1 := va_K.moved hvm.symm hK1
  try dsimp only at hw
  obtain ⟨hP, hD⟩ := va_join (wr := [(h0, .inr (0, [.ref q1, .ref q3, .ref q10, .null, .null, .null])), (q1, .inl (cA2, 512, .inl (fun _ => 0))), (q3, .inr (3, [.ref ad4, .ref ab5, .int 0])), (ad4, .inl (td6, 16, .inl (fun _ => 0))), (ab5, .inl (tb7, 16, .inl (fun _ => 0))), (q10, .inr (6, [.int 0, .int (-1)]))]) (w1 := [(q13, .inr (2, [.int 0, .int 0, .int 0]))]) hP hD [6] [0, 1, 2, 3, 4, 5] rfl rfl (by decide) (by decide) hk1 hFc hP1 hD1
  have hK := (hK.sub (tys' := [(cA2, .int), (td6, .int), (tb7, .int)]) [0, 1, 2] rfl).app hK1
  generalize H1 = H at hP hS ⊢
  have hP : va_P (dC, dI) vwCl [(h0, .inr (0, [.ref q1, .ref q3, .ref q10, .null, .null, .null])), (q1, .inl (cA2, 512, .inl (fun _ => 0))), (q3, .inr (3, [.ref ad4, .ref ab5, .int 0])), (ad4, .inl (td6, 16, .inl (fun _ => 0))), (ab5, .inl (tb7, 16, .inl (fun _ => 0))), (q10, .inr (6, [.int 0, .int (-1)])), (q13, .inr (2, [.int 0, .int 0, .int 0]))] H := hP
  have hD : va_D A [(h0, .inr (0, [.ref q1, .ref q3, .ref q10, .null, .null, .null])), (q1, .inl (cA2, 512, .inl (fun _ => 0))), (q3, .inr (3, [.ref ad4, .ref ab5, .int 0])), (ad4, .inl (td6, 16, .inl (fun _ => 0))), (ab5, .inl (tb7, 16, .inl (fun _ => 0))), (q10, .inr (6, [.int 0, .int (-1)])), (q13, .inr (2, [.int 0, .int 0, .int 0]))] := hD
  have hK : va_K (dC, dI) vwCl [(cA2, .int), (td6, .int), (tb7, .int)] s := hK
  refine va_putF (D := (dC, dI)) (ci := 0) (v := .ref q13) (ty := .object "UnibusMachine$Keyboard") (C := RX0) (T := TX0) (N := 6) hx hb hts (by decide +kernel) tyX0 tyX0_ok nmX0 hown hK hP hD hS 0 rfl rfl 3 (by decide) (hts (.fieldLink RX0 30 "UnibusMachine$Bus" "keyboard" "LUnibusMachine$Keyboard;") (by decide +kernel)) (fun _ h9 => h9) rfl hin rfl (by decide +kernel) rfl rfl (Nat.le_of_ble_eq_true rfl) dX0_init_43 (fun H locs hP hD hS => ?_)
  have hP : va_P (dC, dI) vwCl [(h0, .inr (0, [.ref q1, .ref q3, .ref q10, .ref q13, .null, .null])), (q1, .inl (cA2, 512, .inl (fun _ => 0))), (q3, .inr (3, [.ref ad4, .ref ab5, .int 0])), (ad4, .inl (td6, 16, .inl (fun _ => 0))), (ab5, .inl (tb7, 16, .inl (fun _ => 0))), (q10, .inr (6, [.int 0, .int (-1)])), (q13, .inr (2, [.int 0, .int 0, .int 0]))] H := hP
  have hD : va_D A [(h0, .inr (0, [.ref q1, .ref q3, .ref q10, .ref q13, .null, .null])), (q1, .inl (cA2, 512, .inl (fun _ => 0))), (q3, .inr (3, [.ref ad4, .ref ab5, .int 0])), (ad4, .inl (td6, 16, .inl (fun _ => 0))), (ab5, .inl (tb7, 16, .inl (fun _ => 0))), (q10, .inr (6, [.int 0, .int (-1)])), (q13, .inr (2, [.int 0, .int 0, .int 0]))] := hD
  refine lv_aload_n hx hb dX0_init_46 rfl (lv_at hl 0 rfl) ?_
  refine va_new (D := (dC, dI)) (ci := 4) (fs := [.int 0, .int 0, .null, .int 0, .int 0, .int 0, .int 0]) (C := RX5) (T := TX5) (N := 7) hx hb hts (by decide +kernel) tyX5 tyX5_ok hown (hts (.classLink RX0 34 RX5) (by decide +kernel)) (hts (.instantiable RX5 7) (by decide +kernel)) (hts (.initialized RX5) (by decide +kernel)) hK hP hD hS hA rfl (fun j hj => by rcases (show j = 0 ∨ j = 1 ∨ j = 2 ∨ j = 3 ∨ j = 4 ∨ j = 5 ∨ j = 6 by omega) with rfl | rfl | rfl | rfl | rfl | rfl | rfl <;> rfl) (Nat.le_of_ble_eq_true rfl) (Nat.le_of_ble_eq_true rfl) dX0_init_47 (fun q16 H hP hD hS => ?_)
  have hP : va_P (dC, dI) vwCl [(h0, .inr (0, [.ref q1, .ref q3, .ref q10, .ref q13, .null, .null])), (q1, .inl (cA2, 512, .inl (fun _ => 0))), (q3, .inr (3, [.ref ad4, .ref ab5, .int 0])), (ad4, .inl (td6, 16, .inl (fun _ => 0))), (ab5, .inl (tb7, 16, .inl (fun _ => 0))), (q10, .inr (6, [.int 0, .int (-1)])), (q13, .inr (2, [.int 0, .int 0, .int 0])), (q16, .inr (4, [.int 0, .int 0, .null, .int 0, .int 0, .int 0, .int 0]))] H := hP
  have hD : va_D A [(h0, .inr (0, [.ref q1, .ref q3, .ref q10, .ref q13, .null, .null])), (q1, .inl (cA2, 512, .inl (fun _ => 0))), (q3, .inr (3, [.ref ad4, .ref ab5, .int 0])), (ad4, .inl (td6, 16, .inl (fun _ => 0))), (ab5, .inl (tb7, 16, .inl (fun _ => 0))), (q10, .inr (6, [.int 0, .int (-1)])), (q13, .inr (2, [.int 0, .int 0, .int 0])), (q16, .inr (4, [.int 0, .int 0, .null, .int 0, .int 0, .int 0, .int 0]))] := hD
  refine W.widen (k := 7) (n := 559) (Nat.le_of_ble_eq_true rfl) (Nat.le_of_ble_eq_true rfl) ?_
  refine lv_dup hx hb dX0_init_50 rfl ?_
  have hPc := hP.sub (ws' := [(q16, .inr (4, [.int 0, .int 0, .null, .int 0, .int 0, .int 0, .int 0]))]) [7] rfl
  have hDc := hD.sub (ws' := [(q16, .inr (4, [.int 0, .int 0, .null, .int 0, .int 0, .int 0, .int 0]))]) [7] (by decide) rfl
  have hKc := hK.sub (tys' := []) [] rfl
  have hFc := va_free (wc := [(q16, .inr (4, [.int 0, .int 0, .null, .int 0, .int 0, .int 0, .int 0]))]) hD hS hA [7] rfl
  refine va_callv (va_runI (As := []) (rest := [.ref q16, .ref h0]) ⟨hx, hb, hml, hown, hts⟩ (c_Printer_init l dC dI q16 H.size) (cwI 0 hts gX0_init_X5_init rfl rfl rfl (hts (.initialized RX5) (by decide +kernel)) (hts (.methodLink RX0 36 yX5_init) (by decide +kernel)) (hts (.instanceMethod yX5_init) (by decide +kernel)) rfl (by decide +kernel) ⟨Nat.le_of_ble_eq_true rfl, Nat.le_of_ble_eq_true rfl⟩) ⟨fun a U g mk q => by obtain ⟨q0, q1, qP, qK, qD, e0⟩ := q; exact ⟨q0, q1, qP, va_K.moved (u := U) (U := U.calling g mk a) (Vm.Alike.refl U.vm) qK, qD, va_Nw.same (U := U.calling g mk a) rfl rfl e0⟩, fun U hU hW => ⟨rfl, by rw [hU], by rw [hU]; exact hPc, va_K.moved hW.alike hKc, hDc.weaken (fun _ _ _ _ => trivial), va_Nw.warmM hW hnX5_1⟩⟩ rfl rfl hl.1 rfl (lv_room (Nat.le_of_ble_eq_true rfl)) dX0_init_51 ⟨Nat.le_of_ble_eq_true rfl, Nat.le_of_ble_eq_true rfl⟩) hS (fun q _ h => hFc q h) hFc (fun u20 t H1 locs ht hvm hw hB hz1 hk1 hS => ?_)
  obtain ⟨ap17, tp18, hP1, hK1, hD1⟩ := hB
  rw [ht] at hP1
  have hK1 := va_K.moved hvm.symm hK1
  try dsimp only at hw
  obtain ⟨hP, hD⟩ := va_join (wr := [(h0, .inr (0, [.ref q1, .ref q3, .ref q10, .ref q13, .null, .null])), (q1, .inl (cA2, 512, .inl (fun _ => 0))), (q3, .inr (3, [.ref ad4, .ref ab5, .int 0])), (ad4, .inl (td6, 16, .inl (fun _ => 0))), (ab5, .inl (tb7, 16, .inl (fun _ => 0))), (q10, .inr (6, [.int 0, .int (-1)])), (q13, .inr (2, [.int 0, .int 0, .int 0]))]) (w1 := [(q16, .inr (4, [.int 128, .int 0, .ref ap17, .int 0, .int 0, .int 0, .int 0])), (ap17, .inl (tp18, 32, .inl (fun _ => 0)))]) hP hD [7] [0, 1, 2, 3, 4, 5, 6] rfl rfl (by decide) (by decide) hk1 hFc hP1 hD1
  have hK := (hK.sub (tys' := [(cA2, .int), (td6, .int), (tb7, .int)]) [0, 1, 2] rfl).app hK1
  generalize H1 = H at hP hS ⊢
  have hP : va_P (dC, dI) vwCl [(h0, .inr (0, [.ref q1, .ref q3, .ref q10, .ref q13, .null, .null])), (q1, .inl (cA2, 512, .inl (fun _ => 0))), (q3, .inr (3, [.ref ad4, .ref ab5, .int 0])), (ad4, .inl (td6, 16, .inl (fun _ => 0))), (ab5, .inl (tb7, 16, .inl (fun _ => 0))), (q10, .inr (6, [.int 0, .int (-1)])), (q13, .inr (2, [.int 0, .int 0, .int 0])), (q16, .inr (4, [.int 128, .int 0, .ref ap17, .int 0, .int 0, .int 0, .int 0])), (ap17, .inl (tp18, 32, .inl (fun _ => 0)))] H := hP
  have hD : va_D A [(h0, .inr (0, [.ref q1, .ref q3, .ref q10, .ref q13, .null, .null])), (q1, .inl (cA2, 512, .inl (fun _ => 0))), (q3, .inr (3, [.ref ad4, .ref ab5, .int 0])), (ad4, .inl (td6, 16, .inl (fun _ => 0))), (ab5, .inl (tb7, 16, .inl (fun _ => 0))), (q10, .inr (6, [.int 0, .int (-1)])), (q13, .inr (2, [.int 0, .int 0, .int 0])), (q16, .inr (4, [.int 128, .int 0, .ref ap17, .int 0, .int 0, .int 0, .int 0])), (ap17, .inl (tp18, 32, .inl (fun _ => 0)))] := hD
  have hK : va_K (dC, dI) vwCl [(cA2, .int), (td6, .int), (tb7, .int), (tp18, .int)] s := hK
  refine W.widen (k := 8) (n := 591) (Nat.le_of_ble_eq_true rfl) (Nat.le_of_ble_eq_true rfl) ?_
  refine va_putF (D := (dC, dI)) (ci := 0) (v := .ref q16) (ty := .object "UnibusMachine$Printer") (C := RX0) (T := TX0) (N := 6) hx hb hts (by decide +kernel) tyX0 tyX0_ok nmX0 hown hK hP hD hS 0 rfl rfl 4 (by decide) (hts (.fieldLink RX0 37 "UnibusMachine$Bus" "printer" "LUnibusMachine$Printer;") (by decide +kernel)) (fun _ h9 => h9) rfl hin rfl (by decide +kernel) rfl rfl (Nat.le_of_ble_eq_true rfl) dX0_init_54 (fun H locs hP hD hS => ?_)
  have hP : va_P (dC, dI) vwCl [(h0, .inr (0, [.ref q1, .ref q3, .ref q10, .ref q13, .ref q16, .null])), (q1, .inl (cA2, 512, .inl (fun _ => 0))), (q3, .inr (3, [.ref ad4, .ref ab5, .int 0])), (ad4, .inl (td6, 16, .inl (fun _ => 0))), (ab5, .inl (tb7, 16, .inl (fun _ => 0))), (q10, .inr (6, [.int 0, .int (-1)])), (q13, .inr (2, [.int 0, .int 0, .int 0])), (q16, .inr (4, [.int 128, .int 0, .ref ap17, .int 0, .int 0, .int 0, .int 0])), (ap17, .inl (tp18, 32, .inl (fun _ => 0)))] H := hP
  have hD : va_D A [(h0, .inr (0, [.ref q1, .ref q3, .ref q10, .ref q13, .ref q16, .null])), (q1, .inl (cA2, 512, .inl (fun _ => 0))), (q3, .inr (3, [.ref ad4, .ref ab5, .int 0])), (ad4, .inl (td6, 16, .inl (fun _ => 0))), (ab5, .inl (tb7, 16, .inl (fun _ => 0))), (q10, .inr (6, [.int 0, .int (-1)])), (q13, .inr (2, [.int 0, .int 0, .int 0])), (q16, .inr (4, [.int 128, .int 0, .ref ap17, .int 0, .int 0, .int 0, .int 0])), (ap17, .inl (tp18, 32, .inl (fun _ => 0)))] := hD
  refine lv_aload_n hx hb dX0_init_57 rfl (lv_at hl 0 rfl) ?_
  refine va_new (D := (dC, dI)) (ci := 1) (fs := [.int 0, .int 0, .null, .int 0, .int 0, .int 0, .int 0, .int 0, .int 0, .int 0]) (C := RX1) (T := TX1) (N := 10) hx hb hts (by decide +kernel) tyX1 tyX1_ok hown (hts (.classLink RX0 41 RX1) (by decide +kernel)) (hts (.instantiable RX1 10) (by decide +kernel)) (hts (.initialized RX1) (by decide +kernel)) hK hP hD hS hA rfl (fun j hj => by rcases (show j = 0 ∨ j = 1 ∨ j = 2 ∨ j = 3 ∨ j = 4 ∨ j = 5 ∨ j = 6 ∨ j = 7 ∨ j = 8 ∨ j = 9 by omega) with rfl | rfl | rfl | rfl | rfl | rfl | rfl | rfl | rfl | rfl <;> rfl) (Nat.le_of_ble_eq_true rfl) (Nat.le_of_ble_eq_true rfl) dX0_init_58 (fun q21 H hP hD hS => ?_)
  have hP : va_P (dC, dI) vwCl [(h0, .inr (0, [.ref q1, .ref q3, .ref q10, .ref q13, .ref q16, .null])), (q1, .inl (cA2, 512, .inl (fun _ => 0))), (q3, .inr (3, [.ref ad4, .ref ab5, .int 0])), (ad4, .inl (td6, 16, .inl (fun _ => 0))), (ab5, .inl (tb7, 16, .inl (fun _ => 0))), (q10, .inr (6, [.int 0, .int (-1)])), (q13, .inr (2, [.int 0, .int 0, .int 0])), (q16, .inr (4, [.int 128, .int 0, .ref ap17, .int 0, .int 0, .int 0, .int 0])), (ap17, .inl (tp18, 32, .inl (fun _ => 0))), (q21, .inr (1, [.int 0, .int 0, .null, .int 0, .int 0, .int 0, .int 0, .int 0, .int 0, .int 0]))] H := hP
  have hD : va_D A [(h0, .inr (0, [.ref q1, .ref q3, .ref q10, .ref q13, .ref q16, .null])), (q1, .inl (cA2, 512, .inl (fun _ => 0))), (q3, .inr (3, [.ref ad4, .ref ab5, .int 0])), (ad4, .inl (td6, 16, .inl (fun _ => 0))), (ab5, .inl (tb7, 16, .inl (fun _ => 0))), (q10, .inr (6, [.int 0, .int (-1)])), (q13, .inr (2, [.int 0, .int 0, .int 0])), (q16, .inr (4, [.int 128, .int 0, .ref ap17, .int 0, .int 0, .int 0, .int 0])), (ap17, .inl (tp18, 32, .inl (fun _ => 0))), (q21, .inr (1, [.int 0, .int 0, .null, .int 0, .int 0, .int 0, .int 0, .int 0, .int 0, .int 0]))] := hD
  refine W.widen (k := 9) (n := 601) (Nat.le_of_ble_eq_true rfl) (Nat.le_of_ble_eq_true rfl) ?_
  refine lv_dup hx hb dX0_init_61 rfl ?_
  have hPc := hP.sub (ws' := [(q21, .inr (1, [.int 0, .int 0, .null, .int 0, .int 0, .int 0, .int 0, .int 0, .int 0, .int 0]))]) [9] rfl
  have hDc := hD.sub (ws' := [(q21, .inr (1, [.int 0, .int 0, .null, .int 0, .int 0, .int 0, .int 0, .int 0, .int 0, .int 0]))]) [9] (by decide) rfl
  have hKc := hK.sub (tys' := []) [] rfl
  have hFc := va_free (wc := [(q21, .inr (1, [.int 0, .int 0, .null, .int 0, .int 0, .int 0, .int 0, .int 0, .int 0, .int 0]))]) hD hS hA [9] rfl
  refine va_callv (va_runI (As := []) (rest := [.ref q21, .ref h0]) ⟨hx, hb, hml, hown, hts⟩ (c_Drive_init l dC dI q21 H.size) (cwI 0 hts gX0_init_X1_init rfl rfl rfl (hts (.initialized RX1) (by decide +kernel)) (hts (.methodLink RX0 43 yX1_init) (by decide +kernel)) (hts (.instanceMethod yX1_init) (by decide +kernel)) rfl (by decide +kernel) ⟨Nat.le_of_ble_eq_true rfl, Nat.le_of_ble_eq_true rfl⟩) ⟨fun a U g mk q => by obtain ⟨q0, q1, qP, qK, qD, e0⟩ := q; exact ⟨q0, q1, qP, va_K.moved (u := U) (U := U.calling g mk a) (Vm.Alike.refl U.vm) qK, qD, va_Nw.same (U := U.calling g mk a) rfl rfl e0⟩, fun U hU hW => ⟨rfl, by rw [hU], by rw [hU]; exact hPc, va_K.moved hW.alike hKc, hDc.weaken (fun _ _ _ _ => trivial), va_Nw.warmM hW hnX1_1⟩⟩ rfl rfl hl.1 rfl (lv_room (Nat.le_of_ble_eq_true rfl)) dX0_init_62 ⟨Nat.le_of_ble_eq_true rfl, Nat.le_of_ble_eq_true rfl⟩) hS (fun q _ h => hFc q h) hFc (fun u25 t H1 locs ht hvm hw hB hz1 hk1 hS => ?_)
  obtain ⟨aw22, tw23, hP1, hK1, hD1⟩ := hB
  rw [ht] at hP1
  have hK1 := va_K.moved hvm.symm hK1
  try dsimp only at hw
  obtain ⟨hP, hD⟩ := va_join (wr := [(h0, .inr (0, [.ref q1, .ref q3, .ref q10, .ref q13, .ref q16, .null])), (q1, .inl (cA2, 512, .inl (fun _ => 0))), (q3, .inr (3, [.ref ad4, .ref ab5, .int 0])), (ad4, .inl (td6, 16, .inl (fun _ => 0))), (ab5, .inl (tb7, 16, .inl (fun _ => 0))), (q10, .inr (6, [.int 0, .int (-1)])), (q13, .inr (2, [.int 0, .int 0, .int 0])), (q16, .inr (4, [.int 128, .int 0, .ref ap17, .int 0, .int 0, .int 0, .int 0])), (ap17, .inl (tp18, 32, .inl (fun _ => 0)))]) (w1 := [(q21, .inr (1, [.int 128, .int 0, .ref aw22, .int 0, .int 0, .int 0, .int 0, .int 0, .int 0, .int 0])), (aw22, .inl (tw23, 128, .inl (fun _ => 0)))]) hP hD [9] [0, 1, 2, 3, 4, 5, 6, 7, 8] rfl rfl (by decide) (by decide) hk1 hFc hP1 hD1
  have hK := (hK.sub (tys' := [(cA2, .int), (td6, .int), (tb7, .int), (tp18, .int)]) [0, 1, 2, 3] rfl).app hK1
  generalize H1 = H at hP hS ⊢
  have hP : va_P (dC, dI) vwCl [(h0, .inr (0, [.ref q1, .ref q3, .ref q10, .ref q13, .ref q16, .null])), (q1, .inl (cA2, 512, .inl (fun _ => 0))), (q3, .inr (3, [.ref ad4, .ref ab5, .int 0])), (ad4, .inl (td6, 16, .inl (fun _ => 0))), (ab5, .inl (tb7, 16, .inl (fun _ => 0))), (q10, .inr (6, [.int 0, .int (-1)])), (q13, .inr (2, [.int 0, .int 0, .int 0])), (q16, .inr (4, [.int 128, .int 0, .ref ap17, .int 0, .int 0, .int 0, .int 0])), (ap17, .inl (tp18, 32, .inl (fun _ => 0))), (q21, .inr (1, [.int 128, .int 0, .ref aw22, .int 0, .int 0, .int 0, .int 0, .int 0, .int 0, .int 0])), (aw22, .inl (tw23, 128, .inl (fun _ => 0)))] H := hP
  have hD : va_D A [(h0, .inr (0, [.ref q1, .ref q3, .ref q10, .ref q13, .ref q16, .null])), (q1, .inl (cA2, 512, .inl (fun _ => 0))), (q3, .inr (3, [.ref ad4, .ref ab5, .int 0])), (ad4, .inl (td6, 16, .inl (fun _ => 0))), (ab5, .inl (tb7, 16, .inl (fun _ => 0))), (q10, .inr (6, [.int 0, .int (-1)])), (q13, .inr (2, [.int 0, .int 0, .int 0])), (q16, .inr (4, [.int 128, .int 0, .ref ap17, .int 0, .int 0, .int 0, .int 0])), (ap17, .inl (tp18, 32, .inl (fun _ => 0))), (q21, .inr (1, [.int 128, .int 0, .ref aw22, .int 0, .int 0, .int 0, .int 0, .int 0, .int 0, .int 0])), (aw22, .inl (tw23, 128, .inl (fun _ => 0)))] := hD
  have hK : va_K (dC, dI) vwCl [(cA2, .int), (td6, .int), (tb7, .int), (tp18, .int), (tw23, .int)] s := hK
  refine W.widen (k := 10) (n := 729) (Nat.le_of_ble_eq_true rfl) (Nat.le_of_ble_eq_true rfl) ?_
  refine va_putF (D := (dC, dI)) (ci := 0) (v := .ref q21) (ty := .object "UnibusMachine$Drive") (C := RX0) (T := TX0) (N := 6) hx hb hts (by decide +kernel) tyX0 tyX0_ok nmX0 hown hK hP hD hS 0 rfl rfl 5 (by decide) (hts (.fieldLink RX0 44 "UnibusMachine$Bus" "drive" "LUnibusMachine$Drive;") (by decide +kernel)) (fun _ h9 => h9) rfl hin rfl (by decide +kernel) rfl rfl (Nat.le_of_ble_eq_true rfl) dX0_init_65 (fun H locs hP hD hS => ?_)
  have hP : va_P (dC, dI) vwCl [(h0, .inr (0, [.ref q1, .ref q3, .ref q10, .ref q13, .ref q16, .ref q21])), (q1, .inl (cA2, 512, .inl (fun _ => 0))), (q3, .inr (3, [.ref ad4, .ref ab5, .int 0])), (ad4, .inl (td6, 16, .inl (fun _ => 0))), (ab5, .inl (tb7, 16, .inl (fun _ => 0))), (q10, .inr (6, [.int 0, .int (-1)])), (q13, .inr (2, [.int 0, .int 0, .int 0])), (q16, .inr (4, [.int 128, .int 0, .ref ap17, .int 0, .int 0, .int 0, .int 0])), (ap17, .inl (tp18, 32, .inl (fun _ => 0))), (q21, .inr (1, [.int 128, .int 0, .ref aw22, .int 0, .int 0, .int 0, .int 0, .int 0, .int 0, .int 0])), (aw22, .inl (tw23, 128, .inl (fun _ => 0)))] H := hP
  have hD : va_D A [(h0, .inr (0, [.ref q1, .ref q3, .ref q10, .ref q13, .ref q16, .ref q21])), (q1, .inl (cA2, 512, .inl (fun _ => 0))), (q3, .inr (3, [.ref ad4, .ref ab5, .int 0])), (ad4, .inl (td6, 16, .inl (fun _ => 0))), (ab5, .inl (tb7, 16, .inl (fun _ => 0))), (q10, .inr (6, [.int 0, .int (-1)])), (q13, .inr (2, [.int 0, .int 0, .int 0])), (q16, .inr (4, [.int 128, .int 0, .ref ap17, .int 0, .int 0, .int 0, .int 0])), (ap17, .inl (tp18, 32, .inl (fun _ => 0))), (q21, .inr (1, [.int 128, .int 0, .ref aw22, .int 0, .int 0, .int 0, .int 0, .int 0, .int 0, .int 0])), (aw22, .inl (tw23, 128, .inl (fun _ => 0)))] := hD
  have hP9 := hP.sub (ws' := [(h0, .inr (0, [.ref q1, .ref q3, .ref q10, .ref q13, .ref q16, .ref q21])), (q1, .inl (cA2, 512, .inl (fun _ => 0))), (q3, .inr (3, [.ref ad4, .ref ab5, .int 0])), (ad4, .inl (td6, 16, .inl (fun _ => 0))), (ab5, .inl (tb7, 16, .inl (fun _ => 0))), (q10, .inr (6, [.int 0, .int (-1)])), (q13, .inr (2, [.int 0, .int 0, .int 0])), (q16, .inr (4, [.int 128, .int 0, .ref ap17, .int 0, .int 0, .int 0, .int 0])), (ap17, .inl (tp18, 32, .inl (fun _ => 0))), (q21, .inr (1, [.int 128, .int 0, .ref aw22, .int 0, .int 0, .int 0, .int 0, .int 0, .int 0, .int 0])), (aw22, .inl (tw23, 128, .inl (fun _ => 0)))]) [0, 1, 2, 3, 4, 5, 6, 7, 8, 9, 10] rfl
  have hD9 := hD.sub (ws' := [(h0, .inr (0, [.ref q1, .ref q3, .ref q10, .ref q13, .ref q16, .ref q21])), (q1, .inl (cA2, 512, .inl (fun _ => 0))), (q3, .inr (3, [.ref ad4, .ref ab5, .int 0])), (ad4, .inl (td6, 16, .inl (fun _ => 0))), (ab5, .inl (tb7, 16, .inl (fun _ => 0))), (q10, .inr (6, [.int 0, .int (-1)])), (q13, .inr (2, [.int 0, .int 0, .int 0])), (q16, .inr (4, [.int 128, .int 0, .ref ap17, .int 0, .int 0, .int 0, .int 0])), (ap17, .inl (tp18, 32, .inl (fun _ => 0))), (q21, .inr (1, [.int 128, .int 0, .ref aw22, .int 0, .int 0, .int 0, .int 0, .int 0, .int 0, .int 0])), (aw22, .inl (tw23, 128, .inl (fun _ => 0)))]) [0, 1, 2, 3, 4, 5, 6, 7, 8, 9, 10] (by decide) rfl
  have hK9 := hK.sub (tys' := [(cA2, .int), (td6, .int), (tb7, .int), (tp18, .int), (tw23, .int)]) [0, 1, 2, 3, 4] rfl
  exact W.vret hx hb hr (fun t ht hW => ⟨⟨(), rfl, trivial, q1, q3, q10, q13, q16, q21, ad4, ab5, ap17, aw22, cA2, td6, tb7, tp18, tw23, by rw [ht]; exact hP9, va_K.moved hW.alike hK9, hD9⟩, hS.F ht⟩) hS.2.2 dX0_init_68
set_option maxHeartbeats 4000000 in
set_option maxRecDepth 100000 in
theorem c_Processor_init (l : Launch) (dC : Nat → ClassId) (dI : Nat → Nat → Nat) (h0 : Nat) (oB : Nat) (am : Nat) (oM : Nat) (oS : Nat) (oK : Nat) (oL : Nat) (oD : Nat) (sz : Nat) : Met l yX6_init wsX6_init ({ frames := 1, cells := 1, slots := 8, locals := 12 } : Room) (va_Pc [.ref h0, .ref oB] (fun U => U.heap.size = sz ∧ va_P (dC, dI) vwCl [(h0, .inr (5, [.null, .null, .null, .int 0, .int 0, .int 0, .int 0, .int 0, .int 0])), (oB, .inr (0, [.ref am, .ref oM, .ref oS, .ref oK, .ref oL, .ref oD]))] U.heap ∧ va_K (dC, dI) vwCl [] U ∧ va_D (fun _ => True) [(h0, .inr (5, [.null, .null, .null, .int 0, .int 0, .int 0, .int 0, .int 0, .int 0])), (oB, .inr (0, [.ref am, .ref oM, .ref oS, .ref oK, .ref oL, .ref oD]))])) (va_Qv (fun (u : Unit) => True) (fun (u : Unit) (t : State) => ∃ (ar : Nat) (tr : ClassId), va_P (dC, dI) vwCl [(h0, .inr (5, [.ref ar, .ref oB, .ref oS, .int 0, .int 2, .int 0, .int 0, .int 0, .int 0])), (oB, .inr (0, [.ref am, .ref oM, .ref oS, .ref oK, .ref oL, .ref oD])), (ar, .inl (tr, 8, .inl (fun _ => 0)))] t.heap ∧ va_K (dC, dI) vwCl [(tr, .int)] t ∧ va_D (va_A [(h0, .inr (5, [.null, .null, .null, .int 0, .int 0, .int 0, .int 0, .int 0, .int 0])), (oB, .inr (0, [.ref am, .ref oM, .ref oS, .ref oK, .ref oL, .ref oD]))] sz) [(h0, .inr (5, [.ref ar, .ref oB, .ref oS, .int 0, .int 2, .int 0, .int 0, .int 0, .int 0])), (oB, .inr (0, [.ref am, .ref oM, .ref oS, .ref oK, .ref oL, .ref oD])), (ar, .inl (tr, 8, .inl (fun _ => 0)))]) (va_A [(h0, .inr (5, [.null, .null, .null, .int 0, .int 0, .int 0, .int 0, .int 0, .int 0])), (oB, .inr (0, [.ref am, .ref oM, .ref oS, .ref oK, .ref oL, .ref oD]))] sz)) 1 8 (va_A [(h0, .inr (5, [.null, .null, .null, .int 0, .int 0, .int 0, .int 0, .int 0, .int 0])), (oB, .inr (0, [.ref am, .ref oM, .ref oS, .ref oK, .ref oL, .ref oD]))] sz) := by
  refine Met.ofW (cc := cX6_init) (maxL := 2) (ret := none) (by decide) rfl ?_
  intro p e s m args below meth c s₁ B hml hv
  obtain ⟨rfl, hsz, hP, hK, hD0⟩ := hv
  have hx := B.exec
  have hb := B.bytes
  have hr := B.returns
  have hts := atoms_spec (ws := wsX6_init) B.pre
  have hown : s.vm.findClass RX6 = some m.cls := findClass_of_methodNamed B.named
  have hlocks := B.notSynchronized
  have hin : meth.name = "<init>" := (name_of_methodNamed B.named B.method).1
  subst hsz
  have hD := hD0.self (sz := s.heap.size)
  generalize hAe : va_A [(h0, .inr (5, [.null, .null, .null, .int 0, .int 0, .int 0, .int 0, .int 0, .int 0])), (oB, .inr (0, [.ref am, .ref oM, .ref oS, .ref oK, .ref oL, .ref oD]))] s.heap.size = A at hD ⊢
  have hA : ∀ q : Nat, s.heap.size ≤ q → A q := fun q h => by rw [← hAe]; exact Or.inr h
  have hS0 : ∀ G : Heap, s.heap = G → va_S A s.heap G [] := fun G h => by subst h; exact va_S.rf
  generalize hHe : s.heap = H at hP ⊢
  have hS := hS0 H hHe
  have hP : va_P (dC, dI) vwCl [(h0, .inr (5, [.null, .null, .null, .int 0, .int 0, .int 0, .int 0, .int 0, .int 0])), (oB, .inr (0, [.ref am, .ref oM, .ref oS, .ref oK, .ref oL, .ref oD]))] H := hP
  have hD : va_D A [(h0, .inr (5, [.null, .null, .null, .int 0, .int 0, .int 0, .int 0, .int 0, .int 0])), (oB, .inr (0, [.ref am, .ref oM, .ref oS, .ref oK, .ref oL, .ref oD]))] := hD
  have hK : va_K (dC, dI) vwCl [] s := hK
  have hl := lv_entry ([.ref h0, .ref oB]) (n := 2) (Nat.le_of_ble_eq_true rfl)
  rw [lg_entry_eq]
  generalize (lg_sl ([.ref h0, .ref oB]) ++ List.replicate (2 - (lg_sl ([.ref h0, .ref oB])).length) Slot.unset).toArray = ls at hl ⊢
  have hl : lv_has ls 2 [(0, .ref h0), (1, .ref oB)] := hl
  refine lv_aload_n hx hb dX6_init_0 rfl (lv_at hl 0 rfl) ?_
  refine W.objInit hx hb hown (hts (.methodLink RX6 1 objectInit) (by decide +kernel)) (hts (.instanceMethod objectInit) (by decide +kernel)) (hts _ (List.mem_of_getElem? (i := 3) rfl)) rfl (by rw [hml]; exact hl.1) rfl dX6_init_1 (Nat.le_of_ble_eq_true rfl) (Nat.le_of_ble_eq_true rfl) ?_
  refine W.eq (g2 := F0 m 4 ls []) rfl ?_
  refine lv_aload_n hx hb dX6_init_4 rfl (lv_at hl 0 rfl) ?_
  refine lv_bipush (v := 8) hx hb dX6_init_5 (by decide) ?_
  refine va_newa (atype := .int) (ty := .int) (a0 := (8, .inl (fun _ => 0))) hx hb (hts (.arrayClass .int) (by decide +kernel)) rfl hK hP hD hS hA (fun _ => rfl) (by decide) (by decide) (Nat.le_of_ble_eq_true rfl) (Nat.le_of_ble_eq_true rfl) (Nat.le_of_ble_eq_true rfl) dX6_init_7 (fun q1 cA2 H hK hP hD hS => ?_)
  have hP : va_P (dC, dI) vwCl [(h0, .inr (5, [.null, .null, .null, .int 0, .int 0, .int 0, .int 0, .int 0, .int 0])), (oB, .inr (0, [.ref am, .ref oM, .ref oS, .ref oK, .ref oL, .ref oD])), (q1, .inl (cA2, 8, .inl (fun _ => 0)))] H := hP
  have hD : va_D A [(h0, .inr (5, [.null, .null, .null, .int 0, .int 0, .int 0, .int 0, .int 0, .int 0])), (oB, .inr (0, [.ref am, .ref oM, .ref oS, .ref oK, .ref oL, .ref oD])), (q1, .inl (cA2, 8, .inl (fun _ => 0)))] := hD
  have hK : va_K (dC, dI) vwCl [(cA2, .int)] s := hK
  refine W.widen (k := 1) (n := 8) (Nat.le_of_ble_eq_true rfl) (Nat.le_of_ble_eq_true rfl) ?_
  refine va_putF (D := (dC, dI)) (ci := 5) (v := .ref q1) (ty := .array .int) (C := RX6) (T := TX6) (N := 9) hx hb hts (by decide +kernel) tyX6 tyX6_ok nmX6 hown hK hP hD hS 0 rfl rfl 0 (by decide) (hts (.fieldLink RX6 7 "UnibusMachine$Processor" "registers" "[I") (by decide +kernel)) (fun _ h9 => h9) rfl hin rfl (by decide +kernel) rfl rfl (Nat.le_of_ble_eq_true rfl) dX6_init_9 (fun H locs hP hD hS => ?_)
  have hP : va_P (dC, dI) vwCl [(h0, .inr (5, [.ref q1, .null, .null, .int 0, .int 0, .int 0, .int 0, .int 0, .int 0])), (oB, .inr (0, [.ref am, .ref oM, .ref oS, .ref oK, .ref oL, .ref oD])), (q1, .inl (cA2, 8, .inl (fun _ => 0)))] H := hP
  have hD : va_D A [(h0, .inr (5, [.ref q1, .null, .null, .int 0, .int 0, .int 0, .int 0, .int 0, .int 0])), (oB, .inr (0, [.ref am, .ref oM, .ref oS, .ref oK, .ref oL, .ref oD])), (q1, .inl (cA2, 8, .inl (fun _ => 0)))] := hD
  refine lv_aload_n hx hb dX6_init_12 rfl (lv_at hl 0 rfl) ?_
  refine lv_iconst (v := 0) hx hb dX6_init_13 (by decide) ?_
  refine va_put (D := (dC, dI)) (ci := 5) (v := .int 0) (ty := .int) (C := RX6) (T := TX6) (N := 9) hx hb hts (by decide +kernel) tyX6 tyX6_ok nmX6 hown hK hP hD hS 0 rfl rfl 3 (by decide) (hts (.fieldLink RX6 13 "UnibusMachine$Processor" "otherStack" "I") (by decide +kernel)) (fun _ h9 => h9) rfl (by decide +kernel) rfl rfl (Nat.le_of_ble_eq_true rfl) dX6_init_14 (fun H locs hP hD hS => ?_)
  have hP : va_P (dC, dI) vwCl [(h0, .inr (5, [.ref q1, .null, .null, .int 0, .int 0, .int 0, .int 0, .int 0, .int 0])), (oB, .inr (0, [.ref am, .ref oM, .ref oS, .ref oK, .ref oL, .ref oD])), (q1, .inl (cA2, 8, .inl (fun _ => 0)))] H := hP
  have hD : va_D A [(h0, .inr (5, [.ref q1, .null, .null, .int 0, .int 0, .int 0, .int 0, .int 0, .int 0])), (oB, .inr (0, [.ref am, .ref oM, .ref oS, .ref oK, .ref oL, .ref oD])), (q1, .inl (cA2, 8, .inl (fun _ => 0)))] := hD
  refine lv_aload_n hx hb dX6_init_17 rfl (lv_at hl 0 rfl) ?_
  refine lv_iconst (v := 2) hx hb dX6_init_18 (by decide) ?_
  refine va_put (D := (dC, dI)) (ci := 5) (v := .int 2) (ty := .int) (C := RX6) (T := TX6) (N := 9) hx hb hts (by decide +kernel) tyX6 tyX6_ok nmX6 hown hK hP hD hS 0 rfl rfl 4 (by decide) (hts (.fieldLink RX6 17 "UnibusMachine$Processor" "halted" "I") (by decide +kernel)) (fun _ h9 => h9) rfl (by decide +kernel) rfl rfl (Nat.le_of_ble_eq_true rfl) dX6_init_19 (fun H locs hP hD hS => ?_)
  have hP : va_P (dC, dI) vwCl [(h0, .inr (5, [.ref q1, .null, .null, .int 0, .int 2, .int 0, .int 0, .int 0, .int 0])), (oB, .inr (0, [.ref am, .ref oM, .ref oS, .ref oK, .ref oL, .ref oD])), (q1, .inl (cA2, 8, .inl (fun _ => 0)))] H := hP
  have hD : va_D A [(h0, .inr (5, [.ref q1, .null, .null, .int 0, .int 2, .int 0, .int 0, .int 0, .int 0])), (oB, .inr (0, [.ref am, .ref oM, .ref oS, .ref oK, .ref oL, .ref oD])), (q1, .inl (cA2, 8, .inl (fun _ => 0)))] := hD
  refine lv_aload_n hx hb dX6_init_22 rfl (lv_at hl 0 rfl) ?_
  refine lv_iconst (v := 0) hx hb dX6_init_23 (by decide) ?_
  refine va_put (D := (dC, dI)) (ci := 5) (v := .int 0) (ty := .boolean) (C := RX6) (T := TX6) (N := 9) hx hb hts (by decide +kernel) tyX6 tyX6_ok nmX6 hown hK hP hD hS 0 rfl rfl 5 (by decide) (hts (.fieldLink RX6 20 "UnibusMachine$Processor" "waiting" "Z") (by decide +kernel)) (fun _ h9 => h9) rfl (by decide +kernel) (by decide) rfl (Nat.le_of_ble_eq_true rfl) dX6_init_24 (fun H locs hP hD hS => ?_)
  have hP : va_P (dC, dI) vwCl [(h0, .inr (5, [.ref q1, .null, .null, .int 0, .int 2, .int 0, .int 0, .int 0, .int 0])), (oB, .inr (0, [.ref am, .ref oM, .ref oS, .ref oK, .ref oL, .ref oD])), (q1, .inl (cA2, 8, .inl (fun _ => 0)))] H := hP
  have hD : va_D A [(h0, .inr (5, [.ref q1, .null, .null, .int 0, .int 2, .int 0, .int 0, .int 0, .int 0])), (oB, .inr (0, [.ref am, .ref oM, .ref oS, .ref oK, .ref oL, .ref oD])), (q1, .inl (cA2, 8, .inl (fun _ => 0)))] := hD
  refine lv_aload_n hx hb dX6_init_27 rfl (lv_at hl 0 rfl) ?_
  refine lv_iconst (v := 0) hx hb dX6_init_28 (by decide) ?_
  refine va_put (D := (dC, dI)) (ci := 5) (v := .int 0) (ty := .int) (C := RX6) (T := TX6) (N := 9) hx hb hts (by decide +kernel) tyX6 tyX6_ok nmX6 hown hK hP hD hS 0 rfl rfl 6 (by decide) (hts (.fieldLink RX6 24 "UnibusMachine$Processor" "vector" "I") (by decide +kernel)) (fun _ h9 => h9) rfl (by decide +kernel) rfl rfl (Nat.le_of_ble_eq_true rfl) dX6_init_29 (fun H locs hP hD hS => ?_)
  have hP : va_P (dC, dI) vwCl [(h0, .inr (5, [.ref q1, .null, .null, .int 0, .int 2, .int 0, .int 0, .int 0, .int 0])), (oB, .inr (0, [.ref am, .ref oM, .ref oS, .ref oK, .ref oL, .ref oD])), (q1, .inl (cA2, 8, .inl (fun _ => 0)))] H := hP
  have hD : va_D A [(h0, .inr (5, [.ref q1, .null, .null, .int 0, .int 2, .int 0, .int 0, .int 0, .int 0])), (oB, .inr (0, [.ref am, .ref oM, .ref oS, .ref oK, .ref oL, .ref oD])), (q1, .inl (cA2, 8, .inl (fun _ => 0)))] := hD
  refine lv_aload_n hx hb dX6_init_32 rfl (lv_at hl 0 rfl) ?_
  refine lv_iconst (v := 0) hx hb dX6_init_33 (by decide) ?_
  refine va_put (D := (dC, dI)) (ci := 5) (v := .int 0) (ty := .int) (C := RX6) (T := TX6) (N := 9) hx hb hts (by decide +kernel) tyX6 tyX6_ok nmX6 hown hK hP hD hS 0 rfl rfl 7 (by decide) (hts (.fieldLink RX6 27 "UnibusMachine$Processor" "named" "I") (by decide +kernel)) (fun _ h9 => h9) rfl (by decide +kernel) rfl rfl (Nat.le_of_ble_eq_true rfl) dX6_init_34 (fun H locs hP hD hS => ?_)
  have hP : va_P (dC, dI) vwCl [(h0, .inr (5, [.ref q1, .null, .null, .int 0, .int 2, .int 0, .int 0, .int 0, .int 0])), (oB, .inr (0, [.ref am, .ref oM, .ref oS, .ref oK, .ref oL, .ref oD])), (q1, .inl (cA2, 8, .inl (fun _ => 0)))] H := hP
  have hD : va_D A [(h0, .inr (5, [.ref q1, .null, .null, .int 0, .int 2, .int 0, .int 0, .int 0, .int 0])), (oB, .inr (0, [.ref am, .ref oM, .ref oS, .ref oK, .ref oL, .ref oD])), (q1, .inl (cA2, 8, .inl (fun _ => 0)))] := hD
  refine lv_aload_n hx hb dX6_init_37 rfl (lv_at hl 0 rfl) ?_
  refine lv_iconst (v := 0) hx hb dX6_init_38 (by decide) ?_
  refine va_put (D := (dC, dI)) (ci := 5) (v := .int 0) (ty := .int) (C := RX6) (T := TX6) (N := 9) hx hb hts (by decide +kernel) tyX6 tyX6_ok nmX6 hown hK hP hD hS 0 rfl rfl 8 (by decide) (hts (.fieldLink RX6 30 "UnibusMachine$Processor" "flags" "I") (by decide +kernel)) (fun _ h9 => h9) rfl (by decide +kernel) rfl rfl (Nat.le_of_ble_eq_true rfl) dX6_init_39 (fun H locs hP hD hS => ?_)
  have hP : va_P (dC, dI) vwCl [(h0, .inr (5, [.ref q1, .null, .null, .int 0, .int 2, .int 0, .int 0, .int 0, .int 0])), (oB, .inr (0, [.ref am, .ref oM, .ref oS, .ref oK, .ref oL, .ref oD])), (q1, .inl (cA2, 8, .inl (fun _ => 0)))] H := hP
  have hD : va_D A [(h0, .inr (5, [.ref q1, .null, .null, .int 0, .int 2, .int 0, .int 0, .int 0, .int 0])), (oB, .inr (0, [.ref am, .ref oM, .ref oS, .ref oK, .ref oL, .ref oD])), (q1, .inl (cA2, 8, .inl (fun _ => 0)))] := hD
  refine lv_aload_n hx hb dX6_init_42 rfl (lv_at hl 0 rfl) ?_
  refine lv_aload_n hx hb dX6_init_43 rfl (lv_at hl 1 rfl) ?_
  refine va_putF (D := (dC, dI)) (ci := 5) (v := .ref oB) (ty := .object "UnibusMachine$Bus") (C := RX6) (T := TX6) (N := 9) hx hb hts (by decide +kernel) tyX6 tyX6_ok nmX6 hown hK hP hD hS 0 rfl rfl 1 (by decide) (hts (.fieldLink RX6 33 "UnibusMachine$Processor" "bus" "LUnibusMachine$Bus;") (by decide +kernel)) (fun _ h9 => h9) rfl hin rfl (by decide +kernel) rfl rfl (Nat.le_of_ble_eq_true rfl) dX6_init_44 (fun H locs hP hD hS => ?_)
  have hP : va_P (dC, dI) vwCl [(h0, .inr (5, [.ref q1, .ref oB, .null, .int 0, .int 2, .int 0, .int 0, .int 0, .int 0])), (oB, .inr (0, [.ref am, .ref oM, .ref oS, .ref oK, .ref oL, .ref oD])), (q1, .inl (cA2, 8, .inl (fun _ => 0)))] H := hP
  have hD : va_D A [(h0, .inr (5, [.ref q1, .ref oB, .null, .int 0, .int 2, .int 0, .int 0, .int 0, .int 0])), (oB, .inr (0, [.ref am, .ref oM, .ref oS, .ref oK, .ref oL, .ref oD])), (q1, .inl (cA2, 8, .inl (fun _ => 0)))] := hD
  refine lv_aload_n hx hb dX6_init_47 rfl (lv_at hl 0 rfl) ?_
  refine lv_aload_n hx hb dX6_init_48 rfl (lv_at hl 1 rfl) ?_
  refine va_get (D := (dC, dI)) (ci := 0) (v := .ref oS) (C := RX0) (T := TX0) (N := 6) hx hb hts (by decide +kernel) hown hK hP 1 rfl rfl 2 (by decide) (hts (.fieldLink RX6 37 "UnibusMachine$Bus" "status" "LUnibusMachine$Status;") (by decide +kernel)) (fun _ h9 => h9) rfl dX6_init_49 ?_
  refine va_putF (D := (dC, dI)) (ci := 5) (v := .ref oS) (ty := .object "UnibusMachine$Status") (C := RX6) (T := TX6) (N := 9) hx hb hts (by decide +kernel) tyX6 tyX6_ok nmX6 hown hK hP hD hS 0 rfl rfl 2 (by decide) (hts (.fieldLink RX6 43 "UnibusMachine$Processor" "status" "LUnibusMachine$Status;") (by decide +kernel)) (fun _ h9 => h9) rfl hin rfl (by decide +kernel) rfl rfl (Nat.le_of_ble_eq_true rfl) dX6_init_52 (fun H locs hP hD hS => ?_)
  have hP : va_P (dC, dI) vwCl [(h0, .inr (5, [.ref q1, .ref oB, .ref oS, .int 0, .int 2, .int 0, .int 0, .int 0, .int 0])), (oB, .inr (0, [.ref am, .ref oM, .ref oS, .ref oK, .ref oL, .ref oD])), (q1, .inl (cA2, 8, .inl (fun _ => 0)))] H := hP
  have hD : va_D A [(h0, .inr (5, [.ref q1, .ref oB, .ref oS, .int 0, .int 2, .int 0, .int 0, .int 0, .int 0])), (oB, .inr (0, [.ref am, .ref oM, .ref oS, .ref oK, .ref oL, .ref oD])), (q1, .inl (cA2, 8, .inl (fun _ => 0)))] := hD
  have hP9 := hP.sub (ws' := [(h0, .inr (5, [.ref q1, .ref oB, .ref oS, .int 0, .int 2, .int 0, .int 0, .int 0, .int 0])), (oB, .inr (0, [.ref am, .ref oM, .ref oS, .ref oK, .ref oL, .ref oD])), (q1, .inl (cA2, 8, .inl (fun _ => 0)))]) [0, 1, 2] rfl
  have hD9 := hD.sub (ws' := [(h0, .inr (5, [.ref q1, .ref oB, .ref oS, .int 0, .int 2, .int 0, .int 0, .int 0, .int 0])), (oB, .inr (0, [.ref am, .ref oM, .ref oS, .ref oK, .ref oL, .ref oD])), (q1, .inl (cA2, 8, .inl (fun _ => 0)))]) [0, 1, 2] (by decide) rfl
  have hK9 := hK.sub (tys' := [(cA2, .int)]) [0] rfl
  exact W.vret hx hb hr (fun t ht hW => ⟨⟨(), rfl, trivial, q1, cA2, by rw [ht]; exact hP9, va_K.moved hW.alike hK9, hD9⟩, hS.F ht⟩) hS.2.2 dX6_init_55
set_option maxHeartbeats 4000000 in
set_option maxRecDepth 100000 in
theorem c_UM_init (l : Launch) (dC : Nat → ClassId) (dI : Nat → Nat → Nat) (h0 : Nat) (sz : Nat) : Met l yX8_init wsX8_init ({ frames := 4, cells := 13, slots := 752, locals := 72 } : Room) (va_Pc [.ref h0] (fun U => U.heap.size = sz ∧ va_P (dC, dI) vwCl [(h0, .inr (7, [.null, .null]))] U.heap ∧ va_K (dC, dI) vwCl [] U ∧ va_D (fun _ => True) [(h0, .inr (7, [.null, .null]))] ∧ va_Nw (.methodLinkNest RX8 9 yX0_init "UnibusMachine") U ∧ va_Nw (.methodLinkNest RX0 15 yX4_init "UnibusMachine") U ∧ va_Nw (.methodLinkNest RX0 22 yX7_init "UnibusMachine") U ∧ va_Nw (.methodLinkNest RX0 29 yX2_init "UnibusMachine") U ∧ va_Nw (.methodLinkNest RX2 1 yX3_init "UnibusMachine") U ∧ va_Nw (.methodLinkNest RX5 1 yX3_init "UnibusMachine") U ∧ va_Nw (.methodLinkNest RX1 1 yX3_init "UnibusMachine") U)) (va_Qv (fun (u : Unit) => True) (fun (u : Unit) (t : State) => ∃ (oB : Nat) (oP : Nat) (am : Nat) (oM : Nat) (oS : Nat) (oK : Nat) (oL : Nat) (oD : Nat) (ad : Nat) (ab : Nat) (ap : Nat) (aw : Nat) (tm : ClassId) (td : ClassId) (tb : ClassId) (tp : ClassId) (tw : ClassId) (ar : Nat) (tr : ClassId), va_P (dC, dI) vwCl [(h0, .inr (7, [.ref oB, .ref oP])), (oB, .inr (0, [.ref am, .ref oM, .ref oS, .ref oK, .ref oL, .ref oD])), (am, .inl (tm, 512, .inl (fun _ => 0))), (oM, .inr (3, [.ref ad, .ref ab, .int 0])), (ad, .inl (td, 16, .inl (fun _ => 0))), (ab, .inl (tb, 16, .inl (fun _ => 0))), (oS, .inr (6, [.int 0, .int (-1)])), (oK, .inr (2, [.int 0, .int 0, .int 0])), (oL, .inr (4, [.int 128, .int 0, .ref ap, .int 0, .int 0, .int 0, .int 0])), (ap, .inl (tp, 32, .inl (fun _ => 0))), (oD, .inr (1, [.int 128, .int 0, .ref aw, .int 0, .int 0, .int 0, .int 0, .int 0, .int 0, .int 0])), (aw, .inl (tw, 128, .inl (fun _ => 0))), (oP, .inr (5, [.ref ar, .ref oB, .ref oS, .int 0, .int 2, .int 0, .int 0, .int 0, .int 0])), (ar, .inl (tr, 8, .inl (fun _ => 0)))] t.heap ∧ va_K (dC, dI) vwCl [(tm, .int), (td, .int), (tb, .int), (tp, .int), (tw, .int), (tr, .int)] t ∧ va_D (va_A [(h0, .inr (7, [.null, .null]))] sz) [(h0, .inr (7, [.ref oB, .ref oP])), (oB, .inr (0, [.ref am, .ref oM, .ref oS, .ref oK, .ref oL, .ref oD])), (am, .inl (tm, 512, .inl (fun _ => 0))), (oM, .inr (3, [.ref ad, .ref ab, .int 0])), (ad, .inl (td, 16, .inl (fun _ => 0))), (ab, .inl (tb, 16, .inl (fun _ => 0))), (oS, .inr (6, [.int 0, .int (-1)])), (oK, .inr (2, [.int 0, .int 0, .int 0])), (oL, .inr (4, [.int 128, .int 0, .ref ap, .int 0, .int 0, .int 0, .int 0])), (ap, .inl (tp, 32, .inl (fun _ => 0))), (oD, .inr (1, [.int 128, .int 0, .ref aw, .int 0, .int 0, .int 0, .int 0, .int 0, .int 0, .int 0])), (aw, .inl (tw, 128, .inl (fun _ => 0))), (oP, .inr (5, [.ref ar, .ref oB, .ref oS, .int 0, .int 2, .int 0, .int 0, .int 0, .int 0])), (ar, .inl (tr, 8, .inl (fun _ => 0)))]) (va_A [(h0, .inr (7, [.null, .null]))] sz)) 13 752 (va_A [(h0, .inr (7, [.null, .null]))] sz) := by
  refine Met.ofW (cc := cX8_init) (maxL := 1) (ret := none) (by decide) rfl ?_
  intro p e s m args below meth c s₁ B hml hv
  obtain ⟨rfl, hsz, hP, hK, hD0, hnX8_9, hnX0_15, hnX0_22, hnX0_29, hnX2_1, hnX5_1, hnX1_1⟩ := hv
  have hx := B.exec
  have hb := B.bytes
  have hr := B.returns
  have hts := atoms_spec (ws := wsX8_init) B.pre
  have hown : s.vm.findClass RX8 = some m.cls := findClass_of_methodNamed B.named
  have hlocks := B.notSynchronized
  have hin : meth.name = "<init>" := (name_of_methodNamed B.named B.method).1
  subst hsz
  have hD := hD0.self (sz := s.heap.size)
  generalize hAe : va_A [(h0, .inr (7, [.null, .null]))] s.heap.size = A at hD ⊢
  have hA : ∀ q : Nat, s.heap.size ≤ q → A q := fun q h => by rw [← hAe]; exact Or.inr h
  have hS0 : ∀ G : Heap, s.heap = G → va_S A s.heap G [] := fun G h => by subst h; exact va_S.rf
  generalize hHe : s.heap = H at hP ⊢
  have hS := hS0 H hHe
  have hP : va_P (dC, dI) vwCl [(h0, .inr (7, [.null, .null]))] H := hP
  have hD : va_D A [(h0, .inr (7, [.null, .null]))] := hD
  have hK : va_K (dC, dI) vwCl [] s := hK
  have hl := lv_entry ([.ref h0]) (n := 1) (Nat.le_of_ble_eq_true rfl)
  rw [lg_entry_eq]
  generalize (lg_sl ([.ref h0]) ++ List.replicate (1 - (lg_sl ([.ref h0])).length) Slot.unset).toArray = ls at hl ⊢
  have hl : lv_has ls 1 [(0, .ref h0)] := hl
  refine lv_aload_n hx hb dX8_init_0 rfl (lv_at hl 0 rfl) ?_
  refine W.objInit hx hb hown (hts (.methodLink RX8 1 objectInit) (by decide +kernel)) (hts (.instanceMethod objectInit) (by decide +kernel)) (hts _ (List.mem_of_getElem? (i := 3) rfl)) rfl (by rw [hml]; exact hl.1) rfl dX8_init_1 (Nat.le_of_ble_eq_true rfl) (Nat.le_of_ble_eq_true rfl) ?_
  refine W.eq (g2 := F0 m 4 ls []) rfl ?_
  refine lv_aload_n hx hb dX8_init_4 rfl (lv_at hl 0 rfl) ?_
  refine va_new (D := (dC, dI)) (ci := 0) (fs := [.null, .null, .null, .null, .null, .null]) (C := RX0) (T := TX0) (N := 6) hx hb hts (by decide +kernel) tyX0 tyX0_ok hown (hts (.classLink RX8 7 RX0) (by decide +kernel)) (hts (.instantiable RX0 6) (by decide +kernel)) (hts (.initialized RX0) (by decide +kernel)) hK hP hD hS hA rfl (fun j hj => by rcases (show j = 0 ∨ j = 1 ∨ j = 2 ∨ j = 3 ∨ j = 4 ∨ j = 5 by omega) with rfl | rfl | rfl | rfl | rfl | rfl <;> rfl) (Nat.le_of_ble_eq_true rfl) (Nat.le_of_ble_eq_true rfl) dX8_init_5 (fun q1 H hP hD hS => ?_)
  have hP : va_P (dC, dI) vwCl [(h0, .inr (7, [.null, .null])), (q1, .inr (0, [.null, .null, .null, .null, .null, .null]))] H := hP
  have hD : va_D A [(h0, .inr (7, [.null, .null])), (q1, .inr (0, [.null, .null, .null, .null, .null, .null]))] := hD
  refine W.widen (k := 1) (n := 6) (Nat.le_of_ble_eq_true rfl) (Nat.le_of_ble_eq_true rfl) ?_
  refine lv_dup hx hb dX8_init_8 rfl ?_
  have hPc := hP.sub (ws' := [(q1, .inr (0, [.null, .null, .null, .null, .null, .null]))]) [1] rfl
  have hDc := hD.sub (ws' := [(q1, .inr (0, [.null, .null, .null, .null, .null, .null]))]) [1] (by decide) rfl
  have hKc := hK.sub (tys' := []) [] rfl
  have hFc := va_free (wc := [(q1, .inr (0, [.null, .null, .null, .null, .null, .null]))]) hD hS hA [1] rfl
  refine va_callv (va_runIN (As := []) (rest := [.ref q1, .ref h0]) ⟨hx, hb, hml, hown, hts⟩ (c_Bus_init l dC dI q1 H.size) ⟨va_cnB (host := "UnibusMachine") 0 hts gX8_init_X0_init_n9 rfl rfl rfl hnX8_9 (hts (.initialized RX0) (by decide +kernel)) (by decide +kernel) ⟨Nat.le_of_ble_eq_true rfl, Nat.le_of_ble_eq_true rfl⟩, rfl, (hts (.instanceMethod yX0_init) (by decide +kernel))⟩ ⟨fun a U g mk q => by obtain ⟨q0, q1, qP, qK, qD, e0, e1, e2, e3, e4, e5⟩ := q; exact ⟨q0, q1, qP, va_K.moved (u := U) (U := U.calling g mk a) (Vm.Alike.refl U.vm) qK, qD, va_Nw.same (U := U.calling g mk a) rfl rfl e0, va_Nw.same (U := U.calling g mk a) rfl rfl e1, va_Nw.same (U := U.calling g mk a) rfl rfl e2, va_Nw.same (U := U.calling g mk a) rfl rfl e3, va_Nw.same (U := U.calling g mk a) rfl rfl e4, va_Nw.same (U := U.calling g mk a) rfl rfl e5⟩, fun U hU hW => ⟨rfl, by rw [hU], by rw [hU]; exact hPc, va_K.moved hW.alike hKc, hDc.weaken (fun _ _ _ _ => trivial), va_Nw.warmM hW hnX0_15, va_Nw.warmM hW hnX0_22, va_Nw.warmM hW hnX0_29, va_Nw.warmM hW hnX2_1, va_Nw.warmM hW hnX5_1, va_Nw.warmM hW hnX1_1⟩⟩ rfl rfl hl.1 rfl (lv_room (Nat.le_of_ble_eq_true rfl)) dX8_init_9 ⟨Nat.le_of_ble_eq_true rfl, Nat.le_of_ble_eq_true rfl⟩) hS (fun q _ h => hFc q h) hFc (fun u18 t H1 locs ht hvm hw hB hz1 hk1 hS => ?_)
  obtain ⟨am2, oM3, oS4, oK5, oL6, oD7, ad8, ab9, ap10, aw11, tm12, td13, tb14, tp15, tw16, hP1, hK1, hD1⟩ := hB
  rw [ht] at hP1
  have hK1 := va_K.moved hvm.symm hK1
  try dsimp only at hw
  obtain ⟨hP, hD⟩ := va_join (wr := [(h0, .inr (7, [.null, .null]))]) (w1 := [(q1, .inr (0, [.ref am2, .ref oM3, .ref oS4, .ref oK5, .ref oL6, .ref oD7])), (am2, .inl (tm12, 512, .inl (fun _ => 0))), (oM3, .inr (3, [.ref ad8, .ref ab9, .int 0])), (ad8, .inl (td13, 16, .inl (fun _ => 0))), (ab9, .inl (tb14, 16, .inl (fun _ => 0))), (oS4, .inr (6, [.int 0, .int (-1)])), (oK5, .inr (2, [.int 0, .int 0, .int 0])), (oL6, .inr (4, [.int 128, .int 0, .ref ap10, .int 0, .int 0, .int 0, .int 0])), (ap10, .inl (tp15, 32, .inl (fun _ => 0))), (oD7, .inr (1, [.int 128, .int 0, .ref aw11, .int 0, .int 0, .int 0, .int 0, .int 0, .int 0, .int 0])), (aw11, .inl (tw16, 128, .inl (fun _ => 0)))]) hP hD [1] [0] rfl rfl (by decide) (by decide) hk1 hFc hP1 hD1
  have hK := (hK.sub (tys' := []) [] rfl).app hK1
  generalize H1 = H at hP hS ⊢
  have hP : va_P (dC, dI) vwCl [(h0, .inr (7, [.null, .null])), (q1, .inr (0, [.ref am2, .ref oM3, .ref oS4, .ref oK5, .ref oL6, .ref oD7])), (am2, .inl (tm12, 512, .inl (fun _ => 0))), (oM3, .inr (3, [.ref ad8, .ref ab9, .int 0])), (ad8, .inl (td13, 16, .inl (fun _ => 0))), (ab9, .inl (tb14, 16, .inl (fun _ => 0))), (oS4, .inr (6, [.int 0, .int (-1)])), (oK5, .inr (2, [.int 0, .int 0, .int 0])), (oL6, .inr (4, [.int 128, .int 0, .ref ap10, .int 0, .int 0, .int 0, .int 0])), (ap10, .inl (tp15, 32, .inl (fun _ => 0))), (oD7, .inr (1, [.int 128, .int 0, .ref aw11, .int 0, .int 0, .int 0, .int 0, .int 0, .int 0, .int 0])), (aw11, .inl (tw16, 128, .inl (fun _ => 0)))] H := hP
  have hD : va_D A [(h0, .inr (7, [.null, .null])), (q1, .inr (0, [.ref am2, .ref oM3, .ref oS4, .ref oK5, .ref oL6, .ref oD7])), (am2, .inl (tm12, 512, .inl (fun _ => 0))), (oM3, .inr (3, [.ref ad8, .ref ab9, .int 0])), (ad8, .inl (td13, 16, .inl (fun _ => 0))), (ab9, .inl (tb14, 16, .inl (fun _ => 0))), (oS4, .inr (6, [.int 0, .int (-1)])), (oK5, .inr (2, [.int 0, .int 0, .int 0])), (oL6, .inr (4, [.int 128, .int 0, .ref ap10, .int 0, .int 0, .int 0, .int 0])), (ap10, .inl (tp15, 32, .inl (fun _ => 0))), (oD7, .inr (1, [.int 128, .int 0, .ref aw11, .int 0, .int 0, .int 0, .int 0, .int 0, .int 0, .int 0])), (aw11, .inl (tw16, 128, .inl (fun _ => 0)))] := hD
  have hK : va_K (dC, dI) vwCl [(tm12, .int), (td13, .int), (tb14, .int), (tp15, .int), (tw16, .int)] s := hK
  refine W.widen (k := 11) (n := 735) (Nat.le_of_ble_eq_true rfl) (Nat.le_of_ble_eq_true rfl) ?_
  refine va_putF (D := (dC, dI)) (ci := 7) (v := .ref q1) (ty := .object "UnibusMachine$Bus") (C := RX8) (T := TX8) (N := 2) hx hb hts (by decide +kernel) tyX8 tyX8_ok nmX8 hown hK hP hD hS 0 rfl rfl 0 (by decide) (hts (.fieldLink RX8 10 "UnibusMachine" "bus" "LUnibusMachine$Bus;") (by decide +kernel)) (fun _ h9 => h9) rfl hin rfl (by decide +kernel) rfl rfl (Nat.le_of_ble_eq_true rfl) dX8_init_12 (fun H locs hP hD hS => ?_)
  have hP : va_P (dC, dI) vwCl [(h0, .inr (7, [.ref q1, .null])), (q1, .inr (0, [.ref am2, .ref oM3, .ref oS4, .ref oK5, .ref oL6, .ref oD7])), (am2, .inl (tm12, 512, .inl (fun _ => 0))), (oM3, .inr (3, [.ref ad8, .ref ab9, .int 0])), (ad8, .inl (td13, 16, .inl (fun _ => 0))), (ab9, .inl (tb14, 16, .inl (fun _ => 0))), (oS4, .inr (6, [.int 0, .int (-1)])), (oK5, .inr (2, [.int 0, .int 0, .int 0])), (oL6, .inr (4, [.int 128, .int 0, .ref ap10, .int 0, .int 0, .int 0, .int 0])), (ap10, .inl (tp15, 32, .inl (fun _ => 0))), (oD7, .inr (1, [.int 128, .int 0, .ref aw11, .int 0, .int 0, .int 0, .int 0, .int 0, .int 0, .int 0])), (aw11, .inl (tw16, 128, .inl (fun _ => 0)))] H := hP
  have hD : va_D A [(h0, .inr (7, [.ref q1, .null])), (q1, .inr (0, [.ref am2, .ref oM3, .ref oS4, .ref oK5, .ref oL6, .ref oD7])), (am2, .inl (tm12, 512, .inl (fun _ => 0))), (oM3, .inr (3, [.ref ad8, .ref ab9, .int 0])), (ad8, .inl (td13, 16, .inl (fun _ => 0))), (ab9, .inl (tb14, 16, .inl (fun _ => 0))), (oS4, .inr (6, [.int 0, .int (-1)])), (oK5, .inr (2, [.int 0, .int 0, .int 0])), (oL6, .inr (4, [.int 128, .int 0, .ref ap10, .int 0, .int 0, .int 0, .int 0])), (ap10, .inl (tp15, 32, .inl (fun _ => 0))), (oD7, .inr (1, [.int 128, .int 0, .ref aw11, .int 0, .int 0, .int 0, .int 0, .int 0, .int 0, .int 0])), (aw11, .inl (tw16, 128, .inl (fun _ => 0)))] := hD
  refine lv_aload_n hx hb dX8_init_15 rfl (lv_at hl 0 rfl) ?_
  refine va_new (D := (dC, dI)) (ci := 5) (fs := [.null, .null, .null, .int 0, .int 0, .int 0, .int 0, .int 0, .int 0]) (C := RX6) (T := TX6) (N := 9) hx hb hts (by decide +kernel) tyX6 tyX6_ok hown (hts (.classLink RX8 16 RX6) (by decide +kernel)) (hts (.instantiable RX6 9) (by decide +kernel)) (hts (.initialized RX6) (by decide +kernel)) hK hP hD hS hA rfl (fun j hj => by rcases (show j = 0 ∨ j = 1 ∨ j = 2 ∨ j = 3 ∨ j = 4 ∨ j = 5 ∨ j = 6 ∨ j = 7 ∨ j = 8 by omega) with rfl | rfl | rfl | rfl | rfl | rfl | rfl | rfl | rfl <;> rfl) (Nat.le_of_ble_eq_true rfl) (Nat.le_of_ble_eq_true rfl) dX8_init_16 (fun q19 H hP hD hS => ?_)
  have hP : va_P (dC, dI) vwCl [(h0, .inr (7, [.ref q1, .null])), (q1, .inr (0, [.ref am2, .ref oM3, .ref oS4, .ref oK5, .ref oL6, .ref oD7])), (am2, .inl (tm12, 512, .inl (fun _ => 0))), (oM3, .inr (3, [.ref ad8, .ref ab9, .int 0])), (ad8, .inl (td13, 16, .inl (fun _ => 0))), (ab9, .inl (tb14, 16, .inl (fun _ => 0))), (oS4, .inr (6, [.int 0, .int (-1)])), (oK5, .inr (2, [.int 0, .int 0, .int 0])), (oL6, .inr (4, [.int 128, .int 0, .ref ap10, .int 0, .int 0, .int 0, .int 0])), (ap10, .inl (tp15, 32, .inl (fun _ => 0))), (oD7, .inr (1, [.int 128, .int 0, .ref aw11, .int 0, .int 0, .int 0, .int 0, .int 0, .int 0, .int 0])), (aw11, .inl (tw16, 128, .inl (fun _ => 0))), (q19, .inr (5, [.null, .null, .null, .int 0, .int 0, .int 0, .int 0, .int 0, .int 0]))] H := hP
  have hD : va_D A [(h0, .inr (7, [.ref q1, .null])), (q1, .inr (0, [.ref am2, .ref oM3, .ref oS4, .ref oK5, .ref oL6, .ref oD7])), (am2, .inl (tm12, 512, .inl (fun _ => 0))), (oM3, .inr (3, [.ref ad8, .ref ab9, .int 0])), (ad8, .inl (td13, 16, .inl (fun _ => 0))), (ab9, .inl (tb14, 16, .inl (fun _ => 0))), (oS4, .inr (6, [.int 0, .int (-1)])), (oK5, .inr (2, [.int 0, .int 0, .int 0])), (oL6, .inr (4, [.int 128, .int 0, .ref ap10, .int 0, .int 0, .int 0, .int 0])), (ap10, .inl (tp15, 32, .inl (fun _ => 0))), (oD7, .inr (1, [.int 128, .int 0, .ref aw11, .int 0, .int 0, .int 0, .int 0, .int 0, .int 0, .int 0])), (aw11, .inl (tw16, 128, .inl (fun _ => 0))), (q19, .inr (5, [.null, .null, .null, .int 0, .int 0, .int 0, .int 0, .int 0, .int 0]))] := hD
  refine W.widen (k := 12) (n := 744) (Nat.le_of_ble_eq_true rfl) (Nat.le_of_ble_eq_true rfl) ?_
  refine lv_dup hx hb dX8_init_19 rfl ?_
  refine lv_aload_n hx hb dX8_init_20 rfl (lv_at hl 0 rfl) ?_
  refine va_get (D := (dC, dI)) (ci := 7) (v := .ref q1) (C := RX8) (T := TX8) (N := 2) hx hb hts (by decide +kernel) hown hK hP 0 rfl rfl 0 (by decide) (hts (.fieldLink RX8 10 "UnibusMachine" "bus" "LUnibusMachine$Bus;") (by decide +kernel)) (fun _ h9 => h9) rfl dX8_init_21 ?_
  have hPc := hP.sub (ws' := [(q19, .inr (5, [.null, .null, .null, .int 0, .int 0, .int 0, .int 0, .int 0, .int 0])), (q1, .inr (0, [.ref am2, .ref oM3, .ref oS4, .ref oK5, .ref oL6, .ref oD7]))]) [12, 1] rfl
  have hDc := hD.sub (ws' := [(q19, .inr (5, [.null, .null, .null, .int 0, .int 0, .int 0, .int 0, .int 0, .int 0])), (q1, .inr (0, [.ref am2, .ref oM3, .ref oS4, .ref oK5, .ref oL6, .ref oD7]))]) [12, 1] (by decide) rfl
  have hKc := hK.sub (tys' := []) [] rfl
  have hFc := va_free (wc := [(q19, .inr (5, [.null, .null, .null, .int 0, .int 0, .int 0, .int 0, .int 0, .int 0])), (q1, .inr (0, [.ref am2, .ref oM3, .ref oS4, .ref oK5, .ref oL6, .ref oD7]))]) hD hS hA [12, 1] rfl
  refine va_callv (va_runI (As := [.ref q1]) (rest := [.ref q19, .ref h0]) ⟨hx, hb, hml, hown, hts⟩ (c_Processor_init l dC dI q19 q1 am2 oM3 oS4 oK5 oL6 oD7 H.size) (cwI 1 hts gX8_init_X6_init rfl rfl rfl (hts (.initialized RX6) (by decide +kernel)) (hts (.methodLink RX8 18 yX6_init) (by decide +kernel)) (hts (.instanceMethod yX6_init) (by decide +kernel)) rfl (by decide +kernel) ⟨Nat.le_of_ble_eq_true rfl, Nat.le_of_ble_eq_true rfl⟩) ⟨fun a U g mk q => by obtain ⟨q0, q1, qP, qK, qD⟩ := q; exact ⟨q0, q1, qP, va_K.moved (u := U) (U := U.calling g mk a) (Vm.Alike.refl U.vm) qK, qD⟩, fun U hU hW => ⟨rfl, by rw [hU], by rw [hU]; exact hPc, va_K.moved hW.alike hKc, hDc.weaken (fun _ _ _ _ => trivial)⟩⟩ rfl rfl hl.1 rfl (lv_room (Nat.le_of_ble_eq_true rfl)) dX8_init_24 ⟨Nat.le_of_ble_eq_true rfl, Nat.le_of_ble_eq_true rfl⟩) hS (fun q _ h => hFc q h) hFc (fun u23 t H1 locs ht hvm hw hB hz1 hk1 hS => ?_)
  obtain ⟨ar20, tr21, hP1, hK1, hD1⟩ := hB
  rw [ht] at hP1
  have hK1 := va_K.moved hvm.symm hK1
  try dsimp only at hw
  obtain ⟨hP, hD⟩ := va_join (wr := [(h0, .inr (7, [.ref q1, .null])), (am2, .inl (tm12, 512, .inl (fun _ => 0))), (oM3, .inr (3, [.ref ad8, .ref ab9, .int 0])), (ad8, .inl (td13, 16, .inl (fun _ => 0))), (ab9, .inl (tb14, 16, .inl (fun _ => 0))), (oS4, .inr (6, [.int 0, .int (-1)])), (oK5, .inr (2, [.int 0, .int 0, .int 0])), (oL6, .inr (4, [.int 128, .int 0, .ref ap10, .int 0, .int 0, .int 0, .int 0])), (ap10, .inl (tp15, 32, .inl (fun _ => 0))), (oD7, .inr (1, [.int 128, .int 0, .ref aw11, .int 0, .int 0, .int 0, .int 0, .int 0, .int 0, .int 0])), (aw11, .inl (tw16, 128, .inl (fun _ => 0)))]) (w1 := [(q19, .inr (5, [.ref ar20, .ref q1, .ref oS4, .int 0, .int 2, .int 0, .int 0, .int 0, .int 0])), (q1, .inr (0, [.ref am2, .ref oM3, .ref oS4, .ref oK5, .ref oL6, .ref oD7])), (ar20, .inl (tr21, 8, .inl (fun _ => 0)))]) hP hD [12, 1] [0, 2, 3, 4, 5, 6, 7, 8, 9, 10, 11] rfl rfl (by decide) (by decide) hk1 hFc hP1 hD1
  have hK := (hK.sub (tys' := [(tm12, .int), (td13, .int), (tb14, .int), (tp15, .int), (tw16, .int)]) [0, 1, 2, 3, 4] rfl).app hK1
  generalize H1 = H at hP hS ⊢
  have hP : va_P (dC, dI) vwCl [(h0, .inr (7, [.ref q1, .null])), (am2, .inl (tm12, 512, .inl (fun _ => 0))), (oM3, .inr (3, [.ref ad8, .ref ab9, .int 0])), (ad8, .inl (td13, 16, .inl (fun _ => 0))), (ab9, .inl (tb14, 16, .inl (fun _ => 0))), (oS4, .inr (6, [.int 0, .int (-1)])), (oK5, .inr (2, [.int 0, .int 0, .int 0])), (oL6, .inr (4, [.int 128, .int 0, .ref ap10, .int 0, .int 0, .int 0, .int 0])), (ap10, .inl (tp15, 32, .inl (fun _ => 0))), (oD7, .inr (1, [.int 128, .int 0, .ref aw11, .int 0, .int 0, .int 0, .int 0, .int 0, .int 0, .int 0])), (aw11, .inl (tw16, 128, .inl (fun _ => 0))), (q19, .inr (5, [.ref ar20, .ref q1, .ref oS4, .int 0, .int 2, .int 0, .int 0, .int 0, .int 0])), (q1, .inr (0, [.ref am2, .ref oM3, .ref oS4, .ref oK5, .ref oL6, .ref oD7])), (ar20, .inl (tr21, 8, .inl (fun _ => 0)))] H := hP
  have hD : va_D A [(h0, .inr (7, [.ref q1, .null])), (am2, .inl (tm12, 512, .inl (fun _ => 0))), (oM3, .inr (3, [.ref ad8, .ref ab9, .int 0])), (ad8, .inl (td13, 16, .inl (fun _ => 0))), (ab9, .inl (tb14, 16, .inl (fun _ => 0))), (oS4, .inr (6, [.int 0, .int (-1)])), (oK5, .inr (2, [.int 0, .int 0, .int 0])), (oL6, .inr (4, [.int 128, .int 0, .ref ap10, .int 0, .int 0, .int 0, .int 0])), (ap10, .inl (tp15, 32, .inl (fun _ => 0))), (oD7, .inr (1, [.int 128, .int 0, .ref aw11, .int 0, .int 0, .int 0, .int 0, .int 0, .int 0, .int 0])), (aw11, .inl (tw16, 128, .inl (fun _ => 0))), (q19, .inr (5, [.ref ar20, .ref q1, .ref oS4, .int 0, .int 2, .int 0, .int 0, .int 0, .int 0])), (q1, .inr (0, [.ref am2, .ref oM3, .ref oS4, .ref oK5, .ref oL6, .ref oD7])), (ar20, .inl (tr21, 8, .inl (fun _ => 0)))] := hD
  have hK : va_K (dC, dI) vwCl [(tm12, .int), (td13, .int), (tb14, .int), (tp15, .int), (tw16, .int), (tr21, .int)] s := hK
  refine W.widen (k := 13) (n := 752) (Nat.le_of_ble_eq_true rfl) (Nat.le_of_ble_eq_true rfl) ?_
  refine va_putF (D := (dC, dI)) (ci := 7) (v := .ref q19) (ty := .object "UnibusMachine$Processor") (C := RX8) (T := TX8) (N := 2) hx hb hts (by decide +kernel) tyX8 tyX8_ok nmX8 hown hK hP hD hS 0 rfl rfl 1 (by decide) (hts (.fieldLink RX8 21 "UnibusMachine" "processor" "LUnibusMachine$Processor;") (by decide +kernel)) (fun _ h9 => h9) rfl hin rfl (by decide +kernel) rfl rfl (Nat.le_of_ble_eq_true rfl) dX8_init_27 (fun H locs hP hD hS => ?_)
  have hP : va_P (dC, dI) vwCl [(h0, .inr (7, [.ref q1, .ref q19])), (am2, .inl (tm12, 512, .inl (fun _ => 0))), (oM3, .inr (3, [.ref ad8, .ref ab9, .int 0])), (ad8, .inl (td13, 16, .inl (fun _ => 0))), (ab9, .inl (tb14, 16, .inl (fun _ => 0))), (oS4, .inr (6, [.int 0, .int (-1)])), (oK5, .inr (2, [.int 0, .int 0, .int 0])), (oL6, .inr (4, [.int 128, .int 0, .ref ap10, .int 0, .int 0, .int 0, .int 0])), (ap10, .inl (tp15, 32, .inl (fun _ => 0))), (oD7, .inr (1, [.int 128, .int 0, .ref aw11, .int 0, .int 0, .int 0, .int 0, .int 0, .int 0, .int 0])), (aw11, .inl (tw16, 128, .inl (fun _ => 0))), (q19, .inr (5, [.ref ar20, .ref q1, .ref oS4, .int 0, .int 2, .int 0, .int 0, .int 0, .int 0])), (q1, .inr (0, [.ref am2, .ref oM3, .ref oS4, .ref oK5, .ref oL6, .ref oD7])), (ar20, .inl (tr21, 8, .inl (fun _ => 0)))] H := hP
  have hD : va_D A [(h0, .inr (7, [.ref q1, .ref q19])), (am2, .inl (tm12, 512, .inl (fun _ => 0))), (oM3, .inr (3, [.ref ad8, .ref ab9, .int 0])), (ad8, .inl (td13, 16, .inl (fun _ => 0))), (ab9, .inl (tb14, 16, .inl (fun _ => 0))), (oS4, .inr (6, [.int 0, .int (-1)])), (oK5, .inr (2, [.int 0, .int 0, .int 0])), (oL6, .inr (4, [.int 128, .int 0, .ref ap10, .int 0, .int 0, .int 0, .int 0])), (ap10, .inl (tp15, 32, .inl (fun _ => 0))), (oD7, .inr (1, [.int 128, .int 0, .ref aw11, .int 0, .int 0, .int 0, .int 0, .int 0, .int 0, .int 0])), (aw11, .inl (tw16, 128, .inl (fun _ => 0))), (q19, .inr (5, [.ref ar20, .ref q1, .ref oS4, .int 0, .int 2, .int 0, .int 0, .int 0, .int 0])), (q1, .inr (0, [.ref am2, .ref oM3, .ref oS4, .ref oK5, .ref oL6, .ref oD7])), (ar20, .inl (tr21, 8, .inl (fun _ => 0)))] := hD
  have hP9 := hP.sub (ws' := [(h0, .inr (7, [.ref q1, .ref q19])), (q1, .inr (0, [.ref am2, .ref oM3, .ref oS4, .ref oK5, .ref oL6, .ref oD7])), (am2, .inl (tm12, 512, .inl (fun _ => 0))), (oM3, .inr (3, [.ref ad8, .ref ab9, .int 0])), (ad8, .inl (td13, 16, .inl (fun _ => 0))), (ab9, .inl (tb14, 16, .inl (fun _ => 0))), (oS4, .inr (6, [.int 0, .int (-1)])), (oK5, .inr (2, [.int 0, .int 0, .int 0])), (oL6, .inr (4, [.int 128, .int 0, .ref ap10, .int 0, .int 0, .int 0, .int 0])), (ap10, .inl (tp15, 32, .inl (fun _ => 0))), (oD7, .inr (1, [.int 128, .int 0, .ref aw11, .int 0, .int 0, .int 0, .int 0, .int 0, .int 0, .int 0])), (aw11, .inl (tw16, 128, .inl (fun _ => 0))), (q19, .inr (5, [.ref ar20, .ref q1, .ref oS4, .int 0, .int 2, .int 0, .int 0, .int 0, .int 0])), (ar20, .inl (tr21, 8, .inl (fun _ => 0)))]) [0, 12, 1, 2, 3, 4, 5, 6, 7, 8, 9, 10, 11, 13] rfl
  have hD9 := hD.sub (ws' := [(h0, .inr (7, [.ref q1, .ref q19])), (q1, .inr (0, [.ref am2, .ref oM3, .ref oS4, .ref oK5, .ref oL6, .ref oD7])), (am2, .inl (tm12, 512, .inl (fun _ => 0))), (oM3, .inr (3, [.ref ad8, .ref ab9, .int 0])), (ad8, .inl (td13, 16, .inl (fun _ => 0))), (ab9, .inl (tb14, 16, .inl (fun _ => 0))), (oS4, .inr (6, [.int 0, .int (-1)])), (oK5, .inr (2, [.int 0, .int 0, .int 0])), (oL6, .inr (4, [.int 128, .int 0, .ref ap10, .int 0, .int 0, .int 0, .int 0])), (ap10, .inl (tp15, 32, .inl (fun _ => 0))), (oD7, .inr (1, [.int 128, .int 0, .ref aw11, .int 0, .int 0, .int 0, .int 0, .int 0, .int 0, .int 0])), (aw11, .inl (tw16, 128, .inl (fun _ => 0))), (q19, .inr (5, [.ref ar20, .ref q1, .ref oS4, .int 0, .int 2, .int 0, .int 0, .int 0, .int 0])), (ar20, .inl (tr21, 8, .inl (fun _ => 0)))]) [0, 12, 1, 2, 3, 4, 5, 6, 7, 8, 9, 10, 11, 13] (by decide) rfl
  have hK9 := hK.sub (tys' := [(tm12, .int), (td13, .int), (tb14, .int), (tp15, .int), (tw16, .int), (tr21, .int)]) [0, 1, 2, 3, 4, 5] rfl
  exact W.vret hx hb hr (fun t ht hW => ⟨⟨(), rfl, trivial, q1, q19, am2, oM3, oS4, oK5, oL6, oD7, ad8, ab9, ap10, aw11, tm12, td13, tb14, tp15, tw16, ar20, tr21, by rw [ht]; exact hP9, va_K.moved hW.alike hK9, hD9⟩, hS.F ht⟩) hS.2.2 dX8_init_30
set_option maxHeartbeats 4000000 in
set_option maxRecDepth 100000 in
theorem c_M_init (l : Launch) (dC : Nat → ClassId) (dI : Nat → Nat → Nat) (h0 : Nat) (sz : Nat) : Met l yX9_init wsX9_init ({ frames := 1, cells := 11, slots := 727, locals := 12 } : Room) (va_Pc [.ref h0] (fun U => U.heap.size = sz ∧ va_P (dC, dI) vwCl [(h0, .inr (8, [.int 0, .null, .null, .null, .int 0, .int 0, .null, .int 0, .int 0, .int 0, .int 0, .int 0, .int 0, .null, .null, .null, .null, .null, .int 0, .int 0, .int 0, .null, .null, .int 0, .int 0, .int 0, .int 0, .int 0]))] U.heap ∧ va_K (dC, dI) vwCl [] U ∧ va_D (fun _ => True) [(h0, .inr (8, [.int 0, .null, .null, .null, .int 0, .int 0, .null, .int 0, .int 0, .int 0, .int 0, .int 0, .int 0, .null, .null, .null, .null, .null, .int 0, .int 0, .int 0, .null, .null, .int 0, .int 0, .int 0, .int 0, .int 0]))])) (va_Qv (fun (u : Unit) => True) (fun (u : Unit) (t : State) => ∃ (am : Nat) (ad : Nat) (ab : Nat) (ar : Nat) (az : Nat) (ae : Nat) (ao : Nat) (an : Nat) (au : Nat) (ap : Nat) (aw : Nat) (tm : ClassId) (td : ClassId) (tb : ClassId) (tr : ClassId) (tz : ClassId) (te : ClassId) (to : ClassId) (tn : ClassId) (tu : ClassId) (tp : ClassId) (tw : ClassId), va_P (dC, dI) vwCl [(h0, .inr (8, [.int 0, .ref am, .ref ad, .ref ab, .int 0, .int 0, .ref ar, .int 0, .int 0, .int 2, .int 0, .int 0, .int 0, .ref az, .ref ae, .ref ao, .ref an, .ref au, .int 0, .int 0, .int 0, .ref ap, .ref aw, .int 0, .int 0, .int 0, .int 0, .int 0])), (am, .inl (tm, 512, .inl (fun _ => 0))), (ad, .inl (td, 16, .inl (fun _ => 0))), (ab, .inl (tb, 16, .inl (fun _ => 0))), (ar, .inl (tr, 8, .inl (fun _ => 0))), (az, .inl (tz, 3, .inl rdy)), (ae, .inl (te, 3, .inl (fun _ => 0))), (ao, .inl (to, 3, .inl (fun _ => 0))), (an, .inl (tn, 3, .inl (fun _ => 0))), (au, .inl (tu, 3, .inl (fun _ => 0))), (ap, .inl (tp, 32, .inl (fun _ => 0))), (aw, .inl (tw, 128, .inl (fun _ => 0)))] t.heap ∧ va_K (dC, dI) vwCl [(tm, .int), (td, .int), (tb, .int), (tr, .int), (tz, .boolean), (te, .boolean), (to, .boolean), (tn, .boolean), (tu, .int), (tp, .int), (tw, .int)] t ∧ va_D (va_A [(h0, .inr (8, [.int 0, .null, .null, .null, .int 0, .int 0, .null, .int 0, .int 0, .int 0, .int 0, .int 0, .int 0, .null, .null, .null, .null, .null, .int 0, .int 0, .int 0, .null, .null, .int 0, .int 0, .int 0, .int 0, .int 0]))] sz) [(h0, .inr (8, [.int 0, .ref am, .ref ad, .ref ab, .int 0, .int 0, .ref ar, .int 0, .int 0, .int 2, .int 0, .int 0, .int 0, .ref az, .ref ae, .ref ao, .ref an, .ref au, .int 0, .int 0, .int 0, .ref ap, .ref aw, .int 0, .int 0, .int 0, .int 0, .int 0])), (am, .inl (tm, 512, .inl (fun _ => 0))), (ad, .inl (td, 16, .inl (fun _ => 0))), (ab, .inl (tb, 16, .inl (fun _ => 0))), (ar, .inl (tr, 8, .inl (fun _ => 0))), (az, .inl (tz, 3, .inl rdy)), (ae, .inl (te, 3, .inl (fun _ => 0))), (ao, .inl (to, 3, .inl (fun _ => 0))), (an, .inl (tn, 3, .inl (fun _ => 0))), (au, .inl (tu, 3, .inl (fun _ => 0))), (ap, .inl (tp, 32, .inl (fun _ => 0))), (aw, .inl (tw, 128, .inl (fun _ => 0)))]) (va_A [(h0, .inr (8, [.int 0, .null, .null, .null, .int 0, .int 0, .null, .int 0, .int 0, .int 0, .int 0, .int 0, .int 0, .null, .null, .null, .null, .null, .int 0, .int 0, .int 0, .null, .null, .int 0, .int 0, .int 0, .int 0, .int 0]))] sz)) 11 727 (va_A [(h0, .inr (8, [.int 0, .null, .null, .null, .int 0, .int 0, .null, .int 0, .int 0, .int 0, .int 0, .int 0, .int 0, .null, .null, .null, .null, .null, .int 0, .int 0, .int 0, .null, .null, .int 0, .int 0, .int 0, .int 0, .int 0]))] sz) := by
  refine Met.ofW (cc := cX9_init) (maxL := 1) (ret := none) (by decide) rfl ?_
  intro p e s m args below meth c s₁ B hml hv
  obtain ⟨rfl, hsz, hP, hK, hD0⟩ := hv
  have hx := B.exec
  have hb := B.bytes
  have hr := B.returns
  have hts := atoms_spec (ws := wsX9_init) B.pre
  have hown : s.vm.findClass RX9 = some m.cls := findClass_of_methodNamed B.named
  have hlocks := B.notSynchronized
  have hin : meth.name = "<init>" := (name_of_methodNamed B.named B.method).1
  subst hsz
  have hD := hD0.self (sz := s.heap.size)
  generalize hAe : va_A [(h0, .inr (8, [.int 0, .null, .null, .null, .int 0, .int 0, .null, .int 0, .int 0, .int 0, .int 0, .int 0, .int 0, .null, .null, .null, .null, .null, .int 0, .int 0, .int 0, .null, .null, .int 0, .int 0, .int 0, .int 0, .int 0]))] s.heap.size = A at hD ⊢
  have hA : ∀ q : Nat, s.heap.size ≤ q → A q := fun q h => by rw [← hAe]; exact Or.inr h
  have hS0 : ∀ G : Heap, s.heap = G → va_S A s.heap G [] := fun G h => by subst h; exact va_S.rf
  generalize hHe : s.heap = H at hP ⊢
  have hS := hS0 H hHe
  have hP : va_P (dC, dI) vwCl [(h0, .inr (8, [.int 0, .null, .null, .null, .int 0, .int 0, .null, .int 0, .int 0, .int 0, .int 0, .int 0, .int 0, .null, .null, .null, .null, .null, .int 0, .int 0, .int 0, .null, .null, .int 0, .int 0, .int 0, .int 0, .int 0]))] H := hP
  have hD : va_D A [(h0, .inr (8, [.int 0, .null, .null, .null, .int 0, .int 0, .null, .int 0, .int 0, .int 0, .int 0, .int 0, .int 0, .null, .null, .null, .null, .null, .int 0, .int 0, .int 0, .null, .null, .int 0, .int 0, .int 0, .int 0, .int 0]))] := hD
  have hK : va_K (dC, dI) vwCl [] s := hK
  have hl := lv_entry ([.ref h0]) (n := 1) (Nat.le_of_ble_eq_true rfl)
  rw [lg_entry_eq]
  generalize (lg_sl ([.ref h0]) ++ List.replicate (1 - (lg_sl ([.ref h0])).length) Slot.unset).toArray = ls at hl ⊢
  have hl : lv_has ls 1 [(0, .ref h0)] := hl
  refine lv_aload_n hx hb dX9_init_0 rfl (lv_at hl 0 rfl) ?_
  refine W.objInit hx hb hown (hts (.methodLink RX9 1 objectInit) (by decide +kernel)) (hts (.instanceMethod objectInit) (by decide +kernel)) (hts _ (List.mem_of_getElem? (i := 3) rfl)) rfl (by rw [hml]; exact hl.1) rfl dX9_init_1 (Nat.le_of_ble_eq_true rfl) (Nat.le_of_ble_eq_true rfl) ?_
  refine W.eq (g2 := F0 m 4 ls []) rfl ?_
  refine lv_aload_n hx hb dX9_init_4 rfl (lv_at hl 0 rfl) ?_
  refine lv_sipush (v := 512) hx hb dX9_init_5 (by decide) ?_
  refine va_newa (atype := .int) (ty := .int) (a0 := (512, .inl (fun _ => 0))) hx hb (hts (.arrayClass .int) (by decide +kernel)) rfl hK hP hD hS hA (fun _ => rfl) (by decide) (by decide) (Nat.le_of_ble_eq_true rfl) (Nat.le_of_ble_eq_true rfl) (Nat.le_of_ble_eq_true rfl) dX9_init_8 (fun q1 cA2 H hK hP hD hS => ?_)
  have hP : va_P (dC, dI) vwCl [(h0, .inr (8, [.int 0, .null, .null, .null, .int 0, .int 0, .null, .int 0, .int 0, .int 0, .int 0, .int 0, .int 0, .null, .null, .null, .null, .null, .int 0, .int 0, .int 0, .null, .null, .int 0, .int 0, .int 0, .int 0, .int 0])), (q1, .inl (cA2, 512, .inl (fun _ => 0)))] H := hP
  have hD : va_D A [(h0, .inr (8, [.int 0, .null, .null, .null, .int 0, .int 0, .null, .int 0, .int 0, .int 0, .int 0, .int 0, .int 0, .null, .null, .null, .null, .null, .int 0, .int 0, .int 0, .null, .null, .int 0, .int 0, .int 0, .int 0, .int 0])), (q1, .inl (cA2, 512, .inl (fun _ => 0)))] := hD
  have hK : va_K (dC, dI) vwCl [(cA2, .int)] s := hK
  refine W.widen (k := 1) (n := 512) (Nat.le_of_ble_eq_true rfl) (Nat.le_of_ble_eq_true rfl) ?_
  refine va_putF (D := (dC, dI)) (ci := 8) (v := .ref q1) (ty := .array .int) (C := RX9) (T := TX9) (N := 28) hx hb hts (by decide +kernel) tyX9 tyX9_ok nmX9 hown hK hP hD hS 0 rfl rfl 1 (by decide) (hts (.fieldLink RX9 7 "UnibusMachineModel" "memory" "[I") (by decide +kernel)) (fun _ h9 => h9) rfl hin rfl (by decide +kernel) rfl rfl (Nat.le_of_ble_eq_true rfl) dX9_init_10 (fun H locs hP hD hS => ?_)
  have hP : va_P (dC, dI) vwCl [(h0, .inr (8, [.int 0, .ref q1, .null, .null, .int 0, .int 0, .null, .int 0, .int 0, .int 0, .int 0, .int 0, .int 0, .null, .null, .null, .null, .null, .int 0, .int 0, .int 0, .null, .null, .int 0, .int 0, .int 0, .int 0, .int 0])), (q1, .inl (cA2, 512, .inl (fun _ => 0)))] H := hP
  have hD : va_D A [(h0, .inr (8, [.int 0, .ref q1, .null, .null, .int 0, .int 0, .null, .int 0, .int 0, .int 0, .int 0, .int 0, .int 0, .null, .null, .null, .null, .null, .int 0, .int 0, .int 0, .null, .null, .int 0, .int 0, .int 0, .int 0, .int 0])), (q1, .inl (cA2, 512, .inl (fun _ => 0)))] := hD
  refine lv_aload_n hx hb dX9_init_13 rfl (lv_at hl 0 rfl) ?_
  refine lv_bipush (v := 16) hx hb dX9_init_14 (by decide) ?_
  refine va_newa (atype := .int) (ty := .int) (a0 := (16, .inl (fun _ => 0))) hx hb (hts (.arrayClass .int) (by decide +kernel)) rfl hK hP hD hS hA (fun _ => rfl) (by decide) (by decide) (Nat.le_of_ble_eq_true rfl) (Nat.le_of_ble_eq_true rfl) (Nat.le_of_ble_eq_true rfl) dX9_init_16 (fun q3 cA4 H hK hP hD hS => ?_)
  have hP : va_P (dC, dI) vwCl [(h0, .inr (8, [.int 0, .ref q1, .null, .null, .int 0, .int 0, .null, .int 0, .int 0, .int 0, .int 0, .int 0, .int 0, .null, .null, .null, .null, .null, .int 0, .int 0, .int 0, .null, .null, .int 0, .int 0, .int 0, .int 0, .int 0])), (q1, .inl (cA2, 512, .inl (fun _ => 0))), (q3, .inl (cA4, 16, .inl (fun _ => 0)))] H := hP
  have hD : va_D A [(h0, .inr (8, [.int 0, .ref q1, .null, .null, .int 0, .int 0, .null, .int 0, .int 0, .int 0, .int 0, .int 0, .int 0, .null, .null, .null, .null, .null, .int 0, .int 0, .int 0, .null, .null, .int 0, .int 0, .int 0, .int 0, .int 0])), (q1, .inl (cA2, 512, .inl (fun _ => 0))), (q3, .inl (cA4, 16, .inl (fun _ => 0)))] := hD
  have hK : va_K (dC, dI) vwCl [(cA2, .int), (cA4, .int)] s := hK
  refine W.widen (k := 2) (n := 528) (Nat.le_of_ble_eq_true rfl) (Nat.le_of_ble_eq_true rfl) ?_
  refine va_putF (D := (dC, dI)) (ci := 8) (v := .ref q3) (ty := .array .int) (C := RX9) (T := TX9) (N := 28) hx hb hts (by decide +kernel) tyX9 tyX9_ok nmX9 hown hK hP hD hS 0 rfl rfl 2 (by decide) (hts (.fieldLink RX9 13 "UnibusMachineModel" "descriptor" "[I") (by decide +kernel)) (fun _ h9 => h9) rfl hin rfl (by decide +kernel) rfl rfl (Nat.le_of_ble_eq_true rfl) dX9_init_18 (fun H locs hP hD hS => ?_)
  have hP : va_P (dC, dI) vwCl [(h0, .inr (8, [.int 0, .ref q1, .ref q3, .null, .int 0, .int 0, .null, .int 0, .int 0, .int 0, .int 0, .int 0, .int 0, .null, .null, .null, .null, .null, .int 0, .int 0, .int 0, .null, .null, .int 0, .int 0, .int 0, .int 0, .int 0])), (q1, .inl (cA2, 512, .inl (fun _ => 0))), (q3, .inl (cA4, 16, .inl (fun _ => 0)))] H := hP
  have hD : va_D A [(h0, .inr (8, [.int 0, .ref q1, .ref q3, .null, .int 0, .int 0, .null, .int 0, .int 0, .int 0, .int 0, .int 0, .int 0, .null, .null, .null, .null, .null, .int 0, .int 0, .int 0, .null, .null, .int 0, .int 0, .int 0, .int 0, .int 0])), (q1, .inl (cA2, 512, .inl (fun _ => 0))), (q3, .inl (cA4, 16, .inl (fun _ => 0)))] := hD
  refine lv_aload_n hx hb dX9_init_21 rfl (lv_at hl 0 rfl) ?_
  refine lv_bipush (v := 16) hx hb dX9_init_22 (by decide) ?_
  refine va_newa (atype := .int) (ty := .int) (a0 := (16, .inl (fun _ => 0))) hx hb (hts (.arrayClass .int) (by decide +kernel)) rfl hK hP hD hS hA (fun _ => rfl) (by decide) (by decide) (Nat.le_of_ble_eq_true rfl) (Nat.le_of_ble_eq_true rfl) (Nat.le_of_ble_eq_true rfl) dX9_init_24 (fun q5 cA6 H hK hP hD hS => ?_)
  have hP : va_P (dC, dI) vwCl [(h0, .inr (8, [.int 0, .ref q1, .ref q3, .null, .int 0, .int 0, .null, .int 0, .int 0, .int 0, .int 0, .int 0, .int 0, .null, .null, .null, .null, .null, .int 0, .int 0, .int 0, .null, .null, .int 0, .int 0, .int 0, .int 0, .int 0])), (q1, .inl (cA2, 512, .inl (fun _ => 0))), (q3, .inl (cA4, 16, .inl (fun _ => 0))), (q5, .inl (cA6, 16, .inl (fun _ => 0)))] H := hP
  have hD : va_D A [(h0, .inr (8, [.int 0, .ref q1, .ref q3, .null, .int 0, .int 0, .null, .int 0, .int 0, .int 0, .int 0, .int 0, .int 0, .null, .null, .null, .null, .null, .int 0, .int 0, .int 0, .null, .null, .int 0, .int 0, .int 0, .int 0, .int 0])), (q1, .inl (cA2, 512, .inl (fun _ => 0))), (q3, .inl (cA4, 16, .inl (fun _ => 0))), (q5, .inl (cA6, 16, .inl (fun _ => 0)))] := hD
  have hK : va_K (dC, dI) vwCl [(cA2, .int), (cA4, .int), (cA6, .int)] s := hK
  refine W.widen (k := 3) (n := 544) (Nat.le_of_ble_eq_true rfl) (Nat.le_of_ble_eq_true rfl) ?_
  refine va_putF (D := (dC, dI)) (ci := 8) (v := .ref q5) (ty := .array .int) (C := RX9) (T := TX9) (N := 28) hx hb hts (by decide +kernel) tyX9 tyX9_ok nmX9 hown hK hP hD hS 0 rfl rfl 3 (by decide) (hts (.fieldLink RX9 16 "UnibusMachineModel" "base" "[I") (by decide +kernel)) (fun _ h9 => h9) rfl hin rfl (by decide +kernel) rfl rfl (Nat.le_of_ble_eq_true rfl) dX9_init_26 (fun H locs hP hD hS => ?_)
  have hP : va_P (dC, dI) vwCl [(h0, .inr (8, [.int 0, .ref q1, .ref q3, .ref q5, .int 0, .int 0, .null, .int 0, .int 0, .int 0, .int 0, .int 0, .int 0, .null, .null, .null, .null, .null, .int 0, .int 0, .int 0, .null, .null, .int 0, .int 0, .int 0, .int 0, .int 0])), (q1, .inl (cA2, 512, .inl (fun _ => 0))), (q3, .inl (cA4, 16, .inl (fun _ => 0))), (q5, .inl (cA6, 16, .inl (fun _ => 0)))] H := hP
  have hD : va_D A [(h0, .inr (8, [.int 0, .ref q1, .ref q3, .ref q5, .int 0, .int 0, .null, .int 0, .int 0, .int 0, .int 0, .int 0, .int 0, .null, .null, .null, .null, .null, .int 0, .int 0, .int 0, .null, .null, .int 0, .int 0, .int 0, .int 0, .int 0])), (q1, .inl (cA2, 512, .inl (fun _ => 0))), (q3, .inl (cA4, 16, .inl (fun _ => 0))), (q5, .inl (cA6, 16, .inl (fun _ => 0)))] := hD
  refine lv_aload_n hx hb dX9_init_29 rfl (lv_at hl 0 rfl) ?_
  refine lv_bipush (v := 8) hx hb dX9_init_30 (by decide) ?_
  refine va_newa (atype := .int) (ty := .int) (a0 := (8, .inl (fun _ => 0))) hx hb (hts (.arrayClass .int) (by decide +kernel)) rfl hK hP hD hS hA (fun _ => rfl) (by decide) (by decide) (Nat.le_of_ble_eq_true rfl) (Nat.le_of_ble_eq_true rfl) (Nat.le_of_ble_eq_true rfl) dX9_init_32 (fun q7 cA8 H hK hP hD hS => ?_)
  have hP : va_P (dC, dI) vwCl [(h0, .inr (8, [.int 0, .ref q1, .ref q3, .ref q5, .int 0, .int 0, .null, .int 0, .int 0, .int 0, .int 0, .int 0, .int 0, .null, .null, .null, .null, .null, .int 0, .int 0, .int 0, .null, .null, .int 0, .int 0, .int 0, .int 0, .int 0])), (q1, .inl (cA2, 512, .inl (fun _ => 0))), (q3, .inl (cA4, 16, .inl (fun _ => 0))), (q5, .inl (cA6, 16, .inl (fun _ => 0))), (q7, .inl (cA8, 8, .inl (fun _ => 0)))] H := hP
  have hD : va_D A [(h0, .inr (8, [.int 0, .ref q1, .ref q3, .ref q5, .int 0, .int 0, .null, .int 0, .int 0, .int 0, .int 0, .int 0, .int 0, .null, .null, .null, .null, .null, .int 0, .int 0, .int 0, .null, .null, .int 0, .int 0, .int 0, .int 0, .int 0])), (q1, .inl (cA2, 512, .inl (fun _ => 0))), (q3, .inl (cA4, 16, .inl (fun _ => 0))), (q5, .inl (cA6, 16, .inl (fun _ => 0))), (q7, .inl (cA8, 8, .inl (fun _ => 0)))] := hD
  have hK : va_K (dC, dI) vwCl [(cA2, .int), (cA4, .int), (cA6, .int), (cA8, .int)] s := hK
  refine W.widen (k := 4) (n := 552) (Nat.le_of_ble_eq_true rfl) (Nat.le_of_ble_eq_true rfl) ?_
  refine va_putF (D := (dC, dI)) (ci := 8) (v := .ref q7) (ty := .array .int) (C := RX9) (T := TX9) (N := 28) hx hb hts (by decide +kernel) tyX9 tyX9_ok nmX9 hown hK hP hD hS 0 rfl rfl 6 (by decide) (hts (.fieldLink RX9 19 "UnibusMachineModel" "reg" "[I") (by decide +kernel)) (fun _ h9 => h9) rfl hin rfl (by decide +kernel) rfl rfl (Nat.le_of_ble_eq_true rfl) dX9_init_34 (fun H locs hP hD hS => ?_)
  have hP : va_P (dC, dI) vwCl [(h0, .inr (8, [.int 0, .ref q1, .ref q3, .ref q5, .int 0, .int 0, .ref q7, .int 0, .int 0, .int 0, .int 0, .int 0, .int 0, .null, .null, .null, .null, .null, .int 0, .int 0, .int 0, .null, .null, .int 0, .int 0, .int 0, .int 0, .int 0])), (q1, .inl (cA2, 512, .inl (fun _ => 0))), (q3, .inl (cA4, 16, .inl (fun _ => 0))), (q5, .inl (cA6, 16, .inl (fun _ => 0))), (q7, .inl (cA8, 8, .inl (fun _ => 0)))] H := hP
  have hD : va_D A [(h0, .inr (8, [.int 0, .ref q1, .ref q3, .ref q5, .int 0, .int 0, .ref q7, .int 0, .int 0, .int 0, .int 0, .int 0, .int 0, .null, .null, .null, .null, .null, .int 0, .int 0, .int 0, .null, .null, .int 0, .int 0, .int 0, .int 0, .int 0])), (q1, .inl (cA2, 512, .inl (fun _ => 0))), (q3, .inl (cA4, 16, .inl (fun _ => 0))), (q5, .inl (cA6, 16, .inl (fun _ => 0))), (q7, .inl (cA8, 8, .inl (fun _ => 0)))] := hD
  refine lv_aload_n hx hb dX9_init_37 rfl (lv_at hl 0 rfl) ?_
  refine lv_iconst (v := 2) hx hb dX9_init_38 (by decide) ?_
  refine va_put (D := (dC, dI)) (ci := 8) (v := .int 2) (ty := .int) (C := RX9) (T := TX9) (N := 28) hx hb hts (by decide +kernel) tyX9 tyX9_ok nmX9 hown hK hP hD hS 0 rfl rfl 9 (by decide) (hts (.fieldLink RX9 22 "UnibusMachineModel" "state" "I") (by decide +kernel)) (fun _ h9 => h9) rfl (by decide +kernel) rfl rfl (Nat.le_of_ble_eq_true rfl) dX9_init_39 (fun H locs hP hD hS => ?_)
  have hP : va_P (dC, dI) vwCl [(h0, .inr (8, [.int 0, .ref q1, .ref q3, .ref q5, .int 0, .int 0, .ref q7, .int 0, .int 0, .int 2, .int 0, .int 0, .int 0, .null, .null, .null, .null, .null, .int 0, .int 0, .int 0, .null, .null, .int 0, .int 0, .int 0, .int 0, .int 0])), (q1, .inl (cA2, 512, .inl (fun _ => 0))), (q3, .inl (cA4, 16, .inl (fun _ => 0))), (q5, .inl (cA6, 16, .inl (fun _ => 0))), (q7, .inl (cA8, 8, .inl (fun _ => 0)))] H := hP
  have hD : va_D A [(h0, .inr (8, [.int 0, .ref q1, .ref q3, .ref q5, .int 0, .int 0, .ref q7, .int 0, .int 0, .int 2, .int 0, .int 0, .int 0, .null, .null, .null, .null, .null, .int 0, .int 0, .int 0, .null, .null, .int 0, .int 0, .int 0, .int 0, .int 0])), (q1, .inl (cA2, 512, .inl (fun _ => 0))), (q3, .inl (cA4, 16, .inl (fun _ => 0))), (q5, .inl (cA6, 16, .inl (fun _ => 0))), (q7, .inl (cA8, 8, .inl (fun _ => 0)))] := hD
  refine lv_aload_n hx hb dX9_init_42 rfl (lv_at hl 0 rfl) ?_
  refine lv_iconst (v := 3) hx hb dX9_init_43 (by decide) ?_
  refine va_newa (atype := .boolean) (ty := .boolean) (a0 := (3, .inl (fun _ => 0))) hx hb (hts (.arrayClass .boolean) (by decide +kernel)) rfl hK hP hD hS hA (fun _ => rfl) (by decide) (by decide) (Nat.le_of_ble_eq_true rfl) (Nat.le_of_ble_eq_true rfl) (Nat.le_of_ble_eq_true rfl) dX9_init_44 (fun q9 cA10 H hK hP hD hS => ?_)
  have hP : va_P (dC, dI) vwCl [(h0, .inr (8, [.int 0, .ref q1, .ref q3, .ref q5, .int 0, .int 0, .ref q7, .int 0, .int 0, .int 2, .int 0, .int 0, .int 0, .null, .null, .null, .null, .null, .int 0, .int 0, .int 0, .null, .null, .int 0, .int 0, .int 0, .int 0, .int 0])), (q1, .inl (cA2, 512, .inl (fun _ => 0))), (q3, .inl (cA4, 16, .inl (fun _ => 0))), (q5, .inl (cA6, 16, .inl (fun _ => 0))), (q7, .inl (cA8, 8, .inl (fun _ => 0))), (q9, .inl (cA10, 3, .inl (fun _ => 0)))] H := hP
  have hD : va_D A [(h0, .inr (8, [.int 0, .ref q1, .ref q3, .ref q5, .int 0, .int 0, .ref q7, .int 0, .int 0, .int 2, .int 0, .int 0, .int 0, .null, .null, .null, .null, .null, .int 0, .int 0, .int 0, .null, .null, .int 0, .int 0, .int 0, .int 0, .int 0])), (q1, .inl (cA2, 512, .inl (fun _ => 0))), (q3, .inl (cA4, 16, .inl (fun _ => 0))), (q5, .inl (cA6, 16, .inl (fun _ => 0))), (q7, .inl (cA8, 8, .inl (fun _ => 0))), (q9, .inl (cA10, 3, .inl (fun _ => 0)))] := hD
  have hK : va_K (dC, dI) vwCl [(cA2, .int), (cA4, .int), (cA6, .int), (cA8, .int), (cA10, .boolean)] s := hK
  refine W.widen (k := 5) (n := 555) (Nat.le_of_ble_eq_true rfl) (Nat.le_of_ble_eq_true rfl) ?_
  refine va_putF (D := (dC, dI)) (ci := 8) (v := .ref q9) (ty := .array .boolean) (C := RX9) (T := TX9) (N := 28) hx hb hts (by decide +kernel) tyX9 tyX9_ok nmX9 hown hK hP hD hS 0 rfl rfl 13 (by decide) (hts (.fieldLink RX9 26 "UnibusMachineModel" "ready" "[Z") (by decide +kernel)) (fun _ h9 => h9) rfl hin rfl (by decide +kernel) rfl rfl (Nat.le_of_ble_eq_true rfl) dX9_init_46 (fun H locs hP hD hS => ?_)
  have hP : va_P (dC, dI) vwCl [(h0, .inr (8, [.int 0, .ref q1, .ref q3, .ref q5, .int 0, .int 0, .ref q7, .int 0, .int 0, .int 2, .int 0, .int 0, .int 0, .ref q9, .null, .null, .null, .null, .int 0, .int 0, .int 0, .null, .null, .int 0, .int 0, .int 0, .int 0, .int 0])), (q1, .inl (cA2, 512, .inl (fun _ => 0))), (q3, .inl (cA4, 16, .inl (fun _ => 0))), (q5, .inl (cA6, 16, .inl (fun _ => 0))), (q7, .inl (cA8, 8, .inl (fun _ => 0))), (q9, .inl (cA10, 3, .inl (fun _ => 0)))] H := hP
  have hD : va_D A [(h0, .inr (8, [.int 0, .ref q1, .ref q3, .ref q5, .int 0, .int 0, .ref q7, .int 0, .int 0, .int 2, .int 0, .int 0, .int 0, .ref q9, .null, .null, .null, .null, .int 0, .int 0, .int 0, .null, .null, .int 0, .int 0, .int 0, .int 0, .int 0])), (q1, .inl (cA2, 512, .inl (fun _ => 0))), (q3, .inl (cA4, 16, .inl (fun _ => 0))), (q5, .inl (cA6, 16, .inl (fun _ => 0))), (q7, .inl (cA8, 8, .inl (fun _ => 0))), (q9, .inl (cA10, 3, .inl (fun _ => 0)))] := hD
  refine lv_aload_n hx hb dX9_init_49 rfl (lv_at hl 0 rfl) ?_
  refine lv_iconst (v := 3) hx hb dX9_init_50 (by decide) ?_
  refine va_newa (atype := .boolean) (ty := .boolean) (a0 := (3, .inl (fun _ => 0))) hx hb (hts (.arrayClass .boolean) (by decide +kernel)) rfl hK hP hD hS hA (fun _ => rfl) (by decide) (by decide) (Nat.le_of_ble_eq_true rfl) (Nat.le_of_ble_eq_true rfl) (Nat.le_of_ble_eq_true rfl) dX9_init_51 (fun q11 cA12 H hK hP hD hS => ?_)
  have hP : va_P (dC, dI) vwCl [(h0, .inr (8, [.int 0, .ref q1, .ref q3, .ref q5, .int 0, .int 0, .ref q7, .int 0, .int 0, .int 2, .int 0, .int 0, .int 0, .ref q9, .null, .null, .null, .null, .int 0, .int 0, .int 0, .null, .null, .int 0, .int 0, .int 0, .int 0, .int 0])), (q1, .inl (cA2, 512, .inl (fun _ => 0))), (q3, .inl (cA4, 16, .inl (fun _ => 0))), (q5, .inl (cA6, 16, .inl (fun _ => 0))), (q7, .inl (cA8, 8, .inl (fun _ => 0))), (q9, .inl (cA10, 3, .inl (fun _ => 0))), (q11, .inl (cA12, 3, .inl (fun _ => 0)))] H := hP
  have hD : va_D A [(h0, .inr (8, [.int 0, .ref q1, .ref q3, .ref q5, .int 0, .int 0, .ref q7, .int 0, .int 0, .int 2, .int 0, .int 0, .int 0, .ref q9, .null, .null, .null, .null, .int 0, .int 0, .int 0, .null, .null, .int 0, .int 0, .int 0, .int 0, .int 0])), (q1, .inl (cA2, 512, .inl (fun _ => 0))), (q3, .inl (cA4, 16, .inl (fun _ => 0))), (q5, .inl (cA6, 16, .inl (fun _ => 0))), (q7, .inl (cA8, 8, .inl (fun _ => 0))), (q9, .inl (cA10, 3, .inl (fun _ => 0))), (q11, .inl (cA12, 3, .inl (fun _ => 0)))] := hD
  have hK : va_K (dC, dI) vwCl [(cA2, .int), (cA4, .int), (cA6, .int), (cA8, .int), (cA10, .boolean), (cA12, .boolean)] s := hK
  refine W.widen (k := 6) (n := 558) (Nat.le_of_ble_eq_true rfl) (Nat.le_of_ble_eq_true rfl) ?_
  refine va_putF (D := (dC, dI)) (ci := 8) (v := .ref q11) (ty := .array .boolean) (C := RX9) (T := TX9) (N := 28) hx hb hts (by decide +kernel) tyX9 tyX9_ok nmX9 hown hK hP hD hS 0 rfl rfl 14 (by decide) (hts (.fieldLink RX9 30 "UnibusMachineModel" "enabled" "[Z") (by decide +kernel)) (fun _ h9 => h9) rfl hin rfl (by decide +kernel) rfl rfl (Nat.le_of_ble_eq_true rfl) dX9_init_53 (fun H locs hP hD hS => ?_)
  have hP : va_P (dC, dI) vwCl [(h0, .inr (8, [.int 0, .ref q1, .ref q3, .ref q5, .int 0, .int 0, .ref q7, .int 0, .int 0, .int 2, .int 0, .int 0, .int 0, .ref q9, .ref q11, .null, .null, .null, .int 0, .int 0, .int 0, .null, .null, .int 0, .int 0, .int 0, .int 0, .int 0])), (q1, .inl (cA2, 512, .inl (fun _ => 0))), (q3, .inl (cA4, 16, .inl (fun _ => 0))), (q5, .inl (cA6, 16, .inl (fun _ => 0))), (q7, .inl (cA8, 8, .inl (fun _ => 0))), (q9, .inl (cA10, 3, .inl (fun _ => 0))), (q11, .inl (cA12, 3, .inl (fun _ => 0)))] H := hP
  have hD : va_D A [(h0, .inr (8, [.int 0, .ref q1, .ref q3, .ref q5, .int 0, .int 0, .ref q7, .int 0, .int 0, .int 2, .int 0, .int 0, .int 0, .ref q9, .ref q11, .null, .null, .null, .int 0, .int 0, .int 0, .null, .null, .int 0, .int 0, .int 0, .int 0, .int 0])), (q1, .inl (cA2, 512, .inl (fun _ => 0))), (q3, .inl (cA4, 16, .inl (fun _ => 0))), (q5, .inl (cA6, 16, .inl (fun _ => 0))), (q7, .inl (cA8, 8, .inl (fun _ => 0))), (q9, .inl (cA10, 3, .inl (fun _ => 0))), (q11, .inl (cA12, 3, .inl (fun _ => 0)))] := hD
  refine lv_aload_n hx hb dX9_init_56 rfl (lv_at hl 0 rfl) ?_
  refine lv_iconst (v := 3) hx hb dX9_init_57 (by decide) ?_
  refine va_newa (atype := .boolean) (ty := .boolean) (a0 := (3, .inl (fun _ => 0))) hx hb (hts (.arrayClass .boolean) (by decide +kernel)) rfl hK hP hD hS hA (fun _ => rfl) (by decide) (by decide) (Nat.le_of_ble_eq_true rfl) (Nat.le_of_ble_eq_true rfl) (Nat.le_of_ble_eq_true rfl) dX9_init_58 (fun q13 cA14 H hK hP hD hS => ?_)
  have hP : va_P (dC, dI) vwCl [(h0, .inr (8, [.int 0, .ref q1, .ref q3, .ref q5, .int 0, .int 0, .ref q7, .int 0, .int 0, .int 2, .int 0, .int 0, .int 0, .ref q9, .ref q11, .null, .null, .null, .int 0, .int 0, .int 0, .null, .null, .int 0, .int 0, .int 0, .int 0, .int 0])), (q1, .inl (cA2, 512, .inl (fun _ => 0))), (q3, .inl (cA4, 16, .inl (fun _ => 0))), (q5, .inl (cA6, 16, .inl (fun _ => 0))), (q7, .inl (cA8, 8, .inl (fun _ => 0))), (q9, .inl (cA10, 3, .inl (fun _ => 0))), (q11, .inl (cA12, 3, .inl (fun _ => 0))), (q13, .inl (cA14, 3, .inl (fun _ => 0)))] H := hP
  have hD : va_D A [(h0, .inr (8, [.int 0, .ref q1, .ref q3, .ref q5, .int 0, .int 0, .ref q7, .int 0, .int 0, .int 2, .int 0, .int 0, .int 0, .ref q9, .ref q11, .null, .null, .null, .int 0, .int 0, .int 0, .null, .null, .int 0, .int 0, .int 0, .int 0, .int 0])), (q1, .inl (cA2, 512, .inl (fun _ => 0))), (q3, .inl (cA4, 16, .inl (fun _ => 0))), (q5, .inl (cA6, 16, .inl (fun _ => 0))), (q7, .inl (cA8, 8, .inl (fun _ => 0))), (q9, .inl (cA10, 3, .inl (fun _ => 0))), (q11, .inl (cA12, 3, .inl (fun _ => 0))), (q13, .inl (cA14, 3, .inl (fun _ => 0)))] := hD
  have hK : va_K (dC, dI) vwCl [(cA2, .int), (cA4, .int), (cA6, .int), (cA8, .int), (cA10, .boolean), (cA12, .boolean), (cA14, .boolean)] s := hK
  refine W.widen (k := 7) (n := 561) (Nat.le_of_ble_eq_true rfl) (Nat.le_of_ble_eq_true rfl) ?_
  refine va_putF (D := (dC, dI)) (ci := 8) (v := .ref q13) (ty := .array .boolean) (C := RX9) (T := TX9) (N := 28) hx hb hts (by decide +kernel) tyX9 tyX9_ok nmX9 hown hK hP hD hS 0 rfl rfl 15 (by decide) (hts (.fieldLink RX9 33 "UnibusMachineModel" "both" "[Z") (by decide +kernel)) (fun _ h9 => h9) rfl hin rfl (by decide +kernel) rfl rfl (Nat.le_of_ble_eq_true rfl) dX9_init_60 (fun H locs hP hD hS => ?_)
  have hP : va_P (dC, dI) vwCl [(h0, .inr (8, [.int 0, .ref q1, .ref q3, .ref q5, .int 0, .int 0, .ref q7, .int 0, .int 0, .int 2, .int 0, .int 0, .int 0, .ref q9, .ref q11, .ref q13, .null, .null, .int 0, .int 0, .int 0, .null, .null, .int 0, .int 0, .int 0, .int 0, .int 0])), (q1, .inl (cA2, 512, .inl (fun _ => 0))), (q3, .inl (cA4, 16, .inl (fun _ => 0))), (q5, .inl (cA6, 16, .inl (fun _ => 0))), (q7, .inl (cA8, 8, .inl (fun _ => 0))), (q9, .inl (cA10, 3, .inl (fun _ => 0))), (q11, .inl (cA12, 3, .inl (fun _ => 0))), (q13, .inl (cA14, 3, .inl (fun _ => 0)))] H := hP
  have hD : va_D A [(h0, .inr (8, [.int 0, .ref q1, .ref q3, .ref q5, .int 0, .int 0, .ref q7, .int 0, .int 0, .int 2, .int 0, .int 0, .int 0, .ref q9, .ref q11, .ref q13, .null, .null, .int 0, .int 0, .int 0, .null, .null, .int 0, .int 0, .int 0, .int 0, .int 0])), (q1, .inl (cA2, 512, .inl (fun _ => 0))), (q3, .inl (cA4, 16, .inl (fun _ => 0))), (q5, .inl (cA6, 16, .inl (fun _ => 0))), (q7, .inl (cA8, 8, .inl (fun _ => 0))), (q9, .inl (cA10, 3, .inl (fun _ => 0))), (q11, .inl (cA12, 3, .inl (fun _ => 0))), (q13, .inl (cA14, 3, .inl (fun _ => 0)))] := hD
  refine lv_aload_n hx hb dX9_init_63 rfl (lv_at hl 0 rfl) ?_
  refine lv_iconst (v := 3) hx hb dX9_init_64 (by decide) ?_
  refine va_newa (atype := .boolean) (ty := .boolean) (a0 := (3, .inl (fun _ => 0))) hx hb (hts (.arrayClass .boolean) (by decide +kernel)) rfl hK hP hD hS hA (fun _ => rfl) (by decide) (by decide) (Nat.le_of_ble_eq_true rfl) (Nat.le_of_ble_eq_true rfl) (Nat.le_of_ble_eq_true rfl) dX9_init_65 (fun q15 cA16 H hK hP hD hS => ?_)
  have hP : va_P (dC, dI) vwCl [(h0, .inr (8, [.int 0, .ref q1, .ref q3, .ref q5, .int 0, .int 0, .ref q7, .int 0, .int 0, .int 2, .int 0, .int 0, .int 0, .ref q9, .ref q11, .ref q13, .null, .null, .int 0, .int 0, .int 0, .null, .null, .int 0, .int 0, .int 0, .int 0, .int 0])), (q1, .inl (cA2, 512, .inl (fun _ => 0))), (q3, .inl (cA4, 16, .inl (fun _ => 0))), (q5, .inl (cA6, 16, .inl (fun _ => 0))), (q7, .inl (cA8, 8, .inl (fun _ => 0))), (q9, .inl (cA10, 3, .inl (fun _ => 0))), (q11, .inl (cA12, 3, .inl (fun _ => 0))), (q13, .inl (cA14, 3, .inl (fun _ => 0))), (q15, .inl (cA16, 3, .inl (fun _ => 0)))] H := hP
  have hD : va_D A [(h0, .inr (8, [.int 0, .ref q1, .ref q3, .ref q5, .int 0, .int 0, .ref q7, .int 0, .int 0, .int 2, .int 0, .int 0, .int 0, .ref q9, .ref q11, .ref q13, .null, .null, .int 0, .int 0, .int 0, .null, .null, .int 0, .int 0, .int 0, .int 0, .int 0])), (q1, .inl (cA2, 512, .inl (fun _ => 0))), (q3, .inl (cA4, 16, .inl (fun _ => 0))), (q5, .inl (cA6, 16, .inl (fun _ => 0))), (q7, .inl (cA8, 8, .inl (fun _ => 0))), (q9, .inl (cA10, 3, .inl (fun _ => 0))), (q11, .inl (cA12, 3, .inl (fun _ => 0))), (q13, .inl (cA14, 3, .inl (fun _ => 0))), (q15, .inl (cA16, 3, .inl (fun _ => 0)))] := hD
  have hK : va_K (dC, dI) vwCl [(cA2, .int), (cA4, .int), (cA6, .int), (cA8, .int), (cA10, .boolean), (cA12, .boolean), (cA14, .boolean), (cA16, .boolean)] s := hK
  refine W.widen (k := 8) (n := 564) (Nat.le_of_ble_eq_true rfl) (Nat.le_of_ble_eq_true rfl) ?_
  refine va_putF (D := (dC, dI)) (ci := 8) (v := .ref q15) (ty := .array .boolean) (C := RX9) (T := TX9) (N := 28) hx hb hts (by decide +kernel) tyX9 tyX9_ok nmX9 hown hK hP hD hS 0 rfl rfl 16 (by decide) (hts (.fieldLink RX9 36 "UnibusMachineModel" "wants" "[Z") (by decide +kernel)) (fun _ h9 => h9) rfl hin rfl (by decide +kernel) rfl rfl (Nat.le_of_ble_eq_true rfl) dX9_init_67 (fun H locs hP hD hS => ?_)
  have hP : va_P (dC, dI) vwCl [(h0, .inr (8, [.int 0, .ref q1, .ref q3, .ref q5, .int 0, .int 0, .ref q7, .int 0, .int 0, .int 2, .int 0, .int 0, .int 0, .ref q9, .ref q11, .ref q13, .ref q15, .null, .int 0, .int 0, .int 0, .null, .null, .int 0, .int 0, .int 0, .int 0, .int 0])), (q1, .inl (cA2, 512, .inl (fun _ => 0))), (q3, .inl (cA4, 16, .inl (fun _ => 0))), (q5, .inl (cA6, 16, .inl (fun _ => 0))), (q7, .inl (cA8, 8, .inl (fun _ => 0))), (q9, .inl (cA10, 3, .inl (fun _ => 0))), (q11, .inl (cA12, 3, .inl (fun _ => 0))), (q13, .inl (cA14, 3, .inl (fun _ => 0))), (q15, .inl (cA16, 3, .inl (fun _ => 0)))] H := hP
  have hD : va_D A [(h0, .inr (8, [.int 0, .ref q1, .ref q3, .ref q5, .int 0, .int 0, .ref q7, .int 0, .int 0, .int 2, .int 0, .int 0, .int 0, .ref q9, .ref q11, .ref q13, .ref q15, .null, .int 0, .int 0, .int 0, .null, .null, .int 0, .int 0, .int 0, .int 0, .int 0])), (q1, .inl (cA2, 512, .inl (fun _ => 0))), (q3, .inl (cA4, 16, .inl (fun _ => 0))), (q5, .inl (cA6, 16, .inl (fun _ => 0))), (q7, .inl (cA8, 8, .inl (fun _ => 0))), (q9, .inl (cA10, 3, .inl (fun _ => 0))), (q11, .inl (cA12, 3, .inl (fun _ => 0))), (q13, .inl (cA14, 3, .inl (fun _ => 0))), (q15, .inl (cA16, 3, .inl (fun _ => 0)))] := hD
  refine lv_aload_n hx hb dX9_init_70 rfl (lv_at hl 0 rfl) ?_
  refine lv_iconst (v := 3) hx hb dX9_init_71 (by decide) ?_
  refine va_newa (atype := .int) (ty := .int) (a0 := (3, .inl (fun _ => 0))) hx hb (hts (.arrayClass .int) (by decide +kernel)) rfl hK hP hD hS hA (fun _ => rfl) (by decide) (by decide) (Nat.le_of_ble_eq_true rfl) (Nat.le_of_ble_eq_true rfl) (Nat.le_of_ble_eq_true rfl) dX9_init_72 (fun q17 cA18 H hK hP hD hS => ?_)
  have hP : va_P (dC, dI) vwCl [(h0, .inr (8, [.int 0, .ref q1, .ref q3, .ref q5, .int 0, .int 0, .ref q7, .int 0, .int 0, .int 2, .int 0, .int 0, .int 0, .ref q9, .ref q11, .ref q13, .ref q15, .null, .int 0, .int 0, .int 0, .null, .null, .int 0, .int 0, .int 0, .int 0, .int 0])), (q1, .inl (cA2, 512, .inl (fun _ => 0))), (q3, .inl (cA4, 16, .inl (fun _ => 0))), (q5, .inl (cA6, 16, .inl (fun _ => 0))), (q7, .inl (cA8, 8, .inl (fun _ => 0))), (q9, .inl (cA10, 3, .inl (fun _ => 0))), (q11, .inl (cA12, 3, .inl (fun _ => 0))), (q13, .inl (cA14, 3, .inl (fun _ => 0))), (q15, .inl (cA16, 3, .inl (fun _ => 0))), (q17, .inl (cA18, 3, .inl (fun _ => 0)))] H := hP
  have hD : va_D A [(h0, .inr (8, [.int 0, .ref q1, .ref q3, .ref q5, .int 0, .int 0, .ref q7, .int 0, .int 0, .int 2, .int 0, .int 0, .int 0, .ref q9, .ref q11, .ref q13, .ref q15, .null, .int 0, .int 0, .int 0, .null, .null, .int 0, .int 0, .int 0, .int 0, .int 0])), (q1, .inl (cA2, 512, .inl (fun _ => 0))), (q3, .inl (cA4, 16, .inl (fun _ => 0))), (q5, .inl (cA6, 16, .inl (fun _ => 0))), (q7, .inl (cA8, 8, .inl (fun _ => 0))), (q9, .inl (cA10, 3, .inl (fun _ => 0))), (q11, .inl (cA12, 3, .inl (fun _ => 0))), (q13, .inl (cA14, 3, .inl (fun _ => 0))), (q15, .inl (cA16, 3, .inl (fun _ => 0))), (q17, .inl (cA18, 3, .inl (fun _ => 0)))] := hD
  have hK : va_K (dC, dI) vwCl [(cA2, .int), (cA4, .int), (cA6, .int), (cA8, .int), (cA10, .boolean), (cA12, .boolean), (cA14, .boolean), (cA16, .boolean), (cA18, .int)] s := hK
  refine W.widen (k := 9) (n := 567) (Nat.le_of_ble_eq_true rfl) (Nat.le_of_ble_eq_true rfl) ?_
  refine va_putF (D := (dC, dI)) (ci := 8) (v := .ref q17) (ty := .array .int) (C := RX9) (T := TX9) (N := 28) hx hb hts (by decide +kernel) tyX9 tyX9_ok nmX9 hown hK hP hD hS 0 rfl rfl 17 (by decide) (hts (.fieldLink RX9 39 "UnibusMachineModel" "busy" "[I") (by decide +kernel)) (fun _ h9 => h9) rfl hin rfl (by decide +kernel) rfl rfl (Nat.le_of_ble_eq_true rfl) dX9_init_74 (fun H locs hP hD hS => ?_)
  have hP : va_P (dC, dI) vwCl [(h0, .inr (8, [.int 0, .ref q1, .ref q3, .ref q5, .int 0, .int 0, .ref q7, .int 0, .int 0, .int 2, .int 0, .int 0, .int 0, .ref q9, .ref q11, .ref q13, .ref q15, .ref q17, .int 0, .int 0, .int 0, .null, .null, .int 0, .int 0, .int 0, .int 0, .int 0])), (q1, .inl (cA2, 512, .inl (fun _ => 0))), (q3, .inl (cA4, 16, .inl (fun _ => 0))), (q5, .inl (cA6, 16, .inl (fun _ => 0))), (q7, .inl (cA8, 8, .inl (fun _ => 0))), (q9, .inl (cA10, 3, .inl (fun _ => 0))), (q11, .inl (cA12, 3, .inl (fun _ => 0))), (q13, .inl (cA14, 3, .inl (fun _ => 0))), (q15, .inl (cA16, 3, .inl (fun _ => 0))), (q17, .inl (cA18, 3, .inl (fun _ => 0)))] H := hP
  have hD : va_D A [(h0, .inr (8, [.int 0, .ref q1, .ref q3, .ref q5, .int 0, .int 0, .ref q7, .int 0, .int 0, .int 2, .int 0, .int 0, .int 0, .ref q9, .ref q11, .ref q13, .ref q15, .ref q17, .int 0, .int 0, .int 0, .null, .null, .int 0, .int 0, .int 0, .int 0, .int 0])), (q1, .inl (cA2, 512, .inl (fun _ => 0))), (q3, .inl (cA4, 16, .inl (fun _ => 0))), (q5, .inl (cA6, 16, .inl (fun _ => 0))), (q7, .inl (cA8, 8, .inl (fun _ => 0))), (q9, .inl (cA10, 3, .inl (fun _ => 0))), (q11, .inl (cA12, 3, .inl (fun _ => 0))), (q13, .inl (cA14, 3, .inl (fun _ => 0))), (q15, .inl (cA16, 3, .inl (fun _ => 0))), (q17, .inl (cA18, 3, .inl (fun _ => 0)))] := hD
  refine lv_aload_n hx hb dX9_init_77 rfl (lv_at hl 0 rfl) ?_
  refine lv_bipush (v := 32) hx hb dX9_init_78 (by decide) ?_
  refine va_newa (atype := .int) (ty := .int) (a0 := (32, .inl (fun _ => 0))) hx hb (hts (.arrayClass .int) (by decide +kernel)) rfl hK hP hD hS hA (fun _ => rfl) (by decide) (by decide) (Nat.le_of_ble_eq_true rfl) (Nat.le_of_ble_eq_true rfl) (Nat.le_of_ble_eq_true rfl) dX9_init_80 (fun q19 cA20 H hK hP hD hS => ?_)
  have hP : va_P (dC, dI) vwCl [(h0, .inr (8, [.int 0, .ref q1, .ref q3, .ref q5, .int 0, .int 0, .ref q7, .int 0, .int 0, .int 2, .int 0, .int 0, .int 0, .ref q9, .ref q11, .ref q13, .ref q15, .ref q17, .int 0, .int 0, .int 0, .null, .null, .int 0, .int 0, .int 0, .int 0, .int 0])), (q1, .inl (cA2, 512, .inl (fun _ => 0))), (q3, .inl (cA4, 16, .inl (fun _ => 0))), (q5, .inl (cA6, 16, .inl (fun _ => 0))), (q7, .inl (cA8, 8, .inl (fun _ => 0))), (q9, .inl (cA10, 3, .inl (fun _ => 0))), (q11, .inl (cA12, 3, .inl (fun _ => 0))), (q13, .inl (cA14, 3, .inl (fun _ => 0))), (q15, .inl (cA16, 3, .inl (fun _ => 0))), (q17, .inl (cA18, 3, .inl (fun _ => 0))), (q19, .inl (cA20, 32, .inl (fun _ => 0)))] H := hP
  have hD : va_D A [(h0, .inr (8, [.int 0, .ref q1, .ref q3, .ref q5, .int 0, .int 0, .ref q7, .int 0, .int 0, .int 2, .int 0, .int 0, .int 0, .ref q9, .ref q11, .ref q13, .ref q15, .ref q17, .int 0, .int 0, .int 0, .null, .null, .int 0, .int 0, .int 0, .int 0, .int 0])), (q1, .inl (cA2, 512, .inl (fun _ => 0))), (q3, .inl (cA4, 16, .inl (fun _ => 0))), (q5, .inl (cA6, 16, .inl (fun _ => 0))), (q7, .inl (cA8, 8, .inl (fun _ => 0))), (q9, .inl (cA10, 3, .inl (fun _ => 0))), (q11, .inl (cA12, 3, .inl (fun _ => 0))), (q13, .inl (cA14, 3, .inl (fun _ => 0))), (q15, .inl (cA16, 3, .inl (fun _ => 0))), (q17, .inl (cA18, 3, .inl (fun _ => 0))), (q19, .inl (cA20, 32, .inl (fun _ => 0)))] := hD
  have hK : va_K (dC, dI) vwCl [(cA2, .int), (cA4, .int), (cA6, .int), (cA8, .int), (cA10, .boolean), (cA12, .boolean), (cA14, .boolean), (cA16, .boolean), (cA18, .int), (cA20, .int)] s := hK
  refine W.widen (k := 10) (n := 599) (Nat.le_of_ble_eq_true rfl) (Nat.le_of_ble_eq_true rfl) ?_
  refine va_putF (D := (dC, dI)) (ci := 8) (v := .ref q19) (ty := .array .int) (C := RX9) (T := TX9) (N := 28) hx hb hts (by decide +kernel) tyX9 tyX9_ok nmX9 hown hK hP hD hS 0 rfl rfl 21 (by decide) (hts (.fieldLink RX9 42 "UnibusMachineModel" "paper" "[I") (by decide +kernel)) (fun _ h9 => h9) rfl hin rfl (by decide +kernel) rfl rfl (Nat.le_of_ble_eq_true rfl) dX9_init_82 (fun H locs hP hD hS => ?_)
  have hP : va_P (dC, dI) vwCl [(h0, .inr (8, [.int 0, .ref q1, .ref q3, .ref q5, .int 0, .int 0, .ref q7, .int 0, .int 0, .int 2, .int 0, .int 0, .int 0, .ref q9, .ref q11, .ref q13, .ref q15, .ref q17, .int 0, .int 0, .int 0, .ref q19, .null, .int 0, .int 0, .int 0, .int 0, .int 0])), (q1, .inl (cA2, 512, .inl (fun _ => 0))), (q3, .inl (cA4, 16, .inl (fun _ => 0))), (q5, .inl (cA6, 16, .inl (fun _ => 0))), (q7, .inl (cA8, 8, .inl (fun _ => 0))), (q9, .inl (cA10, 3, .inl (fun _ => 0))), (q11, .inl (cA12, 3, .inl (fun _ => 0))), (q13, .inl (cA14, 3, .inl (fun _ => 0))), (q15, .inl (cA16, 3, .inl (fun _ => 0))), (q17, .inl (cA18, 3, .inl (fun _ => 0))), (q19, .inl (cA20, 32, .inl (fun _ => 0)))] H := hP
  have hD : va_D A [(h0, .inr (8, [.int 0, .ref q1, .ref q3, .ref q5, .int 0, .int 0, .ref q7, .int 0, .int 0, .int 2, .int 0, .int 0, .int 0, .ref q9, .ref q11, .ref q13, .ref q15, .ref q17, .int 0, .int 0, .int 0, .ref q19, .null, .int 0, .int 0, .int 0, .int 0, .int 0])), (q1, .inl (cA2, 512, .inl (fun _ => 0))), (q3, .inl (cA4, 16, .inl (fun _ => 0))), (q5, .inl (cA6, 16, .inl (fun _ => 0))), (q7, .inl (cA8, 8, .inl (fun _ => 0))), (q9, .inl (cA10, 3, .inl (fun _ => 0))), (q11, .inl (cA12, 3, .inl (fun _ => 0))), (q13, .inl (cA14, 3, .inl (fun _ => 0))), (q15, .inl (cA16, 3, .inl (fun _ => 0))), (q17, .inl (cA18, 3, .inl (fun _ => 0))), (q19, .inl (cA20, 32, .inl (fun _ => 0)))] := hD
  refine lv_aload_n hx hb dX9_init_85 rfl (lv_at hl 0 rfl) ?_
  refine lv_sipush (v := 128) hx hb dX9_init_86 (by decide) ?_
  refine va_newa (atype := .int) (ty := .int) (a0 := (128, .inl (fun _ => 0))) hx hb (hts (.arrayClass .int) (by decide +kernel)) rfl hK hP hD hS hA (fun _ => rfl) (by decide) (by decide) (Nat.le_of_ble_eq_true rfl) (Nat.le_of_ble_eq_true rfl) (Nat.le_of_ble_eq_true rfl) dX9_init_89 (fun q21 cA22 H hK hP hD hS => ?_)
  have hP : va_P (dC, dI) vwCl [(h0, .inr (8, [.int 0, .ref q1, .ref q3, .ref q5, .int 0, .int 0, .ref q7, .int 0, .int 0, .int 2, .int 0, .int 0, .int 0, .ref q9, .ref q11, .ref q13, .ref q15, .ref q17, .int 0, .int 0, .int 0, .ref q19, .null, .int 0, .int 0, .int 0, .int 0, .int 0])), (q1, .inl (cA2, 512, .inl (fun _ => 0))), (q3, .inl (cA4, 16, .inl (fun _ => 0))), (q5, .inl (cA6, 16, .inl (fun _ => 0))), (q7, .inl (cA8, 8, .inl (fun _ => 0))), (q9, .inl (cA10, 3, .inl (fun _ => 0))), (q11, .inl (cA12, 3, .inl (fun _ => 0))), (q13, .inl (cA14, 3, .inl (fun _ => 0))), (q15, .inl (cA16, 3, .inl (fun _ => 0))), (q17, .inl (cA18, 3, .inl (fun _ => 0))), (q19, .inl (cA20, 32, .inl (fun _ => 0))), (q21, .inl (cA22, 128, .inl (fun _ => 0)))] H := hP
  have hD : va_D A [(h0, .inr (8, [.int 0, .ref q1, .ref q3, .ref q5, .int 0, .int 0, .ref q7, .int 0, .int 0, .int 2, .int 0, .int 0, .int 0, .ref q9, .ref q11, .ref q13, .ref q15, .ref q17, .int 0, .int 0, .int 0, .ref q19, .null, .int 0, .int 0, .int 0, .int 0, .int 0])), (q1, .inl (cA2, 512, .inl (fun _ => 0))), (q3, .inl (cA4, 16, .inl (fun _ => 0))), (q5, .inl (cA6, 16, .inl (fun _ => 0))), (q7, .inl (cA8, 8, .inl (fun _ => 0))), (q9, .inl (cA10, 3, .inl (fun _ => 0))), (q11, .inl (cA12, 3, .inl (fun _ => 0))), (q13, .inl (cA14, 3, .inl (fun _ => 0))), (q15, .inl (cA16, 3, .inl (fun _ => 0))), (q17, .inl (cA18, 3, .inl (fun _ => 0))), (q19, .inl (cA20, 32, .inl (fun _ => 0))), (q21, .inl (cA22, 128, .inl (fun _ => 0)))] := hD
  have hK : va_K (dC, dI) vwCl [(cA2, .int), (cA4, .int), (cA6, .int), (cA8, .int), (cA10, .boolean), (cA12, .boolean), (cA14, .boolean), (cA16, .boolean), (cA18, .int), (cA20, .int), (cA22, .int)] s := hK
  refine W.widen (k := 11) (n := 727) (Nat.le_of_ble_eq_true rfl) (Nat.le_of_ble_eq_true rfl) ?_
  refine va_putF (D := (dC, dI)) (ci := 8) (v := .ref q21) (ty := .array .int) (C := RX9) (T := TX9) (N := 28) hx hb hts (by decide +kernel) tyX9 tyX9_ok nmX9 hown hK hP hD hS 0 rfl rfl 22 (by decide) (hts (.fieldLink RX9 45 "UnibusMachineModel" "sectors" "[I") (by decide +kernel)) (fun _ h9 => h9) rfl hin rfl (by decide +kernel) rfl rfl (Nat.le_of_ble_eq_true rfl) dX9_init_91 (fun H locs hP hD hS => ?_)
  have hP : va_P (dC, dI) vwCl [(h0, .inr (8, [.int 0, .ref q1, .ref q3, .ref q5, .int 0, .int 0, .ref q7, .int 0, .int 0, .int 2, .int 0, .int 0, .int 0, .ref q9, .ref q11, .ref q13, .ref q15, .ref q17, .int 0, .int 0, .int 0, .ref q19, .ref q21, .int 0, .int 0, .int 0, .int 0, .int 0])), (q1, .inl (cA2, 512, .inl (fun _ => 0))), (q3, .inl (cA4, 16, .inl (fun _ => 0))), (q5, .inl (cA6, 16, .inl (fun _ => 0))), (q7, .inl (cA8, 8, .inl (fun _ => 0))), (q9, .inl (cA10, 3, .inl (fun _ => 0))), (q11, .inl (cA12, 3, .inl (fun _ => 0))), (q13, .inl (cA14, 3, .inl (fun _ => 0))), (q15, .inl (cA16, 3, .inl (fun _ => 0))), (q17, .inl (cA18, 3, .inl (fun _ => 0))), (q19, .inl (cA20, 32, .inl (fun _ => 0))), (q21, .inl (cA22, 128, .inl (fun _ => 0)))] H := hP
  have hD : va_D A [(h0, .inr (8, [.int 0, .ref q1, .ref q3, .ref q5, .int 0, .int 0, .ref q7, .int 0, .int 0, .int 2, .int 0, .int 0, .int 0, .ref q9, .ref q11, .ref q13, .ref q15, .ref q17, .int 0, .int 0, .int 0, .ref q19, .ref q21, .int 0, .int 0, .int 0, .int 0, .int 0])), (q1, .inl (cA2, 512, .inl (fun _ => 0))), (q3, .inl (cA4, 16, .inl (fun _ => 0))), (q5, .inl (cA6, 16, .inl (fun _ => 0))), (q7, .inl (cA8, 8, .inl (fun _ => 0))), (q9, .inl (cA10, 3, .inl (fun _ => 0))), (q11, .inl (cA12, 3, .inl (fun _ => 0))), (q13, .inl (cA14, 3, .inl (fun _ => 0))), (q15, .inl (cA16, 3, .inl (fun _ => 0))), (q17, .inl (cA18, 3, .inl (fun _ => 0))), (q19, .inl (cA20, 32, .inl (fun _ => 0))), (q21, .inl (cA22, 128, .inl (fun _ => 0)))] := hD
  refine lv_aload_n hx hb dX9_init_94 rfl (lv_at hl 0 rfl) ?_
  refine va_get (D := (dC, dI)) (ci := 8) (v := .ref q9) (C := RX9) (T := TX9) (N := 28) hx hb hts (by decide +kernel) hown hK hP 0 rfl rfl 13 (by decide) (hts (.fieldLink RX9 26 "UnibusMachineModel" "ready" "[Z") (by decide +kernel)) (fun _ h9 => h9) rfl dX9_init_95 ?_
  refine lv_iconst (v := 0) hx hb dX9_init_98 (by decide) ?_
  refine lv_iconst (v := 1) hx hb dX9_init_99 (by decide) ?_
  refine va_zast (D := (dC, dI)) hx hb hK hP hD hS 5 4 rfl rfl (vp_in_iff.mpr (by decide)) dX9_init_100 (fun H locs hP hD hS => ?_)
  have hP : va_P (dC, dI) vwCl [(h0, .inr (8, [.int 0, .ref q1, .ref q3, .ref q5, .int 0, .int 0, .ref q7, .int 0, .int 0, .int 2, .int 0, .int 0, .int 0, .ref q9, .ref q11, .ref q13, .ref q15, .ref q17, .int 0, .int 0, .int 0, .ref q19, .ref q21, .int 0, .int 0, .int 0, .int 0, .int 0])), (q1, .inl (cA2, 512, .inl (fun _ => 0))), (q3, .inl (cA4, 16, .inl (fun _ => 0))), (q5, .inl (cA6, 16, .inl (fun _ => 0))), (q7, .inl (cA8, 8, .inl (fun _ => 0))), (q9, .inl (cA10, 3, .inl (upd (fun _ => 0) (0 : Int32).toNatClampNeg (vp_nar .boolean 1)))), (q11, .inl (cA12, 3, .inl (fun _ => 0))), (q13, .inl (cA14, 3, .inl (fun _ => 0))), (q15, .inl (cA16, 3, .inl (fun _ => 0))), (q17, .inl (cA18, 3, .inl (fun _ => 0))), (q19, .inl (cA20, 32, .inl (fun _ => 0))), (q21, .inl (cA22, 128, .inl (fun _ => 0)))] H := hP
  have hD : va_D A [(h0, .inr (8, [.int 0, .ref q1, .ref q3, .ref q5, .int 0, .int 0, .ref q7, .int 0, .int 0, .int 2, .int 0, .int 0, .int 0, .ref q9, .ref q11, .ref q13, .ref q15, .ref q17, .int 0, .int 0, .int 0, .ref q19, .ref q21, .int 0, .int 0, .int 0, .int 0, .int 0])), (q1, .inl (cA2, 512, .inl (fun _ => 0))), (q3, .inl (cA4, 16, .inl (fun _ => 0))), (q5, .inl (cA6, 16, .inl (fun _ => 0))), (q7, .inl (cA8, 8, .inl (fun _ => 0))), (q9, .inl (cA10, 3, .inl (upd (fun _ => 0) (0 : Int32).toNatClampNeg (vp_nar .boolean 1)))), (q11, .inl (cA12, 3, .inl (fun _ => 0))), (q13, .inl (cA14, 3, .inl (fun _ => 0))), (q15, .inl (cA16, 3, .inl (fun _ => 0))), (q17, .inl (cA18, 3, .inl (fun _ => 0))), (q19, .inl (cA20, 32, .inl (fun _ => 0))), (q21, .inl (cA22, 128, .inl (fun _ => 0)))] := hD
  refine lv_aload_n hx hb dX9_init_101 rfl (lv_at hl 0 rfl) ?_
  refine va_get (D := (dC, dI)) (ci := 8) (v := .ref q9) (C := RX9) (T := TX9) (N := 28) hx hb hts (by decide +kernel) hown hK hP 0 rfl rfl 13 (by decide) (hts (.fieldLink RX9 26 "UnibusMachineModel" "ready" "[Z") (by decide +kernel)) (fun _ h9 => h9) rfl dX9_init_102 ?_
  refine lv_iconst (v := 2) hx hb dX9_init_105 (by decide) ?_
  refine lv_iconst (v := 1) hx hb dX9_init_106 (by decide) ?_
  refine va_zast (D := (dC, dI)) hx hb hK hP hD hS 5 4 rfl rfl (vp_in_iff.mpr (by decide)) dX9_init_107 (fun H locs hP hD hS => ?_)
  have hP : va_P (dC, dI) vwCl [(h0, .inr (8, [.int 0, .ref q1, .ref q3, .ref q5, .int 0, .int 0, .ref q7, .int 0, .int 0, .int 2, .int 0, .int 0, .int 0, .ref q9, .ref q11, .ref q13, .ref q15, .ref q17, .int 0, .int 0, .int 0, .ref q19, .ref q21, .int 0, .int 0, .int 0, .int 0, .int 0])), (q1, .inl (cA2, 512, .inl (fun _ => 0))), (q3, .inl (cA4, 16, .inl (fun _ => 0))), (q5, .inl (cA6, 16, .inl (fun _ => 0))), (q7, .inl (cA8, 8, .inl (fun _ => 0))), (q9, .inl (cA10, 3, .inl (upd (upd (fun _ => 0) (0 : Int32).toNatClampNeg (vp_nar .boolean 1)) (2 : Int32).toNatClampNeg (vp_nar .boolean 1)))), (q11, .inl (cA12, 3, .inl (fun _ => 0))), (q13, .inl (cA14, 3, .inl (fun _ => 0))), (q15, .inl (cA16, 3, .inl (fun _ => 0))), (q17, .inl (cA18, 3, .inl (fun _ => 0))), (q19, .inl (cA20, 32, .inl (fun _ => 0))), (q21, .inl (cA22, 128, .inl (fun _ => 0)))] H := hP
  have hD : va_D A [(h0, .inr (8, [.int 0, .ref q1, .ref q3, .ref q5, .int 0, .int 0, .ref q7, .int 0, .int 0, .int 2, .int 0, .int 0, .int 0, .ref q9, .ref q11, .ref q13, .ref q15, .ref q17, .int 0, .int 0, .int 0, .ref q19, .ref q21, .int 0, .int 0, .int 0, .int 0, .int 0])), (q1, .inl (cA2, 512, .inl (fun _ => 0))), (q3, .inl (cA4, 16, .inl (fun _ => 0))), (q5, .inl (cA6, 16, .inl (fun _ => 0))), (q7, .inl (cA8, 8, .inl (fun _ => 0))), (q9, .inl (cA10, 3, .inl (upd (upd (fun _ => 0) (0 : Int32).toNatClampNeg (vp_nar .boolean 1)) (2 : Int32).toNatClampNeg (vp_nar .boolean 1)))), (q11, .inl (cA12, 3, .inl (fun _ => 0))), (q13, .inl (cA14, 3, .inl (fun _ => 0))), (q15, .inl (cA16, 3, .inl (fun _ => 0))), (q17, .inl (cA18, 3, .inl (fun _ => 0))), (q19, .inl (cA20, 32, .inl (fun _ => 0))), (q21, .inl (cA22, 128, .inl (fun _ => 0)))] := hD
  have hP9 := hP.sub (ws' := [(h0, .inr (8, [.int 0, .ref q1, .ref q3, .ref q5, .int 0, .int 0, .ref q7, .int 0, .int 0, .int 2, .int 0, .int 0, .int 0, .ref q9, .ref q11, .ref q13, .ref q15, .ref q17, .int 0, .int 0, .int 0, .ref q19, .ref q21, .int 0, .int 0, .int 0, .int 0, .int 0])), (q1, .inl (cA2, 512, .inl (fun _ => 0))), (q3, .inl (cA4, 16, .inl (fun _ => 0))), (q5, .inl (cA6, 16, .inl (fun _ => 0))), (q7, .inl (cA8, 8, .inl (fun _ => 0))), (q9, .inl (cA10, 3, .inl (upd (upd (fun _ => 0) (0 : Int32).toNatClampNeg (vp_nar .boolean 1)) (2 : Int32).toNatClampNeg (vp_nar .boolean 1)))), (q11, .inl (cA12, 3, .inl (fun _ => 0))), (q13, .inl (cA14, 3, .inl (fun _ => 0))), (q15, .inl (cA16, 3, .inl (fun _ => 0))), (q17, .inl (cA18, 3, .inl (fun _ => 0))), (q19, .inl (cA20, 32, .inl (fun _ => 0))), (q21, .inl (cA22, 128, .inl (fun _ => 0)))]) [0, 1, 2, 3, 4, 5, 6, 7, 8, 9, 10, 11] rfl
  have hD9 := hD.sub (ws' := [(h0, .inr (8, [.int 0, .ref q1, .ref q3, .ref q5, .int 0, .int 0, .ref q7, .int 0, .int 0, .int 2, .int 0, .int 0, .int 0, .ref q9, .ref q11, .ref q13, .ref q15, .ref q17, .int 0, .int 0, .int 0, .ref q19, .ref q21, .int 0, .int 0, .int 0, .int 0, .int 0])), (q1, .inl (cA2, 512, .inl (fun _ => 0))), (q3, .inl (cA4, 16, .inl (fun _ => 0))), (q5, .inl (cA6, 16, .inl (fun _ => 0))), (q7, .inl (cA8, 8, .inl (fun _ => 0))), (q9, .inl (cA10, 3, .inl (upd (upd (fun _ => 0) (0 : Int32).toNatClampNeg (vp_nar .boolean 1)) (2 : Int32).toNatClampNeg (vp_nar .boolean 1)))), (q11, .inl (cA12, 3, .inl (fun _ => 0))), (q13, .inl (cA14, 3, .inl (fun _ => 0))), (q15, .inl (cA16, 3, .inl (fun _ => 0))), (q17, .inl (cA18, 3, .inl (fun _ => 0))), (q19, .inl (cA20, 32, .inl (fun _ => 0))), (q21, .inl (cA22, 128, .inl (fun _ => 0)))]) [0, 1, 2, 3, 4, 5, 6, 7, 8, 9, 10, 11] (by decide) rfl
  have hK9 := hK.sub (tys' := [(cA2, .int), (cA4, .int), (cA6, .int), (cA8, .int), (cA10, .boolean), (cA12, .boolean), (cA14, .boolean), (cA16, .boolean), (cA18, .int), (cA20, .int), (cA22, .int)]) [0, 1, 2, 3, 4, 5, 6, 7, 8, 9, 10] rfl
  exact W.vret hx hb hr (fun t ht hW => ⟨⟨(), rfl, trivial, q1, q3, q5, q7, q9, q11, q13, q15, q17, q19, q21, cA2, cA4, cA6, cA8, cA10, cA12, cA14, cA16, cA18, cA20, cA22, by rw [ht]; exact hP9, va_K.moved hW.alike hK9, hD9⟩, hS.F ht⟩) hS.2.2 dX9_init_108
end
section
set_option maxHeartbeats 4000000 in
set_option maxRecDepth 100000 in
theorem c_isWord (l : Launch) (dC : Nat → ClassId) (dI : Nat → Nat → Nat) (p0 : Int32) (sz : Nat) : Met l yX8_isWord wsX8_isWord ({ frames := 0, cells := 0, slots := 0, locals := 0 } : Room) (va_Pc [.int p0] (fun U => U.heap.size = sz ∧ va_P (dC, dI) vwCl [] U.heap ∧ va_K (dC, dI) vwCl [] U ∧ va_D (fun _ => True) [])) (va_Qi (fun (r : Int32) (u : Unit) => (r = 1 ∧ 0 ≤ p0.toInt ∧ p0.toInt ≤ 65535) ∨ (r = 0 ∧ (p0.toInt < 0 ∨ 65535 < p0.toInt))) (fun (u : Unit) (t : State) => va_P (dC, dI) vwCl [] t.heap ∧ va_K (dC, dI) vwCl [] t ∧ va_D (va_A [] sz) []) (va_A [] sz)) 0 0 (va_A [] sz) := by
  refine Met.ofW (cc := cX8_isWord) (maxL := 1) (ret := (some .boolean)) (by decide) rfl ?_
  intro p e s m args below meth c s₁ B hml hv
  obtain ⟨rfl, hsz, hP, hK, hD0⟩ := hv
  have hx := B.exec
  have hb := B.bytes
  have hr := B.returns
  have hts := atoms_spec (ws := wsX8_isWord) B.pre
  have hown : s.vm.findClass RX8 = some m.cls := findClass_of_methodNamed B.named
  have hlocks := B.notSynchronized
  subst hsz
  have hD := hD0.self (sz := s.heap.size)
  generalize hAe : va_A [] s.heap.size = A at hD ⊢
  have hA : ∀ q : Nat, s.heap.size ≤ q → A q := fun q h => by rw [← hAe]; exact Or.inr h
  have hS0 : ∀ G : Heap, s.heap = G → va_S A s.heap G [] := fun G h => by subst h; exact va_S.rf
  generalize hHe : s.heap = H at hP ⊢
  have hS := hS0 H hHe
  have hP : va_P (dC, dI) vwCl [] H := hP
  have hD : va_D A [] := hD
  have hK : va_K (dC, dI) vwCl [] s := hK
  have hl := lv_entry ([.int p0]) (n := 1) (Nat.le_of_ble_eq_true rfl)
  rw [lg_entry_eq]
  generalize (lg_sl ([.int p0]) ++ List.replicate (1 - (lg_sl ([.int p0])).length) Slot.unset).toArray = ls at hl ⊢
  have hl : lv_has ls 1 [(0, .int p0)] := hl
  have kk0 : (0 : Int32).toInt = 0 := by decide
  have kk65535 : (65535 : Int32).toInt = 65535 := by decide
  refine lv_iload_n hx hb dX8_isWord_0 rfl (lv_at hl 0 rfl) ?_
  refine lv_if_lt (tgt := 14) hx hb dX8_isWord_1 (by decide) (fun c1 => ?_) (fun c1 => ?_)
  · have c1 := fz_lt.mp c1
    have kk0 : (0 : Int32).toInt = 0 := by decide
    refine lv_iconst (v := 0) hx hb dX8_isWord_14 (by decide) ?_
    have hP9 := hP.sub (ws' := []) [] rfl
    have hD9 := hD.sub (ws' := []) [] (by decide) rfl
    have hK9 := hK.sub (tys' := []) [] rfl
    exact W.zret (v := 0) hx hb hr (by decide) (fun t ht hW => ⟨⟨0, (), rfl, (by first | (exact Or.inl ⟨rfl, by omega, by omega⟩) | (exact Or.inl ⟨rfl, by omega⟩) | (exact Or.inr ⟨rfl, by omega⟩) | (exact Or.inr ⟨rfl, by omega, by omega⟩)), by rw [ht]; exact hP9, va_K.moved hW.alike hK9, hD9⟩, hS.F ht⟩) hS.2.2 dX8_isWord_15
  · have c1 := fz_nlt.mp c1
    have kk0 : (0 : Int32).toInt = 0 := by decide
    refine lv_iload_n hx hb dX8_isWord_4 rfl (lv_at hl 0 rfl) ?_
    refine lv_ldc (v := 65535) hx hb hown (hts (.constant RX8 124 (65535)) (by decide +kernel)) dX8_isWord_5 ?_
    refine lv_icmp_gt (tgt := 14) hx hb dX8_isWord_7 (by decide) (fun c2 => ?_) (fun c2 => ?_)
    · have c2 := fz_lt.mp c2
      have kk65535 : (65535 : Int32).toInt = 65535 := by decide
      refine lv_iconst (v := 0) hx hb dX8_isWord_14 (by decide) ?_
      have hP9 := hP.sub (ws' := []) [] rfl
      have hD9 := hD.sub (ws' := []) [] (by decide) rfl
      have hK9 := hK.sub (tys' := []) [] rfl
      exact W.zret (v := 0) hx hb hr (by decide) (fun t ht hW => ⟨⟨0, (), rfl, (by first | (exact Or.inl ⟨rfl, by omega, by omega⟩) | (exact Or.inl ⟨rfl, by omega⟩) | (exact Or.inr ⟨rfl, by omega⟩) | (exact Or.inr ⟨rfl, by omega, by omega⟩)), by rw [ht]; exact hP9, va_K.moved hW.alike hK9, hD9⟩, hS.F ht⟩) hS.2.2 dX8_isWord_15
    · have c2 := fz_nlt.mp c2
      have kk65535 : (65535 : Int32).toInt = 65535 := by decide
      refine lv_iconst (v := 1) hx hb dX8_isWord_10 (by decide) ?_
      refine lv_goto (tgt := 15) hx hb dX8_isWord_11 (by decide) ?_
      have hP9 := hP.sub (ws' := []) [] rfl
      have hD9 := hD.sub (ws' := []) [] (by decide) rfl
      have hK9 := hK.sub (tys' := []) [] rfl
      exact W.zret (v := 1) hx hb hr (by decide) (fun t ht hW => ⟨⟨1, (), rfl, (by first | (exact Or.inl ⟨rfl, by omega, by omega⟩) | (exact Or.inl ⟨rfl, by omega⟩) | (exact Or.inr ⟨rfl, by omega⟩) | (exact Or.inr ⟨rfl, by omega, by omega⟩)), by rw [ht]; exact hP9, va_K.moved hW.alike hK9, hD9⟩, hS.F ht⟩) hS.2.2 dX8_isWord_15
set_option maxHeartbeats 4000000 in
set_option maxRecDepth 100000 in
theorem c_isMemory (l : Launch) (dC : Nat → ClassId) (dI : Nat → Nat → Nat) (p0 : Int32) (sz : Nat) : Met l yX8_isMemory wsX8_isMemory ({ frames := 0, cells := 0, slots := 0, locals := 0 } : Room) (va_Pc [.int p0] (fun U => U.heap.size = sz ∧ va_P (dC, dI) vwCl [] U.heap ∧ va_K (dC, dI) vwCl [] U ∧ va_D (fun _ => True) [])) (va_Qi (fun (r : Int32) (u : Unit) => (r = 1 ∧ (0 ≤ p0.toInt ∧ p0.toInt < 1024 ∧ p0.toInt % 2 = 0)) ∨ (r = 0 ∧ (p0.toInt < 0 ∨ 1024 ≤ p0.toInt ∨ p0.toInt % 2 = 1))) (fun (u : Unit) (t : State) => va_P (dC, dI) vwCl [] t.heap ∧ va_K (dC, dI) vwCl [] t ∧ va_D (va_A [] sz) []) (va_A [] sz)) 0 0 (va_A [] sz) := by
  refine Met.ofW (cc := cX8_isMemory) (maxL := 1) (ret := (some .boolean)) (by decide) rfl ?_
  intro p e s m args below meth c s₁ B hml hv
  obtain ⟨rfl, hsz, hP, hK, hD0⟩ := hv
  have hx := B.exec
  have hb := B.bytes
  have hr := B.returns
  have hts := atoms_spec (ws := wsX8_isMemory) B.pre
  have hown : s.vm.findClass RX8 = some m.cls := findClass_of_methodNamed B.named
  have hlocks := B.notSynchronized
  subst hsz
  have hD := hD0.self (sz := s.heap.size)
  generalize hAe : va_A [] s.heap.size = A at hD ⊢
  have hA : ∀ q : Nat, s.heap.size ≤ q → A q := fun q h => by rw [← hAe]; exact Or.inr h
  have hS0 : ∀ G : Heap, s.heap = G → va_S A s.heap G [] := fun G h => by subst h; exact va_S.rf
  generalize hHe : s.heap = H at hP ⊢
  have hS := hS0 H hHe
  have hP : va_P (dC, dI) vwCl [] H := hP
  have hD : va_D A [] := hD
  have hK : va_K (dC, dI) vwCl [] s := hK
  have hl := lv_entry ([.int p0]) (n := 1) (Nat.le_of_ble_eq_true rfl)
  rw [lg_entry_eq]
  generalize (lg_sl ([.int p0]) ++ List.replicate (1 - (lg_sl ([.int p0])).length) Slot.unset).toArray = ls at hl ⊢
  have hl : lv_has ls 1 [(0, .int p0)] := hl
  have kk0 : (0 : Int32).toInt = 0 := by decide
  have kk1024 : (1024 : Int32).toInt = 1024 := by decide
  refine lv_iload_n hx hb dX8_isMemory_0 rfl (lv_at hl 0 rfl) ?_
  refine lv_if_lt (tgt := 21) hx hb dX8_isMemory_1 (by decide) (fun c1 => ?_) (fun c1 => ?_)
  · have c1 := fz_lt.mp c1
    have kk0 : (0 : Int32).toInt = 0 := by decide
    refine lv_iconst (v := 0) hx hb dX8_isMemory_21 (by decide) ?_
    have hP9 := hP.sub (ws' := []) [] rfl
    have hD9 := hD.sub (ws' := []) [] (by decide) rfl
    have hK9 := hK.sub (tys' := []) [] rfl
    exact W.zret (v := 0) hx hb hr (by decide) (fun t ht hW => ⟨⟨0, (), rfl, (by first | (exact Or.inl ⟨rfl, by omega, by omega⟩) | (exact Or.inl ⟨rfl, by omega⟩) | (exact Or.inr ⟨rfl, by omega⟩) | (exact Or.inr ⟨rfl, by omega, by omega⟩)), by rw [ht]; exact hP9, va_K.moved hW.alike hK9, hD9⟩, hS.F ht⟩) hS.2.2 dX8_isMemory_22
  · have c1 := fz_nlt.mp c1
    have kk0 : (0 : Int32).toInt = 0 := by decide
    refine lv_iload_n hx hb dX8_isMemory_4 rfl (lv_at hl 0 rfl) ?_
    refine lv_sipush (v := 1024) hx hb dX8_isMemory_5 (by decide) ?_
    refine lv_icmp_ge (tgt := 21) hx hb dX8_isMemory_8 (by decide) (fun c2 => ?_) (fun c2 => ?_)
    · have c2 := fz_le.mp c2
      have kk1024 : (1024 : Int32).toInt = 1024 := by decide
      refine lv_iconst (v := 0) hx hb dX8_isMemory_21 (by decide) ?_
      have hP9 := hP.sub (ws' := []) [] rfl
      have hD9 := hD.sub (ws' := []) [] (by decide) rfl
      have hK9 := hK.sub (tys' := []) [] rfl
      exact W.zret (v := 0) hx hb hr (by decide) (fun t ht hW => ⟨⟨0, (), rfl, (by first | (exact Or.inl ⟨rfl, by omega, by omega⟩) | (exact Or.inl ⟨rfl, by omega⟩) | (exact Or.inr ⟨rfl, by omega⟩) | (exact Or.inr ⟨rfl, by omega, by omega⟩)), by rw [ht]; exact hP9, va_K.moved hW.alike hK9, hD9⟩, hS.F ht⟩) hS.2.2 dX8_isMemory_22
    · have c2 := fz_nle.mp c2
      have kk1024 : (1024 : Int32).toInt = 1024 := by decide
      refine lv_iload_n hx hb dX8_isMemory_11 rfl (lv_at hl 0 rfl) ?_
      refine lv_iconst (v := 1) hx hb dX8_isMemory_12 (by decide) ?_
      refine lv_iand hx hb dX8_isMemory_13 ?_
      have f1 := fz_and1 p0
      refine lv_if_ne (tgt := 21) hx hb dX8_isMemory_14 (by decide) (fun c3 => ?_) (fun c3 => ?_)
      · have c3 := fz_ne.mp c3
        have kk0 : (0 : Int32).toInt = 0 := by decide
        refine lv_iconst (v := 0) hx hb dX8_isMemory_21 (by decide) ?_
        have hP9 := hP.sub (ws' := []) [] rfl
        have hD9 := hD.sub (ws' := []) [] (by decide) rfl
        have hK9 := hK.sub (tys' := []) [] rfl
        exact W.zret (v := 0) hx hb hr (by decide) (fun t ht hW => ⟨⟨0, (), rfl, (by first | (exact Or.inl ⟨rfl, by omega, by omega⟩) | (exact Or.inl ⟨rfl, by omega⟩) | (exact Or.inr ⟨rfl, by omega⟩) | (exact Or.inr ⟨rfl, by omega, by omega⟩)), by rw [ht]; exact hP9, va_K.moved hW.alike hK9, hD9⟩, hS.F ht⟩) hS.2.2 dX8_isMemory_22
      · have c3 := fz_eq.mp c3
        have kk0 : (0 : Int32).toInt = 0 := by decide
        refine lv_iconst (v := 1) hx hb dX8_isMemory_17 (by decide) ?_
        refine lv_goto (tgt := 22) hx hb dX8_isMemory_18 (by decide) ?_
        have hP9 := hP.sub (ws' := []) [] rfl
        have hD9 := hD.sub (ws' := []) [] (by decide) rfl
        have hK9 := hK.sub (tys' := []) [] rfl
        exact W.zret (v := 1) hx hb hr (by decide) (fun t ht hW => ⟨⟨1, (), rfl, (by first | (exact Or.inl ⟨rfl, by omega, by omega⟩) | (exact Or.inl ⟨rfl, by omega⟩) | (exact Or.inr ⟨rfl, by omega⟩) | (exact Or.inr ⟨rfl, by omega, by omega⟩)), by rw [ht]; exact hP9, va_K.moved hW.alike hK9, hD9⟩, hS.F ht⟩) hS.2.2 dX8_isMemory_22
set_option maxHeartbeats 4000000 in
set_option maxRecDepth 100000 in
theorem c_isDiskWord (l : Launch) (dC : Nat → ClassId) (dI : Nat → Nat → Nat) (p0 : Int32) (p1 : Int32) (sz : Nat) : Met l yX8_isDiskWord wsX8_isDiskWord ({ frames := 0, cells := 0, slots := 0, locals := 0 } : Room) (va_Pc [.int p0, .int p1] (fun U => U.heap.size = sz ∧ va_P (dC, dI) vwCl [] U.heap ∧ va_K (dC, dI) vwCl [] U ∧ va_D (fun _ => True) [])) (va_Qi (fun (r : Int32) (u : Unit) => (r = 1 ∧ (0 ≤ p0.toInt ∧ p0.toInt < 8 ∧ 0 ≤ p1.toInt ∧ p1.toInt < 16)) ∨ (r = 0 ∧ (p0.toInt < 0 ∨ 8 ≤ p0.toInt ∨ p1.toInt < 0 ∨ 16 ≤ p1.toInt))) (fun (u : Unit) (t : State) => va_P (dC, dI) vwCl [] t.heap ∧ va_K (dC, dI) vwCl [] t ∧ va_D (va_A [] sz) []) (va_A [] sz)) 0 0 (va_A [] sz) := by
  refine Met.ofW (cc := cX8_isDiskWord) (maxL := 2) (ret := (some .boolean)) (by decide) rfl ?_
  intro p e s m args below meth c s₁ B hml hv
  obtain ⟨rfl, hsz, hP, hK, hD0⟩ := hv
  have hx := B.exec
  have hb := B.bytes
  have hr := B.returns
  have hts := atoms_spec (ws := wsX8_isDiskWord) B.pre
  have hown : s.vm.findClass RX8 = some m.cls := findClass_of_methodNamed B.named
  have hlocks := B.notSynchronized
  subst hsz
  have hD := hD0.self (sz := s.heap.size)
  generalize hAe : va_A [] s.heap.size = A at hD ⊢
  have hA : ∀ q : Nat, s.heap.size ≤ q → A q := fun q h => by rw [← hAe]; exact Or.inr h
  have hS0 : ∀ G : Heap, s.heap = G → va_S A s.heap G [] := fun G h => by subst h; exact va_S.rf
  generalize hHe : s.heap = H at hP ⊢
  have hS := hS0 H hHe
  have hP : va_P (dC, dI) vwCl [] H := hP
  have hD : va_D A [] := hD
  have hK : va_K (dC, dI) vwCl [] s := hK
  have hl := lv_entry ([.int p0, .int p1]) (n := 2) (Nat.le_of_ble_eq_true rfl)
  rw [lg_entry_eq]
  generalize (lg_sl ([.int p0, .int p1]) ++ List.replicate (2 - (lg_sl ([.int p0, .int p1])).length) Slot.unset).toArray = ls at hl ⊢
  have hl : lv_has ls 2 [(0, .int p0), (1, .int p1)] := hl
  have kk0 : (0 : Int32).toInt = 0 := by decide
  have kk8 : (8 : Int32).toInt = 8 := by decide
  have kk16 : (16 : Int32).toInt = 16 := by decide
  refine lv_iload_n hx hb dX8_isDiskWord_0 rfl (lv_at hl 0 rfl) ?_
  refine lv_if_lt (tgt := 24) hx hb dX8_isDiskWord_1 (by decide) (fun c1 => ?_) (fun c1 => ?_)
  · have c1 := fz_lt.mp c1
    have kk0 : (0 : Int32).toInt = 0 := by decide
    refine lv_iconst (v := 0) hx hb dX8_isDiskWord_24 (by decide) ?_
    have hP9 := hP.sub (ws' := []) [] rfl
    have hD9 := hD.sub (ws' := []) [] (by decide) rfl
    have hK9 := hK.sub (tys' := []) [] rfl
    exact W.zret (v := 0) hx hb hr (by decide) (fun t ht hW => ⟨⟨0, (), rfl, (by first | (exact Or.inl ⟨rfl, by omega, by omega⟩) | (exact Or.inl ⟨rfl, by omega⟩) | (exact Or.inr ⟨rfl, by omega⟩) | (exact Or.inr ⟨rfl, by omega, by omega⟩)), by rw [ht]; exact hP9, va_K.moved hW.alike hK9, hD9⟩, hS.F ht⟩) hS.2.2 dX8_isDiskWord_25
  · have c1 := fz_nlt.mp c1
    have kk0 : (0 : Int32).toInt = 0 := by decide
    refine lv_iload_n hx hb dX8_isDiskWord_4 rfl (lv_at hl 0 rfl) ?_
    refine lv_bipush (v := 8) hx hb dX8_isDiskWord_5 (by decide) ?_
    refine lv_icmp_ge (tgt := 24) hx hb dX8_isDiskWord_7 (by decide) (fun c2 => ?_) (fun c2 => ?_)
    · have c2 := fz_le.mp c2
      have kk8 : (8 : Int32).toInt = 8 := by decide
      refine lv_iconst (v := 0) hx hb dX8_isDiskWord_24 (by decide) ?_
      have hP9 := hP.sub (ws' := []) [] rfl
      have hD9 := hD.sub (ws' := []) [] (by decide) rfl
      have hK9 := hK.sub (tys' := []) [] rfl
      exact W.zret (v := 0) hx hb hr (by decide) (fun t ht hW => ⟨⟨0, (), rfl, (by first | (exact Or.inl ⟨rfl, by omega, by omega⟩) | (exact Or.inl ⟨rfl, by omega⟩) | (exact Or.inr ⟨rfl, by omega⟩) | (exact Or.inr ⟨rfl, by omega, by omega⟩)), by rw [ht]; exact hP9, va_K.moved hW.alike hK9, hD9⟩, hS.F ht⟩) hS.2.2 dX8_isDiskWord_25
    · have c2 := fz_nle.mp c2
      have kk8 : (8 : Int32).toInt = 8 := by decide
      refine lv_iload_n hx hb dX8_isDiskWord_10 rfl (lv_at hl 1 rfl) ?_
      refine lv_if_lt (tgt := 24) hx hb dX8_isDiskWord_11 (by decide) (fun c3 => ?_) (fun c3 => ?_)
      · have c3 := fz_lt.mp c3
        have kk0 : (0 : Int32).toInt = 0 := by decide
        refine lv_iconst (v := 0) hx hb dX8_isDiskWord_24 (by decide) ?_
        have hP9 := hP.sub (ws' := []) [] rfl
        have hD9 := hD.sub (ws' := []) [] (by decide) rfl
        have hK9 := hK.sub (tys' := []) [] rfl
        exact W.zret (v := 0) hx hb hr (by decide) (fun t ht hW => ⟨⟨0, (), rfl, (by first | (exact Or.inl ⟨rfl, by omega, by omega⟩) | (exact Or.inl ⟨rfl, by omega⟩) | (exact Or.inr ⟨rfl, by omega⟩) | (exact Or.inr ⟨rfl, by omega, by omega⟩)), by rw [ht]; exact hP9, va_K.moved hW.alike hK9, hD9⟩, hS.F ht⟩) hS.2.2 dX8_isDiskWord_25
      · have c3 := fz_nlt.mp c3
        have kk0 : (0 : Int32).toInt = 0 := by decide
        refine lv_iload_n hx hb dX8_isDiskWord_14 rfl (lv_at hl 1 rfl) ?_
        refine lv_bipush (v := 16) hx hb dX8_isDiskWord_15 (by decide) ?_
        refine lv_icmp_ge (tgt := 24) hx hb dX8_isDiskWord_17 (by decide) (fun c4 => ?_) (fun c4 => ?_)
        · have c4 := fz_le.mp c4
          have kk16 : (16 : Int32).toInt = 16 := by decide
          refine lv_iconst (v := 0) hx hb dX8_isDiskWord_24 (by decide) ?_
          have hP9 := hP.sub (ws' := []) [] rfl
          have hD9 := hD.sub (ws' := []) [] (by decide) rfl
          have hK9 := hK.sub (tys' := []) [] rfl
          exact W.zret (v := 0) hx hb hr (by decide) (fun t ht hW => ⟨⟨0, (), rfl, (by first | (exact Or.inl ⟨rfl, by omega, by omega⟩) | (exact Or.inl ⟨rfl, by omega⟩) | (exact Or.inr ⟨rfl, by omega⟩) | (exact Or.inr ⟨rfl, by omega, by omega⟩)), by rw [ht]; exact hP9, va_K.moved hW.alike hK9, hD9⟩, hS.F ht⟩) hS.2.2 dX8_isDiskWord_25
        · have c4 := fz_nle.mp c4
          have kk16 : (16 : Int32).toInt = 16 := by decide
          refine lv_iconst (v := 1) hx hb dX8_isDiskWord_20 (by decide) ?_
          refine lv_goto (tgt := 25) hx hb dX8_isDiskWord_21 (by decide) ?_
          have hP9 := hP.sub (ws' := []) [] rfl
          have hD9 := hD.sub (ws' := []) [] (by decide) rfl
          have hK9 := hK.sub (tys' := []) [] rfl
          exact W.zret (v := 1) hx hb hr (by decide) (fun t ht hW => ⟨⟨1, (), rfl, (by first | (exact Or.inl ⟨rfl, by omega, by omega⟩) | (exact Or.inl ⟨rfl, by omega⟩) | (exact Or.inr ⟨rfl, by omega⟩) | (exact Or.inr ⟨rfl, by omega, by omega⟩)), by rw [ht]; exact hP9, va_K.moved hW.alike hK9, hD9⟩, hS.F ht⟩) hS.2.2 dX8_isDiskWord_25
set_option maxHeartbeats 4000000 in
set_option maxRecDepth 100000 in
theorem c_deposit (l : Launch) (dC : Nat → ClassId) (dI : Nat → Nat → Nat) (h0 : Nat) (oB : Nat) (oP : Nat) (am : Nat) (oM : Nat) (oS : Nat) (oK : Nat) (oL : Nat) (oD : Nat) (tm : ClassId) (f : Nat → Int32) (p0 : Int32) (p1 : Int32) (sz : Nat) (hlt : l.stackTraces = false) : vx_Met l yX8_deposit wsX8_deposit ({ frames := 6, cells := 1, slots := 6, locals := 81 } : Room) (va_Pc [.ref h0, .int p0, .int p1] (fun U => U.heap.size = sz ∧ va_P (dC, dI) vwCl [(h0, .inr (7, [.ref oB, .ref oP])), (oB, .inr (0, [.ref am, .ref oM, .ref oS, .ref oK, .ref oL, .ref oD])), (am, .inl (tm, 512, .inl f))] U.heap ∧ va_K (dC, dI) vwCl [(tm, .int)] U ∧ va_D (fun _ => True) [(h0, .inr (7, [.ref oB, .ref oP])), (oB, .inr (0, [.ref am, .ref oM, .ref oS, .ref oK, .ref oL, .ref oD])), (am, .inl (tm, 512, .inl f))] ∧ vx_Zq Bundle.tN "UNASSIGNED_STACK" Bundle.steD (va_A [(h0, .inr (7, [.ref oB, .ref oP])), (oB, .inr (0, [.ref am, .ref oM, .ref oS, .ref oK, .ref oL, .ref oD])), (am, .inl (tm, 512, .inl f))] sz) U U.heap ∧ vx_Zq Bundle.tN "SUPPRESSED_SENTINEL" Bundle.listD (va_A [(h0, .inr (7, [.ref oB, .ref oP])), (oB, .inr (0, [.ref am, .ref oM, .ref oS, .ref oK, .ref oL, .ref oD])), (am, .inl (tm, 512, .inl f))] sz) U U.heap ∧ va_Nw (.declares (Bundle.init0 "java/lang/RuntimeException")) U ∧ va_Nw (.declares (Bundle.init0 "java/lang/Exception")) U ∧ va_Nw (.declares (Bundle.init0 Bundle.tN)) U ∧ va_Nw (.castable "java/lang/IllegalArgumentException" "java/lang/IllegalArgumentException") U)) (va_Qv (fun (u : Unit) => (0 ≤ p0.toInt ∧ p0.toInt < 1024 ∧ p0.toInt % 2 = 0) ∧ (0 ≤ p1.toInt ∧ p1.toInt ≤ 65535)) (fun (u : Unit) (t : State) => va_P (dC, dI) vwCl [] t.heap ∧ va_K (dC, dI) vwCl [] t ∧ va_D (va_A [(h0, .inr (7, [.ref oB, .ref oP])), (oB, .inr (0, [.ref am, .ref oM, .ref oS, .ref oK, .ref oL, .ref oD])), (am, .inl (tm, 512, .inl f))] sz) []) (va_A [(h0, .inr (7, [.ref oB, .ref oP])), (oB, .inr (0, [.ref am, .ref oM, .ref oS, .ref oK, .ref oL, .ref oD])), (am, .inl (tm, 512, .inl f))] sz)) (vx_X (fun _ : Unit => True) (fun (E : String) (_ : Unit) (_ : State) => E = "java/lang/IllegalArgumentException" ∧ ¬ ((0 ≤ p0.toInt ∧ p0.toInt < 1024 ∧ p0.toInt % 2 = 0) ∧ (0 ≤ p1.toInt ∧ p1.toInt ≤ 65535))) (va_A [(h0, .inr (7, [.ref oB, .ref oP])), (oB, .inr (0, [.ref am, .ref oM, .ref oS, .ref oK, .ref oL, .ref oD])), (am, .inl (tm, 512, .inl f))] sz)) 1 6 (va_A [(h0, .inr (7, [.ref oB, .ref oP])), (oB, .inr (0, [.ref am, .ref oM, .ref oS, .ref oK, .ref oL, .ref oD])), (am, .inl (tm, 512, .inl f))] sz) := by
  refine vx_ofW (cc := cX8_deposit) (maxL := 3) (ret := none) (by decide) rfl ?_
  intro p e s m args below meth c s₁ B hml htab hv
  obtain ⟨rfl, hsz, hP, hK, hD0, hZU, hZN, hd1, hd2, hd3, hcI⟩ := hv
  have hx := B.exec
  have hb := B.bytes
  have hr := B.returns
  have hts := atoms_spec (ws := wsX8_deposit) B.pre
  have hown : s.vm.findClass RX8 = some m.cls := findClass_of_methodNamed B.named
  have hlocks := B.notSynchronized
  subst hsz
  have hD := hD0.self (sz := s.heap.size)
  generalize hAe : va_A [(h0, .inr (7, [.ref oB, .ref oP])), (oB, .inr (0, [.ref am, .ref oM, .ref oS, .ref oK, .ref oL, .ref oD])), (am, .inl (tm, 512, .inl f))] s.heap.size = A at hD hZU hZN ⊢
  have hA : ∀ q : Nat, s.heap.size ≤ q → A q := fun q h => by rw [← hAe]; exact Or.inr h
  have hS0 : ∀ G : Heap, s.heap = G → va_S A s.heap G [] := fun G h => by subst h; exact va_S.rf
  generalize hHe : s.heap = H at hP ⊢
  have hS := hS0 H hHe
  have hP : va_P (dC, dI) vwCl [(h0, .inr (7, [.ref oB, .ref oP])), (oB, .inr (0, [.ref am, .ref oM, .ref oS, .ref oK, .ref oL, .ref oD])), (am, .inl (tm, 512, .inl f))] H := hP
  have hD : va_D A [(h0, .inr (7, [.ref oB, .ref oP])), (oB, .inr (0, [.ref am, .ref oM, .ref oS, .ref oK, .ref oL, .ref oD])), (am, .inl (tm, 512, .inl f))] := hD
  have hK : va_K (dC, dI) vwCl [(tm, .int)] s := hK
  have hl := lv_entry ([.ref h0, .int p0, .int p1]) (n := 3) (Nat.le_of_ble_eq_true rfl)
  rw [lg_entry_eq]
  generalize (lg_sl ([.ref h0, .int p0, .int p1]) ++ List.replicate (3 - (lg_sl ([.ref h0, .int p0, .int p1])).length) Slot.unset).toArray = ls at hl ⊢
  have hl : lv_has ls 3 [(0, .ref h0), (1, .int p0), (2, .int p1)] := hl
  refine lv_iload_n hx hb dX8_deposit_0 rfl (lv_at hl 1 rfl) ?_
  have hPc := hP.sub (ws' := []) [] rfl
  have hDc := hD.sub (ws' := []) [] (by decide) rfl
  have hKc := hK.sub (tys' := []) [] rfl
  have hFc := va_free (wc := []) hD hS hA [] rfl
  refine va_calli (va_runS (As := [.int p0]) (rest := []) ⟨hx, hb, hml, hown, hts⟩ (c_isMemory l dC dI p0 H.size) (va_cwS 1 hts gX8_deposit_X8_isMemory rfl rfl rfl (by decide +kernel) ⟨Nat.le_of_ble_eq_true rfl, Nat.le_of_ble_eq_true rfl⟩) ⟨fun a U g mk q => by obtain ⟨q0, q1, qP, qK, qD⟩ := q; exact ⟨q0, q1, qP, va_K.moved (u := U) (U := U.calling g mk a) (Vm.Alike.refl U.vm) qK, qD⟩, fun U hU hW => ⟨rfl, by rw [hU], by rw [hU]; exact hPc, va_K.moved hW.alike hKc, hDc.weaken (fun _ _ _ _ => trivial)⟩⟩ rfl rfl hl.1 rfl (lv_room (Nat.le_of_ble_eq_true rfl)) dX8_deposit_1 ⟨Nat.le_of_ble_eq_true rfl, Nat.le_of_ble_eq_true rfl⟩) hS (fun q _ h => hFc q h) hFc (fun r1 u2 t H1 locs ht hvm hw hB hz1 hk1 hS => ?_)
  obtain ⟨hP1, hK1, hD1⟩ := hB
  rw [ht] at hP1
  have hK1 := va_K.moved hvm.symm hK1
  try dsimp only at hw
  obtain ⟨hP, hD⟩ := va_join (wr := [(h0, .inr (7, [.ref oB, .ref oP])), (oB, .inr (0, [.ref am, .ref oM, .ref oS, .ref oK, .ref oL, .ref oD])), (am, .inl (tm, 512, .inl f))]) (w1 := []) hP hD [] [0, 1, 2] rfl rfl (by decide) (by decide) hk1 hFc hP1 hD1
  have hK := (hK.sub (tys' := [(tm, .int)]) [0] rfl).app hK1
  generalize H1 = H at hP hS ⊢
  have hP : va_P (dC, dI) vwCl [(h0, .inr (7, [.ref oB, .ref oP])), (oB, .inr (0, [.ref am, .ref oM, .ref oS, .ref oK, .ref oL, .ref oD])), (am, .inl (tm, 512, .inl f))] H := hP
  have hD : va_D A [(h0, .inr (7, [.ref oB, .ref oP])), (oB, .inr (0, [.ref am, .ref oM, .ref oS, .ref oK, .ref oL, .ref oD])), (am, .inl (tm, 512, .inl f))] := hD
  have hK : va_K (dC, dI) vwCl [(tm, .int)] s := hK
  rcases hw with ⟨rfl, _, _, _⟩ | ⟨rfl, _⟩
  · skip
    refine lv_if_eq (tgt := 14) hx hb dX8_deposit_4 (by decide) (fun c3 => ?_) (fun c3 => ?_)
    · exact absurd c3 (by decide)
    · skip
      refine lv_iload_n hx hb dX8_deposit_7 rfl (lv_at hl 2 rfl) ?_
      have hPc := hP.sub (ws' := []) [] rfl
      have hDc := hD.sub (ws' := []) [] (by decide) rfl
      have hKc := hK.sub (tys' := []) [] rfl
      have hFc := va_free (wc := []) hD hS hA [] rfl
      refine va_calli (va_runS (As := [.int p1]) (rest := []) ⟨hx, hb, hml, hown, hts⟩ (c_isWord l dC dI p1 H.size) (va_cwS 1 hts gX8_deposit_X8_isWord rfl rfl rfl (by decide +kernel) ⟨Nat.le_of_ble_eq_true rfl, Nat.le_of_ble_eq_true rfl⟩) ⟨fun a U g mk q => by obtain ⟨q0, q1, qP, qK, qD⟩ := q; exact ⟨q0, q1, qP, va_K.moved (u := U) (U := U.calling g mk a) (Vm.Alike.refl U.vm) qK, qD⟩, fun U hU hW => ⟨rfl, by rw [hU], by rw [hU]; exact hPc, va_K.moved hW.alike hKc, hDc.weaken (fun _ _ _ _ => trivial)⟩⟩ rfl rfl hl.1 rfl (lv_room (Nat.le_of_ble_eq_true rfl)) dX8_deposit_8 ⟨Nat.le_of_ble_eq_true rfl, Nat.le_of_ble_eq_true rfl⟩) hS (fun q _ h => hFc q h) hFc (fun r4 u5 t H1 locs ht hvm hw hB hz1 hk1 hS => ?_)
      obtain ⟨hP1, hK1, hD1⟩ := hB
      rw [ht] at hP1
      have hK1 := va_K.moved hvm.symm hK1
      try dsimp only at hw
      obtain ⟨hP, hD⟩ := va_join (wr := [(h0, .inr (7, [.ref oB, .ref oP])), (oB, .inr (0, [.ref am, .ref oM, .ref oS, .ref oK, .ref oL, .ref oD])), (am, .inl (tm, 512, .inl f))]) (w1 := []) hP hD [] [0, 1, 2] rfl rfl (by decide) (by decide) hk1 hFc hP1 hD1
      have hK := (hK.sub (tys' := [(tm, .int)]) [0] rfl).app hK1
      generalize H1 = H at hP hS ⊢
      have hP : va_P (dC, dI) vwCl [(h0, .inr (7, [.ref oB, .ref oP])), (oB, .inr (0, [.ref am, .ref oM, .ref oS, .ref oK, .ref oL, .ref oD])), (am, .inl (tm, 512, .inl f))] H := hP
      have hD : va_D A [(h0, .inr (7, [.ref oB, .ref oP])), (oB, .inr (0, [.ref am, .ref oM, .ref oS, .ref oK, .ref oL, .ref oD])), (am, .inl (tm, 512, .inl f))] := hD
      have hK : va_K (dC, dI) vwCl [(tm, .int)] s := hK
      rcases hw with ⟨rfl, _, _⟩ | ⟨rfl, _⟩
      · skip
        refine lv_if_ne (tgt := 22) hx hb dX8_deposit_11 (by decide) (fun c6 => ?_) (fun c6 => ?_)
        · skip
          refine lv_aload_n hx hb dX8_deposit_22 rfl (lv_at hl 0 rfl) ?_
          refine va_get (D := (dC, dI)) (ci := 7) (v := .ref oB) (C := RX8) (T := TX8) (N := 2) hx hb hts (by decide +kernel) hown hK hP 0 rfl rfl 0 (by decide) (hts (.fieldLink RX8 10 "UnibusMachine" "bus" "LUnibusMachine$Bus;") (by decide +kernel)) (fun _ h9 => h9) rfl dX8_deposit_23 ?_
          refine va_get (D := (dC, dI)) (ci := 0) (v := .ref am) (C := RX0) (T := TX0) (N := 6) hx hb hts (by decide +kernel) hown hK hP 1 rfl rfl 0 (by decide) (hts (.fieldLink RX8 35 "UnibusMachine$Bus" "memory" "[I") (by decide +kernel)) (fun _ h9 => h9) rfl dX8_deposit_26 ?_
          refine lv_iload_n hx hb dX8_deposit_29 rfl (lv_at hl 1 rfl) ?_
          refine lv_iconst (v := 1) hx hb dX8_deposit_30 (by decide) ?_
          refine lv_ishr hx hb dX8_deposit_31 ?_
          have f1 := fz_shr1 p0 (by omega)
          refine lv_iload_n hx hb dX8_deposit_32 rfl (lv_at hl 2 rfl) ?_
          refine va_iast (D := (dC, dI)) hx hb hK hP hD hS 2 0 rfl rfl (vp_in_iff.mpr (by constructor <;> omega)) dX8_deposit_33 (fun H locs hP hD hS => ?_)
          have hP : va_P (dC, dI) vwCl [(h0, .inr (7, [.ref oB, .ref oP])), (oB, .inr (0, [.ref am, .ref oM, .ref oS, .ref oK, .ref oL, .ref oD])), (am, .inl (tm, 512, .inl (upd f (p0 >>> (1 &&& 31) : Int32).toNatClampNeg p1)))] H := hP
          have hD : va_D A [(h0, .inr (7, [.ref oB, .ref oP])), (oB, .inr (0, [.ref am, .ref oM, .ref oS, .ref oK, .ref oL, .ref oD])), (am, .inl (tm, 512, .inl (upd f (p0 >>> (1 &&& 31) : Int32).toNatClampNeg p1)))] := hD
          have hP9 := hP.sub (ws' := []) [] rfl
          have hD9 := hD.sub (ws' := []) [] (by decide) rfl
          have hK9 := hK.sub (tys' := []) [] rfl
          refine vx_ret ?_
          refine W.widen (k := 1) (n := 6) (Nat.le_of_ble_eq_true rfl) (Nat.le_of_ble_eq_true rfl) ?_
          exact W.vret hx hb hr (fun t ht hW => ⟨⟨(), rfl, (by omega), by rw [ht]; exact hP9, va_K.moved hW.alike hK9, hD9⟩, hS.F ht⟩) hS.2.2 dX8_deposit_34
        · exact absurd c6 (by decide)
      · skip
        refine lv_if_ne (tgt := 22) hx hb dX8_deposit_11 (by decide) (fun c7 => ?_) (fun c7 => ?_)
        · exact absurd c7 (by decide)
        · skip
          have hpx9 : "java/lang/IllegalArgumentException" = "java/lang/IllegalArgumentException" ∧ ¬ ((0 ≤ p0.toInt ∧ p0.toInt < 1024 ∧ p0.toInt % 2 = 0) ∧ (0 ≤ p1.toInt ∧ p1.toInt ≤ 65535)) := by exact ⟨rfl, by omega⟩
          exact vx_throw0 (names := ["java/lang/RuntimeException", "java/lang/Exception"]) (cls := "java/lang/IllegalArgumentException") (ik := 32) (ic := 34) (A := A) hx hb hlt hown (by decide) (by decide) (hts (.classLink RX8 32 "java/lang/IllegalArgumentException") (by decide +kernel)) (hts (.initialized "java/lang/IllegalArgumentException") (by decide +kernel)) (vx_hat (fun w h => hts w (List.mem_cons_of_mem _ (List.mem_append_right _ h))) (by decide +kernel) (vx_c (va_Nw.use rfl hcI) (vx_c (va_Nw.use rfl hd1) (vx_c (va_Nw.use rfl hd2) (vx_c (va_Nw.use rfl hd3) vx_n))))) (by decide +kernel) hZU hZN hS (by rw [hml]; exact hl.1) dX8_deposit_14 dX8_deposit_17 dX8_deposit_18 dX8_deposit_21 (fun x h => (htab x h).elim) (Nat.le_of_ble_eq_true rfl) (Nat.le_of_ble_eq_true rfl) (Nat.le_of_ble_eq_true rfl) (Nat.le_of_ble_eq_true rfl) hlocks (fun t hal hz hk => ⟨(), trivial, hpx9, Nat.le_trans hS.1 hz, fun q h1 h2 => (hk q (Nat.lt_of_lt_of_le h1 hS.1)).trans (hS.2.1 q h1 h2)⟩) hS.2.2 (Nat.le_of_ble_eq_true rfl) (Nat.le_of_ble_eq_true rfl)
  · skip
    refine lv_if_eq (tgt := 14) hx hb dX8_deposit_4 (by decide) (fun c8 => ?_) (fun c8 => ?_)
    · skip
      have hpx9 : "java/lang/IllegalArgumentException" = "java/lang/IllegalArgumentException" ∧ ¬ ((0 ≤ p0.toInt ∧ p0.toInt < 1024 ∧ p0.toInt % 2 = 0) ∧ (0 ≤ p1.toInt ∧ p1.toInt ≤ 65535)) := by exact ⟨rfl, by omega⟩
      exact vx_throw0 (names := ["java/lang/RuntimeException", "java/lang/Exception"]) (cls := "java/lang/IllegalArgumentException") (ik := 32) (ic := 34) (A := A) hx hb hlt hown (by decide) (by decide) (hts (.classLink RX8 32 "java/lang/IllegalArgumentException") (by decide +kernel)) (hts (.initialized "java/lang/IllegalArgumentException") (by decide +kernel)) (vx_hat (fun w h => hts w (List.mem_cons_of_mem _ (List.mem_append_right _ h))) (by decide +kernel) (vx_c (va_Nw.use rfl hcI) (vx_c (va_Nw.use rfl hd1) (vx_c (va_Nw.use rfl hd2) (vx_c (va_Nw.use rfl hd3) vx_n))))) (by decide +kernel) hZU hZN hS (by rw [hml]; exact hl.1) dX8_deposit_14 dX8_deposit_17 dX8_deposit_18 dX8_deposit_21 (fun x h => (htab x h).elim) (Nat.le_of_ble_eq_true rfl) (Nat.le_of_ble_eq_true rfl) (Nat.le_of_ble_eq_true rfl) (Nat.le_of_ble_eq_true rfl) hlocks (fun t hal hz hk => ⟨(), trivial, hpx9, Nat.le_trans hS.1 hz, fun q h1 h2 => (hk q (Nat.lt_of_lt_of_le h1 hS.1)).trans (hS.2.1 q h1 h2)⟩) hS.2.2 (Nat.le_of_ble_eq_true rfl) (Nat.le_of_ble_eq_true rfl)
    · exact absurd c8 (by decide)
set_option maxHeartbeats 4000000 in
set_option maxRecDepth 100000 in
theorem c_examine (l : Launch) (dC : Nat → ClassId) (dI : Nat → Nat → Nat) (h0 : Nat) (oB : Nat) (oP : Nat) (am : Nat) (oM : Nat) (oS : Nat) (oK : Nat) (oL : Nat) (oD : Nat) (tm : ClassId) (p0 : Int32) (sz : Nat) (hlt : l.stackTraces = false) : vx_Met l yX8_examine wsX8_examine ({ frames := 6, cells := 1, slots := 6, locals := 81 } : Room) (va_Pc [.ref h0, .int p0] (fun U => U.heap.size = sz ∧ va_P (dC, dI) vwCl [(h0, .inr (7, [.ref oB, .ref oP])), (oB, .inr (0, [.ref am, .ref oM, .ref oS, .ref oK, .ref oL, .ref oD])), (am, .inl (tm, 512, .inl (fun _ => 0)))] U.heap ∧ va_K (dC, dI) vwCl [(tm, .int)] U ∧ va_D (fun _ => True) [(h0, .inr (7, [.ref oB, .ref oP])), (oB, .inr (0, [.ref am, .ref oM, .ref oS, .ref oK, .ref oL, .ref oD])), (am, .inl (tm, 512, .inl (fun _ => 0)))] ∧ vx_Zq Bundle.tN "UNASSIGNED_STACK" Bundle.steD (va_A [(h0, .inr (7, [.ref oB, .ref oP])), (oB, .inr (0, [.ref am, .ref oM, .ref oS, .ref oK, .ref oL, .ref oD])), (am, .inl (tm, 512, .inl (fun _ => 0)))] sz) U U.heap ∧ vx_Zq Bundle.tN "SUPPRESSED_SENTINEL" Bundle.listD (va_A [(h0, .inr (7, [.ref oB, .ref oP])), (oB, .inr (0, [.ref am, .ref oM, .ref oS, .ref oK, .ref oL, .ref oD])), (am, .inl (tm, 512, .inl (fun _ => 0)))] sz) U U.heap ∧ va_Nw (.declares (Bundle.init0 "java/lang/RuntimeException")) U ∧ va_Nw (.declares (Bundle.init0 "java/lang/Exception")) U ∧ va_Nw (.declares (Bundle.init0 Bundle.tN)) U ∧ va_Nw (.castable "java/lang/IllegalArgumentException" "java/lang/IllegalArgumentException") U)) (va_Qi (fun (r : Int32) (u : Unit) => r = 0 ∧ (0 ≤ p0.toInt ∧ p0.toInt < 1024 ∧ p0.toInt % 2 = 0)) (fun (u : Unit) (t : State) => va_P (dC, dI) vwCl [] t.heap ∧ va_K (dC, dI) vwCl [] t ∧ va_D (va_A [(h0, .inr (7, [.ref oB, .ref oP])), (oB, .inr (0, [.ref am, .ref oM, .ref oS, .ref oK, .ref oL, .ref oD])), (am, .inl (tm, 512, .inl (fun _ => 0)))] sz) []) (va_A [(h0, .inr (7, [.ref oB, .ref oP])), (oB, .inr (0, [.ref am, .ref oM, .ref oS, .ref oK, .ref oL, .ref oD])), (am, .inl (tm, 512, .inl (fun _ => 0)))] sz)) (vx_X (fun _ : Unit => True) (fun (E : String) (_ : Unit) (_ : State) => E = "java/lang/IllegalArgumentException" ∧ ¬ (0 ≤ p0.toInt ∧ p0.toInt < 1024 ∧ p0.toInt % 2 = 0)) (va_A [(h0, .inr (7, [.ref oB, .ref oP])), (oB, .inr (0, [.ref am, .ref oM, .ref oS, .ref oK, .ref oL, .ref oD])), (am, .inl (tm, 512, .inl (fun _ => 0)))] sz)) 1 6 (va_A [(h0, .inr (7, [.ref oB, .ref oP])), (oB, .inr (0, [.ref am, .ref oM, .ref oS, .ref oK, .ref oL, .ref oD])), (am, .inl (tm, 512, .inl (fun _ => 0)))] sz) := by
  refine vx_ofW (cc := cX8_examine) (maxL := 2) (ret := (some .int)) (by decide) rfl ?_
  intro p e s m args below meth c s₁ B hml htab hv
  obtain ⟨rfl, hsz, hP, hK, hD0, hZU, hZN, hd1, hd2, hd3, hcI⟩ := hv
  have hx := B.exec
  have hb := B.bytes
  have hr := B.returns
  have hts := atoms_spec (ws := wsX8_examine) B.pre
  have hown : s.vm.findClass RX8 = some m.cls := findClass_of_methodNamed B.named
  have hlocks := B.notSynchronized
  subst hsz
  have hD := hD0.self (sz := s.heap.size)
  generalize hAe : va_A [(h0, .inr (7, [.ref oB, .ref oP])), (oB, .inr (0, [.ref am, .ref oM, .ref oS, .ref oK, .ref oL, .ref oD])), (am, .inl (tm, 512, .inl (fun _ => 0)))] s.heap.size = A at hD hZU hZN ⊢
  have hA : ∀ q : Nat, s.heap.size ≤ q → A q := fun q h => by rw [← hAe]; exact Or.inr h
  have hS0 : ∀ G : Heap, s.heap = G → va_S A s.heap G [] := fun G h => by subst h; exact va_S.rf
  generalize hHe : s.heap = H at hP ⊢
  have hS := hS0 H hHe
  have hP : va_P (dC, dI) vwCl [(h0, .inr (7, [.ref oB, .ref oP])), (oB, .inr (0, [.ref am, .ref oM, .ref oS, .ref oK, .ref oL, .ref oD])), (am, .inl (tm, 512, .inl (fun _ => 0)))] H := hP
  have hD : va_D A [(h0, .inr (7, [.ref oB, .ref oP])), (oB, .inr (0, [.ref am, .ref oM, .ref oS, .ref oK, .ref oL, .ref oD])), (am, .inl (tm, 512, .inl (fun _ => 0)))] := hD
  have hK : va_K (dC, dI) vwCl [(tm, .int)] s := hK
  have hl := lv_entry ([.ref h0, .int p0]) (n := 2) (Nat.le_of_ble_eq_true rfl)
  rw [lg_entry_eq]
  generalize (lg_sl ([.ref h0, .int p0]) ++ List.replicate (2 - (lg_sl ([.ref h0, .int p0])).length) Slot.unset).toArray = ls at hl ⊢
  have hl : lv_has ls 2 [(0, .ref h0), (1, .int p0)] := hl
  refine lv_iload_n hx hb dX8_examine_0 rfl (lv_at hl 1 rfl) ?_
  have hPc := hP.sub (ws' := []) [] rfl
  have hDc := hD.sub (ws' := []) [] (by decide) rfl
  have hKc := hK.sub (tys' := []) [] rfl
  have hFc := va_free (wc := []) hD hS hA [] rfl
  refine va_calli (va_runS (As := [.int p0]) (rest := []) ⟨hx, hb, hml, hown, hts⟩ (c_isMemory l dC dI p0 H.size) (va_cwS 1 hts gX8_examine_X8_isMemory rfl rfl rfl (by decide +kernel) ⟨Nat.le_of_ble_eq_true rfl, Nat.le_of_ble_eq_true rfl⟩) ⟨fun a U g mk q => by obtain ⟨q0, q1, qP, qK, qD⟩ := q; exact ⟨q0, q1, qP, va_K.moved (u := U) (U := U.calling g mk a) (Vm.Alike.refl U.vm) qK, qD⟩, fun U hU hW => ⟨rfl, by rw [hU], by rw [hU]; exact hPc, va_K.moved hW.alike hKc, hDc.weaken (fun _ _ _ _ => trivial)⟩⟩ rfl rfl hl.1 rfl (lv_room (Nat.le_of_ble_eq_true rfl)) dX8_examine_1 ⟨Nat.le_of_ble_eq_true rfl, Nat.le_of_ble_eq_true rfl⟩) hS (fun q _ h => hFc q h) hFc (fun r1 u2 t H1 locs ht hvm hw hB hz1 hk1 hS => ?_)
  obtain ⟨hP1, hK1, hD1⟩ := hB
  rw [ht] at hP1
  have hK1 := va_K.moved hvm.symm hK1
  try dsimp only at hw
  obtain ⟨hP, hD⟩ := va_join (wr := [(h0, .inr (7, [.ref oB, .ref oP])), (oB, .inr (0, [.ref am, .ref oM, .ref oS, .ref oK, .ref oL, .ref oD])), (am, .inl (tm, 512, .inl (fun _ => 0)))]) (w1 := []) hP hD [] [0, 1, 2] rfl rfl (by decide) (by decide) hk1 hFc hP1 hD1
  have hK := (hK.sub (tys' := [(tm, .int)]) [0] rfl).app hK1
  generalize H1 = H at hP hS ⊢
  have hP : va_P (dC, dI) vwCl [(h0, .inr (7, [.ref oB, .ref oP])), (oB, .inr (0, [.ref am, .ref oM, .ref oS, .ref oK, .ref oL, .ref oD])), (am, .inl (tm, 512, .inl (fun _ => 0)))] H := hP
  have hD : va_D A [(h0, .inr (7, [.ref oB, .ref oP])), (oB, .inr (0, [.ref am, .ref oM, .ref oS, .ref oK, .ref oL, .ref oD])), (am, .inl (tm, 512, .inl (fun _ => 0)))] := hD
  have hK : va_K (dC, dI) vwCl [(tm, .int)] s := hK
  rcases hw with ⟨rfl, _, _, _⟩ | ⟨rfl, _⟩
  · skip
    refine lv_if_ne (tgt := 15) hx hb dX8_examine_4 (by decide) (fun c3 => ?_) (fun c3 => ?_)
    · skip
      refine lv_aload_n hx hb dX8_examine_15 rfl (lv_at hl 0 rfl) ?_
      refine va_get (D := (dC, dI)) (ci := 7) (v := .ref oB) (C := RX8) (T := TX8) (N := 2) hx hb hts (by decide +kernel) hown hK hP 0 rfl rfl 0 (by decide) (hts (.fieldLink RX8 10 "UnibusMachine" "bus" "LUnibusMachine$Bus;") (by decide +kernel)) (fun _ h9 => h9) rfl dX8_examine_16 ?_
      refine va_get (D := (dC, dI)) (ci := 0) (v := .ref am) (C := RX0) (T := TX0) (N := 6) hx hb hts (by decide +kernel) hown hK hP 1 rfl rfl 0 (by decide) (hts (.fieldLink RX8 35 "UnibusMachine$Bus" "memory" "[I") (by decide +kernel)) (fun _ h9 => h9) rfl dX8_examine_19 ?_
      refine lv_iload_n hx hb dX8_examine_22 rfl (lv_at hl 1 rfl) ?_
      refine lv_iconst (v := 1) hx hb dX8_examine_23 (by decide) ?_
      refine lv_ishr hx hb dX8_examine_24 ?_
      have f1 := fz_shr1 p0 (by omega)
      refine va_iald (D := (dC, dI)) hx hb hK hP 2 0 rfl rfl (vp_in_iff.mpr (by constructor <;> omega)) dX8_examine_25 ?_
      have hP9 := hP.sub (ws' := []) [] rfl
      have hD9 := hD.sub (ws' := []) [] (by decide) rfl
      have hK9 := hK.sub (tys' := []) [] rfl
      refine vx_ret ?_
      refine W.widen (k := 1) (n := 6) (Nat.le_of_ble_eq_true rfl) (Nat.le_of_ble_eq_true rfl) ?_
      exact W.iret (v := 0) hx hb hr (fun t ht hW => ⟨⟨0, (), rfl, ⟨rfl, by omega⟩, by rw [ht]; exact hP9, va_K.moved hW.alike hK9, hD9⟩, hS.F ht⟩) hS.2.2 dX8_examine_26
    · exact absurd c3 (by decide)
  · skip
    refine lv_if_ne (tgt := 15) hx hb dX8_examine_4 (by decide) (fun c4 => ?_) (fun c4 => ?_)
    · exact absurd c4 (by decide)
    · skip
      have hpx9 : "java/lang/IllegalArgumentException" = "java/lang/IllegalArgumentException" ∧ ¬ (0 ≤ p0.toInt ∧ p0.toInt < 1024 ∧ p0.toInt % 2 = 0) := by exact ⟨rfl, by omega⟩
      exact vx_throw0 (names := ["java/lang/RuntimeException", "java/lang/Exception"]) (cls := "java/lang/IllegalArgumentException") (ik := 32) (ic := 34) (A := A) hx hb hlt hown (by decide) (by decide) (hts (.classLink RX8 32 "java/lang/IllegalArgumentException") (by decide +kernel)) (hts (.initialized "java/lang/IllegalArgumentException") (by decide +kernel)) (vx_hat (fun w h => hts w (List.mem_cons_of_mem _ (List.mem_append_right _ h))) (by decide +kernel) (vx_c (va_Nw.use rfl hcI) (vx_c (va_Nw.use rfl hd1) (vx_c (va_Nw.use rfl hd2) (vx_c (va_Nw.use rfl hd3) vx_n))))) (by decide +kernel) hZU hZN hS (by rw [hml]; exact hl.1) dX8_examine_7 dX8_examine_10 dX8_examine_11 dX8_examine_14 (fun x h => (htab x h).elim) (Nat.le_of_ble_eq_true rfl) (Nat.le_of_ble_eq_true rfl) (Nat.le_of_ble_eq_true rfl) (Nat.le_of_ble_eq_true rfl) hlocks (fun t hal hz hk => ⟨(), trivial, hpx9, Nat.le_trans hS.1 hz, fun q h1 h2 => (hk q (Nat.lt_of_lt_of_le h1 hS.1)).trans (hS.2.1 q h1 h2)⟩) hS.2.2 (Nat.le_of_ble_eq_true rfl) (Nat.le_of_ble_eq_true rfl)
set_option maxHeartbeats 4000000 in
set_option maxRecDepth 100000 in
theorem c_mode (l : Launch) (dC : Nat → ClassId) (dI : Nat → Nat → Nat) (h0 : Nat) (ar : Nat) (oB : Nat) (oS : Nat) (sz : Nat) : Met l yX6_mode wsX6_mode ({ frames := 0, cells := 0, slots := 0, locals := 0 } : Room) (va_Pc [.ref h0] (fun U => U.heap.size = sz ∧ va_P (dC, dI) vwCl [(h0, .inr (5, [.ref ar, .ref oB, .ref oS, .int 0, .int 2, .int 0, .int 0, .int 0, .int 0])), (oS, .inr (6, [.int 0, .int (-1)]))] U.heap ∧ va_K (dC, dI) vwCl [] U ∧ va_D (fun _ => True) [(h0, .inr (5, [.ref ar, .ref oB, .ref oS, .int 0, .int 2, .int 0, .int 0, .int 0, .int 0])), (oS, .inr (6, [.int 0, .int (-1)]))])) (va_Qi (fun (r : Int32) (u : Unit) => r = 0) (fun (u : Unit) (t : State) => va_P (dC, dI) vwCl [(h0, .inr (5, [.ref ar, .ref oB, .ref oS, .int 0, .int 2, .int 0, .int 0, .int 0, .int 0])), (oS, .inr (6, [.int 0, .int (-1)]))] t.heap ∧ va_K (dC, dI) vwCl [] t ∧ va_D (va_A [(h0, .inr (5, [.ref ar, .ref oB, .ref oS, .int 0, .int 2, .int 0, .int 0, .int 0, .int 0])), (oS, .inr (6, [.int 0, .int (-1)]))] sz) [(h0, .inr (5, [.ref ar, .ref oB, .ref oS, .int 0, .int 2, .int 0, .int 0, .int 0, .int 0])), (oS, .inr (6, [.int 0, .int (-1)]))]) (va_A [(h0, .inr (5, [.ref ar, .ref oB, .ref oS, .int 0, .int 2, .int 0, .int 0, .int 0, .int 0])), (oS, .inr (6, [.int 0, .int (-1)]))] sz)) 0 0 (va_A [(h0, .inr (5, [.ref ar, .ref oB, .ref oS, .int 0, .int 2, .int 0, .int 0, .int 0, .int 0])), (oS, .inr (6, [.int 0, .int (-1)]))] sz) := by
  refine Met.ofW (cc := cX6_mode) (maxL := 1) (ret := (some .int)) (by decide) rfl ?_
  intro p e s m args below meth c s₁ B hml hv
  obtain ⟨rfl, hsz, hP, hK, hD0⟩ := hv
  have hx := B.exec
  have hb := B.bytes
  have hr := B.returns
  have hts := atoms_spec (ws := wsX6_mode) B.pre
  have hown : s.vm.findClass RX6 = some m.cls := findClass_of_methodNamed B.named
  have hlocks := B.notSynchronized
  subst hsz
  have hD := hD0.self (sz := s.heap.size)
  generalize hAe : va_A [(h0, .inr (5, [.ref ar, .ref oB, .ref oS, .int 0, .int 2, .int 0, .int 0, .int 0, .int 0])), (oS, .inr (6, [.int 0, .int (-1)]))] s.heap.size = A at hD ⊢
  have hA : ∀ q : Nat, s.heap.size ≤ q → A q := fun q h => by rw [← hAe]; exact Or.inr h
  have hS0 : ∀ G : Heap, s.heap = G → va_S A s.heap G [] := fun G h => by subst h; exact va_S.rf
  generalize hHe : s.heap = H at hP ⊢
  have hS := hS0 H hHe
  have hP : va_P (dC, dI) vwCl [(h0, .inr (5, [.ref ar, .ref oB, .ref oS, .int 0, .int 2, .int 0, .int 0, .int 0, .int 0])), (oS, .inr (6, [.int 0, .int (-1)]))] H := hP
  have hD : va_D A [(h0, .inr (5, [.ref ar, .ref oB, .ref oS, .int 0, .int 2, .int 0, .int 0, .int 0, .int 0])), (oS, .inr (6, [.int 0, .int (-1)]))] := hD
  have hK : va_K (dC, dI) vwCl [] s := hK
  have hl := lv_entry ([.ref h0]) (n := 1) (Nat.le_of_ble_eq_true rfl)
  rw [lg_entry_eq]
  generalize (lg_sl ([.ref h0]) ++ List.replicate (1 - (lg_sl ([.ref h0])).length) Slot.unset).toArray = ls at hl ⊢
  have hl : lv_has ls 1 [(0, .ref h0)] := hl
  refine lv_aload_n hx hb dX6_mode_0 rfl (lv_at hl 0 rfl) ?_
  refine va_get (D := (dC, dI)) (ci := 5) (v := .ref oS) (C := RX6) (T := TX6) (N := 9) hx hb hts (by decide +kernel) hown hK hP 0 rfl rfl 2 (by decide) (hts (.fieldLink RX6 43 "UnibusMachine$Processor" "status" "LUnibusMachine$Status;") (by decide +kernel)) (fun _ h9 => h9) rfl dX6_mode_1 ?_
  refine va_get (D := (dC, dI)) (ci := 6) (v := .int 0) (C := RX7) (T := TX7) (N := 2) hx hb hts (by decide +kernel) hown hK hP 1 rfl rfl 0 (by decide) (hts (.fieldLink RX6 44 "UnibusMachine$Status" "now" "I") (by decide +kernel)) (fun _ h9 => h9) rfl dX6_mode_4 ?_
  refine lv_bipush (v := 14) hx hb dX6_mode_7 (by decide) ?_
  refine lv_ishr hx hb dX6_mode_9 ?_
  refine lv_topi (fun y1 ey1 => ?_)
  obtain rfl : y1 = 0 := by rw [ey1]; decide
  refine lv_iconst (v := 1) hx hb dX6_mode_10 (by decide) ?_
  refine lv_iand hx hb dX6_mode_11 ?_
  refine lv_topi (fun y2 ey2 => ?_)
  obtain rfl : y2 = 0 := by rw [ey2]; decide
  have hP9 := hP.sub (ws' := [(h0, .inr (5, [.ref ar, .ref oB, .ref oS, .int 0, .int 2, .int 0, .int 0, .int 0, .int 0])), (oS, .inr (6, [.int 0, .int (-1)]))]) [0, 1] rfl
  have hD9 := hD.sub (ws' := [(h0, .inr (5, [.ref ar, .ref oB, .ref oS, .int 0, .int 2, .int 0, .int 0, .int 0, .int 0])), (oS, .inr (6, [.int 0, .int (-1)]))]) [0, 1] (by decide) rfl
  have hK9 := hK.sub (tys' := []) [] rfl
  exact W.iret (v := 0) hx hb hr (fun t ht hW => ⟨⟨0, (), rfl, rfl, by rw [ht]; exact hP9, va_K.moved hW.alike hK9, hD9⟩, hS.F ht⟩) hS.2.2 dX6_mode_12
set_option maxHeartbeats 4000000 in
set_option maxRecDepth 100000 in
theorem c_set (l : Launch) (dC : Nat → ClassId) (dI : Nat → Nat → Nat) (h0 : Nat) (oB : Nat) (oP : Nat) (oS : Nat) (ar : Nat) (tr : ClassId) (p0 : Int32) (p1 : Int32) (sz : Nat) (hlt : l.stackTraces = false) : vx_Met l yX8_set wsX8_set ({ frames := 6, cells := 1, slots := 6, locals := 81 } : Room) (va_Pc [.ref h0, .int p0, .int p1] (fun U => U.heap.size = sz ∧ va_P (dC, dI) vwCl [(h0, .inr (7, [.ref oB, .ref oP])), (oP, .inr (5, [.ref ar, .ref oB, .ref oS, .int 0, .int 2, .int 0, .int 0, .int 0, .int 0])), (oS, .inr (6, [.int 0, .int (-1)])), (ar, .inl (tr, 8, .inl (fun _ => 0)))] U.heap ∧ va_K (dC, dI) vwCl [(tr, .int)] U ∧ va_D (fun _ => True) [(h0, .inr (7, [.ref oB, .ref oP])), (oP, .inr (5, [.ref ar, .ref oB, .ref oS, .int 0, .int 2, .int 0, .int 0, .int 0, .int 0])), (oS, .inr (6, [.int 0, .int (-1)])), (ar, .inl (tr, 8, .inl (fun _ => 0)))] ∧ vx_Zq Bundle.tN "UNASSIGNED_STACK" Bundle.steD (va_A [(h0, .inr (7, [.ref oB, .ref oP])), (oP, .inr (5, [.ref ar, .ref oB, .ref oS, .int 0, .int 2, .int 0, .int 0, .int 0, .int 0])), (oS, .inr (6, [.int 0, .int (-1)])), (ar, .inl (tr, 8, .inl (fun _ => 0)))] sz) U U.heap ∧ vx_Zq Bundle.tN "SUPPRESSED_SENTINEL" Bundle.listD (va_A [(h0, .inr (7, [.ref oB, .ref oP])), (oP, .inr (5, [.ref ar, .ref oB, .ref oS, .int 0, .int 2, .int 0, .int 0, .int 0, .int 0])), (oS, .inr (6, [.int 0, .int (-1)])), (ar, .inl (tr, 8, .inl (fun _ => 0)))] sz) U U.heap ∧ va_Nw (.declares (Bundle.init0 "java/lang/RuntimeException")) U ∧ va_Nw (.declares (Bundle.init0 "java/lang/Exception")) U ∧ va_Nw (.declares (Bundle.init0 Bundle.tN)) U ∧ va_Nw (.castable "java/lang/IllegalArgumentException" "java/lang/IllegalArgumentException") U)) (va_Qv (fun (u : Unit) => (0 ≤ p0.toInt ∧ p0.toInt ≤ 7) ∧ (0 ≤ p1.toInt ∧ p1.toInt ≤ 65535)) (fun (u : Unit) (t : State) => va_P (dC, dI) vwCl [] t.heap ∧ va_K (dC, dI) vwCl [] t ∧ va_D (va_A [(h0, .inr (7, [.ref oB, .ref oP])), (oP, .inr (5, [.ref ar, .ref oB, .ref oS, .int 0, .int 2, .int 0, .int 0, .int 0, .int 0])), (oS, .inr (6, [.int 0, .int (-1)])), (ar, .inl (tr, 8, .inl (fun _ => 0)))] sz) []) (va_A [(h0, .inr (7, [.ref oB, .ref oP])), (oP, .inr (5, [.ref ar, .ref oB, .ref oS, .int 0, .int 2, .int 0, .int 0, .int 0, .int 0])), (oS, .inr (6, [.int 0, .int (-1)])), (ar, .inl (tr, 8, .inl (fun _ => 0)))] sz)) (vx_X (fun _ : Unit => True) (fun (E : String) (_ : Unit) (_ : State) => E = "java/lang/IllegalArgumentException" ∧ ¬ ((0 ≤ p0.toInt ∧ p0.toInt ≤ 7) ∧ (0 ≤ p1.toInt ∧ p1.toInt ≤ 65535))) (va_A [(h0, .inr (7, [.ref oB, .ref oP])), (oP, .inr (5, [.ref ar, .ref oB, .ref oS, .int 0, .int 2, .int 0, .int 0, .int 0, .int 0])), (oS, .inr (6, [.int 0, .int (-1)])), (ar, .inl (tr, 8, .inl (fun _ => 0)))] sz)) 1 6 (va_A [(h0, .inr (7, [.ref oB, .ref oP])), (oP, .inr (5, [.ref ar, .ref oB, .ref oS, .int 0, .int 2, .int 0, .int 0, .int 0, .int 0])), (oS, .inr (6, [.int 0, .int (-1)])), (ar, .inl (tr, 8, .inl (fun _ => 0)))] sz) := by
  refine vx_ofW (cc := cX8_set) (maxL := 3) (ret := none) (by decide) rfl ?_
  intro p e s m args below meth c s₁ B hml htab hv
  obtain ⟨rfl, hsz, hP, hK, hD0, hZU, hZN, hd1, hd2, hd3, hcI⟩ := hv
  have hx := B.exec
  have hb := B.bytes
  have hr := B.returns
  have hts := atoms_spec (ws := wsX8_set) B.pre
  have hown : s.vm.findClass RX8 = some m.cls := findClass_of_methodNamed B.named
  have hlocks := B.notSynchronized
  subst hsz
  have hD := hD0.self (sz := s.heap.size)
  generalize hAe : va_A [(h0, .inr (7, [.ref oB, .ref oP])), (oP, .inr (5, [.ref ar, .ref oB, .ref oS, .int 0, .int 2, .int 0, .int 0, .int 0, .int 0])), (oS, .inr (6, [.int 0, .int (-1)])), (ar, .inl (tr, 8, .inl (fun _ => 0)))] s.heap.size = A at hD hZU hZN ⊢
  have hA : ∀ q : Nat, s.heap.size ≤ q → A q := fun q h => by rw [← hAe]; exact Or.inr h
  have hS0 : ∀ G : Heap, s.heap = G → va_S A s.heap G [] := fun G h => by subst h; exact va_S.rf
  generalize hHe : s.heap = H at hP ⊢
  have hS := hS0 H hHe
  have hP : va_P (dC, dI) vwCl [(h0, .inr (7, [.ref oB, .ref oP])), (oP, .inr (5, [.ref ar, .ref oB, .ref oS, .int 0, .int 2, .int 0, .int 0, .int 0, .int 0])), (oS, .inr (6, [.int 0, .int (-1)])), (ar, .inl (tr, 8, .inl (fun _ => 0)))] H := hP
  have hD : va_D A [(h0, .inr (7, [.ref oB, .ref oP])), (oP, .inr (5, [.ref ar, .ref oB, .ref oS, .int 0, .int 2, .int 0, .int 0, .int 0, .int 0])), (oS, .inr (6, [.int 0, .int (-1)])), (ar, .inl (tr, 8, .inl (fun _ => 0)))] := hD
  have hK : va_K (dC, dI) vwCl [(tr, .int)] s := hK
  have hl := lv_entry ([.ref h0, .int p0, .int p1]) (n := 3) (Nat.le_of_ble_eq_true rfl)
  rw [lg_entry_eq]
  generalize (lg_sl ([.ref h0, .int p0, .int p1]) ++ List.replicate (3 - (lg_sl ([.ref h0, .int p0, .int p1])).length) Slot.unset).toArray = ls at hl ⊢
  have hl : lv_has ls 3 [(0, .ref h0), (1, .int p0), (2, .int p1)] := hl
  have kk0 : (0 : Int32).toInt = 0 := by decide
  have kk6 : (6 : Int32).toInt = 6 := by decide
  have kk7 : (7 : Int32).toInt = 7 := by decide
  refine lv_iload_n hx hb dX8_set_0 rfl (lv_at hl 1 rfl) ?_
  refine lv_if_lt (tgt := 17) hx hb dX8_set_1 (by decide) (fun c1 => ?_) (fun c1 => ?_)
  · have c1 := fz_lt.mp c1
    have kk0 : (0 : Int32).toInt = 0 := by decide
    have hpx9 : "java/lang/IllegalArgumentException" = "java/lang/IllegalArgumentException" ∧ ¬ ((0 ≤ p0.toInt ∧ p0.toInt ≤ 7) ∧ (0 ≤ p1.toInt ∧ p1.toInt ≤ 65535)) := by exact ⟨rfl, by omega⟩
    exact vx_throw0 (names := ["java/lang/RuntimeException", "java/lang/Exception"]) (cls := "java/lang/IllegalArgumentException") (ik := 32) (ic := 34) (A := A) hx hb hlt hown (by decide) (by decide) (hts (.classLink RX8 32 "java/lang/IllegalArgumentException") (by decide +kernel)) (hts (.initialized "java/lang/IllegalArgumentException") (by decide +kernel)) (vx_hat (fun w h => hts w (List.mem_cons_of_mem _ (List.mem_append_right _ h))) (by decide +kernel) (vx_c (va_Nw.use rfl hcI) (vx_c (va_Nw.use rfl hd1) (vx_c (va_Nw.use rfl hd2) (vx_c (va_Nw.use rfl hd3) vx_n))))) (by decide +kernel) hZU hZN hS (by rw [hml]; exact hl.1) dX8_set_17 dX8_set_20 dX8_set_21 dX8_set_24 (fun x h => (htab x h).elim) (Nat.le_of_ble_eq_true rfl) (Nat.le_of_ble_eq_true rfl) (Nat.le_of_ble_eq_true rfl) (Nat.le_of_ble_eq_true rfl) hlocks (fun t hal hz hk => ⟨(), trivial, hpx9, Nat.le_trans hS.1 hz, fun q h1 h2 => (hk q (Nat.lt_of_lt_of_le h1 hS.1)).trans (hS.2.1 q h1 h2)⟩) hS.2.2 (Nat.le_of_ble_eq_true rfl) (Nat.le_of_ble_eq_true rfl)
  · have c1 := fz_nlt.mp c1
    have kk0 : (0 : Int32).toInt = 0 := by decide
    refine lv_iload_n hx hb dX8_set_4 rfl (lv_at hl 1 rfl) ?_
    refine lv_bipush (v := 7) hx hb dX8_set_5 (by decide) ?_
    refine lv_icmp_gt (tgt := 17) hx hb dX8_set_7 (by decide) (fun c2 => ?_) (fun c2 => ?_)
    · have c2 := fz_lt.mp c2
      have kk7 : (7 : Int32).toInt = 7 := by decide
      have hpx9 : "java/lang/IllegalArgumentException" = "java/lang/IllegalArgumentException" ∧ ¬ ((0 ≤ p0.toInt ∧ p0.toInt ≤ 7) ∧ (0 ≤ p1.toInt ∧ p1.toInt ≤ 65535)) := by exact ⟨rfl, by omega⟩
      exact vx_throw0 (names := ["java/lang/RuntimeException", "java/lang/Exception"]) (cls := "java/lang/IllegalArgumentException") (ik := 32) (ic := 34) (A := A) hx hb hlt hown (by decide) (by decide) (hts (.classLink RX8 32 "java/lang/IllegalArgumentException") (by decide +kernel)) (hts (.initialized "java/lang/IllegalArgumentException") (by decide +kernel)) (vx_hat (fun w h => hts w (List.mem_cons_of_mem _ (List.mem_append_right _ h))) (by decide +kernel) (vx_c (va_Nw.use rfl hcI) (vx_c (va_Nw.use rfl hd1) (vx_c (va_Nw.use rfl hd2) (vx_c (va_Nw.use rfl hd3) vx_n))))) (by decide +kernel) hZU hZN hS (by rw [hml]; exact hl.1) dX8_set_17 dX8_set_20 dX8_set_21 dX8_set_24 (fun x h => (htab x h).elim) (Nat.le_of_ble_eq_true rfl) (Nat.le_of_ble_eq_true rfl) (Nat.le_of_ble_eq_true rfl) (Nat.le_of_ble_eq_true rfl) hlocks (fun t hal hz hk => ⟨(), trivial, hpx9, Nat.le_trans hS.1 hz, fun q h1 h2 => (hk q (Nat.lt_of_lt_of_le h1 hS.1)).trans (hS.2.1 q h1 h2)⟩) hS.2.2 (Nat.le_of_ble_eq_true rfl) (Nat.le_of_ble_eq_true rfl)
    · have c2 := fz_nlt.mp c2
      have kk7 : (7 : Int32).toInt = 7 := by decide
      refine lv_iload_n hx hb dX8_set_10 rfl (lv_at hl 2 rfl) ?_
      have hPc := hP.sub (ws' := []) [] rfl
      have hDc := hD.sub (ws' := []) [] (by decide) rfl
      have hKc := hK.sub (tys' := []) [] rfl
      have hFc := va_free (wc := []) hD hS hA [] rfl
      refine va_calli (va_runS (As := [.int p1]) (rest := []) ⟨hx, hb, hml, hown, hts⟩ (c_isWord l dC dI p1 H.size) (va_cwS 1 hts gX8_set_X8_isWord rfl rfl rfl (by decide +kernel) ⟨Nat.le_of_ble_eq_true rfl, Nat.le_of_ble_eq_true rfl⟩) ⟨fun a U g mk q => by obtain ⟨q0, q1, qP, qK, qD⟩ := q; exact ⟨q0, q1, qP, va_K.moved (u := U) (U := U.calling g mk a) (Vm.Alike.refl U.vm) qK, qD⟩, fun U hU hW => ⟨rfl, by rw [hU], by rw [hU]; exact hPc, va_K.moved hW.alike hKc, hDc.weaken (fun _ _ _ _ => trivial)⟩⟩ rfl rfl hl.1 rfl (lv_room (Nat.le_of_ble_eq_true rfl)) dX8_set_11 ⟨Nat.le_of_ble_eq_true rfl, Nat.le_of_ble_eq_true rfl⟩) hS (fun q _ h => hFc q h) hFc (fun r3 u4 t H1 locs ht hvm hw hB hz1 hk1 hS => ?_)
      obtain ⟨hP1, hK1, hD1⟩ := hB
      rw [ht] at hP1
      have hK1 := va_K.moved hvm.symm hK1
      try dsimp only at hw
      obtain ⟨hP, hD⟩ := va_join (wr := [(h0, .inr (7, [.ref oB, .ref oP])), (oP, .inr (5, [.ref ar, .ref oB, .ref oS, .int 0, .int 2, .int 0, .int 0, .int 0, .int 0])), (oS, .inr (6, [.int 0, .int (-1)])), (ar, .inl (tr, 8, .inl (fun _ => 0)))]) (w1 := []) hP hD [] [0, 1, 2, 3] rfl rfl (by decide) (by decide) hk1 hFc hP1 hD1
      have hK := (hK.sub (tys' := [(tr, .int)]) [0] rfl).app hK1
      generalize H1 = H at hP hS ⊢
      have hP : va_P (dC, dI) vwCl [(h0, .inr (7, [.ref oB, .ref oP])), (oP, .inr (5, [.ref ar, .ref oB, .ref oS, .int 0, .int 2, .int 0, .int 0, .int 0, .int 0])), (oS, .inr (6, [.int 0, .int (-1)])), (ar, .inl (tr, 8, .inl (fun _ => 0)))] H := hP
      have hD : va_D A [(h0, .inr (7, [.ref oB, .ref oP])), (oP, .inr (5, [.ref ar, .ref oB, .ref oS, .int 0, .int 2, .int 0, .int 0, .int 0, .int 0])), (oS, .inr (6, [.int 0, .int (-1)])), (ar, .inl (tr, 8, .inl (fun _ => 0)))] := hD
      have hK : va_K (dC, dI) vwCl [(tr, .int)] s := hK
      rcases hw with ⟨rfl, _, _⟩ | ⟨rfl, _⟩
      · skip
        refine lv_if_ne (tgt := 25) hx hb dX8_set_14 (by decide) (fun c5 => ?_) (fun c5 => ?_)
        · skip
          refine lv_iload_n hx hb dX8_set_25 rfl (lv_at hl 1 rfl) ?_
          refine lv_bipush (v := 6) hx hb dX8_set_26 (by decide) ?_
          refine lv_icmp_ne (tgt := 52) hx hb dX8_set_28 (by decide) (fun c6 => ?_) (fun c6 => ?_)
          · have c6 := fz_ne.mp c6
            have kk6 : (6 : Int32).toInt = 6 := by decide
            refine lv_aload_n hx hb dX8_set_52 rfl (lv_at hl 0 rfl) ?_
            refine va_get (D := (dC, dI)) (ci := 7) (v := .ref oP) (C := RX8) (T := TX8) (N := 2) hx hb hts (by decide +kernel) hown hK hP 0 rfl rfl 1 (by decide) (hts (.fieldLink RX8 21 "UnibusMachine" "processor" "LUnibusMachine$Processor;") (by decide +kernel)) (fun _ h9 => h9) rfl dX8_set_53 ?_
            refine va_get (D := (dC, dI)) (ci := 5) (v := .ref ar) (C := RX6) (T := TX6) (N := 9) hx hb hts (by decide +kernel) hown hK hP 1 rfl rfl 0 (by decide) (hts (.fieldLink RX8 47 "UnibusMachine$Processor" "registers" "[I") (by decide +kernel)) (fun _ h9 => h9) rfl dX8_set_56 ?_
            refine lv_iload_n hx hb dX8_set_59 rfl (lv_at hl 1 rfl) ?_
            refine lv_iload_n hx hb dX8_set_60 rfl (lv_at hl 2 rfl) ?_
            refine va_iast (D := (dC, dI)) hx hb hK hP hD hS 3 0 rfl rfl (vp_in_iff.mpr (by constructor <;> omega)) dX8_set_61 (fun H locs hP hD hS => ?_)
            have hP : va_P (dC, dI) vwCl [(h0, .inr (7, [.ref oB, .ref oP])), (oP, .inr (5, [.ref ar, .ref oB, .ref oS, .int 0, .int 2, .int 0, .int 0, .int 0, .int 0])), (oS, .inr (6, [.int 0, .int (-1)])), (ar, .inl (tr, 8, .inl (upd (fun _ => 0) (p0 : Int32).toNatClampNeg p1)))] H := hP
            have hD : va_D A [(h0, .inr (7, [.ref oB, .ref oP])), (oP, .inr (5, [.ref ar, .ref oB, .ref oS, .int 0, .int 2, .int 0, .int 0, .int 0, .int 0])), (oS, .inr (6, [.int 0, .int (-1)])), (ar, .inl (tr, 8, .inl (upd (fun _ => 0) (p0 : Int32).toNatClampNeg p1)))] := hD
            have hP9 := hP.sub (ws' := []) [] rfl
            have hD9 := hD.sub (ws' := []) [] (by decide) rfl
            have hK9 := hK.sub (tys' := []) [] rfl
            refine vx_ret ?_
            refine W.widen (k := 1) (n := 6) (Nat.le_of_ble_eq_true rfl) (Nat.le_of_ble_eq_true rfl) ?_
            exact W.vret hx hb hr (fun t ht hW => ⟨⟨(), rfl, (by omega), by rw [ht]; exact hP9, va_K.moved hW.alike hK9, hD9⟩, hS.F ht⟩) hS.2.2 dX8_set_62
          · have c6 := fz_eq.mp c6
            have kk6 : (6 : Int32).toInt = 6 := by decide
            refine lv_aload_n hx hb dX8_set_31 rfl (lv_at hl 0 rfl) ?_
            refine va_get (D := (dC, dI)) (ci := 7) (v := .ref oP) (C := RX8) (T := TX8) (N := 2) hx hb hts (by decide +kernel) hown hK hP 0 rfl rfl 1 (by decide) (hts (.fieldLink RX8 21 "UnibusMachine" "processor" "LUnibusMachine$Processor;") (by decide +kernel)) (fun _ h9 => h9) rfl dX8_set_32 ?_
            have hPc := hP.sub (ws' := [(oP, .inr (5, [.ref ar, .ref oB, .ref oS, .int 0, .int 2, .int 0, .int 0, .int 0, .int 0])), (oS, .inr (6, [.int 0, .int (-1)]))]) [1, 2] rfl
            have hDc := hD.sub (ws' := [(oP, .inr (5, [.ref ar, .ref oB, .ref oS, .int 0, .int 2, .int 0, .int 0, .int 0, .int 0])), (oS, .inr (6, [.int 0, .int (-1)]))]) [1, 2] (by decide) rfl
            have hKc := hK.sub (tys' := []) [] rfl
            have hFc := va_free (wc := [(oP, .inr (5, [.ref ar, .ref oB, .ref oS, .int 0, .int 2, .int 0, .int 0, .int 0, .int 0])), (oS, .inr (6, [.int 0, .int (-1)]))]) hD hS hA [1, 2] rfl
            refine va_calli (va_runV (As := []) (rest := []) ⟨hx, hb, hml, hown, hts⟩ (c_mode l dC dI oP ar oB oS H.size) (cwV 0 hts gX8_set_X6_mode rfl rfl rfl (by decide +kernel) ⟨Nat.le_of_ble_eq_true rfl, Nat.le_of_ble_eq_true rfl⟩) ⟨fun a U g mk q => by obtain ⟨q0, q1, qP, qK, qD⟩ := q; exact ⟨q0, q1, qP, va_K.moved (u := U) (U := U.calling g mk a) (Vm.Alike.refl U.vm) qK, qD⟩, va_recv hKc hPc (ci := 5) (q0 := 0) rfl rfl, fun U hU hW => ⟨rfl, by rw [hU], by rw [hU]; exact hPc, va_K.moved hW.alike hKc, hDc.weaken (fun _ _ _ _ => trivial)⟩⟩ rfl rfl hl.1 rfl (lv_room (Nat.le_of_ble_eq_true rfl)) dX8_set_35 ⟨Nat.le_of_ble_eq_true rfl, Nat.le_of_ble_eq_true rfl⟩) hS (fun q _ h => hFc q h) hFc (fun r7 u8 t H1 locs ht hvm hw hB hz1 hk1 hS => ?_)
            obtain ⟨hP1, hK1, hD1⟩ := hB
            rw [ht] at hP1
            have hK1 := va_K.moved hvm.symm hK1
            try dsimp only at hw
            obtain ⟨hP, hD⟩ := va_join (wr := [(h0, .inr (7, [.ref oB, .ref oP])), (ar, .inl (tr, 8, .inl (fun _ => 0)))]) (w1 := [(oP, .inr (5, [.ref ar, .ref oB, .ref oS, .int 0, .int 2, .int 0, .int 0, .int 0, .int 0])), (oS, .inr (6, [.int 0, .int (-1)]))]) hP hD [1, 2] [0, 3] rfl rfl (by decide) (by decide) hk1 hFc hP1 hD1
            have hK := (hK.sub (tys' := [(tr, .int)]) [0] rfl).app hK1
            generalize H1 = H at hP hS ⊢
            have hP : va_P (dC, dI) vwCl [(h0, .inr (7, [.ref oB, .ref oP])), (ar, .inl (tr, 8, .inl (fun _ => 0))), (oP, .inr (5, [.ref ar, .ref oB, .ref oS, .int 0, .int 2, .int 0, .int 0, .int 0, .int 0])), (oS, .inr (6, [.int 0, .int (-1)]))] H := hP
            have hD : va_D A [(h0, .inr (7, [.ref oB, .ref oP])), (ar, .inl (tr, 8, .inl (fun _ => 0))), (oP, .inr (5, [.ref ar, .ref oB, .ref oS, .int 0, .int 2, .int 0, .int 0, .int 0, .int 0])), (oS, .inr (6, [.int 0, .int (-1)]))] := hD
            have hK : va_K (dC, dI) vwCl [(tr, .int)] s := hK
            obtain rfl := hw
            have hP : va_P (dC, dI) vwCl [(h0, .inr (7, [.ref oB, .ref oP])), (ar, .inl (tr, 8, .inl (fun _ => 0))), (oP, .inr (5, [.ref ar, .ref oB, .ref oS, .int 0, .int 2, .int 0, .int 0, .int 0, .int 0])), (oS, .inr (6, [.int 0, .int (-1)]))] H := hP
            have hD : va_D A [(h0, .inr (7, [.ref oB, .ref oP])), (ar, .inl (tr, 8, .inl (fun _ => 0))), (oP, .inr (5, [.ref ar, .ref oB, .ref oS, .int 0, .int 2, .int 0, .int 0, .int 0, .int 0])), (oS, .inr (6, [.int 0, .int (-1)]))] := hD
            refine lv_if_eq (tgt := 52) hx hb dX8_set_38 (by decide) (fun c9 => ?_) (fun c9 => ?_)
            · skip
              refine lv_aload_n hx hb dX8_set_52 rfl (lv_at hl 0 rfl) ?_
              refine va_get (D := (dC, dI)) (ci := 7) (v := .ref oP) (C := RX8) (T := TX8) (N := 2) hx hb hts (by decide +kernel) hown hK hP 0 rfl rfl 1 (by decide) (hts (.fieldLink RX8 21 "UnibusMachine" "processor" "LUnibusMachine$Processor;") (by decide +kernel)) (fun _ h9 => h9) rfl dX8_set_53 ?_
              refine va_get (D := (dC, dI)) (ci := 5) (v := .ref ar) (C := RX6) (T := TX6) (N := 9) hx hb hts (by decide +kernel) hown hK hP 2 rfl rfl 0 (by decide) (hts (.fieldLink RX8 47 "UnibusMachine$Processor" "registers" "[I") (by decide +kernel)) (fun _ h9 => h9) rfl dX8_set_56 ?_
              refine lv_iload_n hx hb dX8_set_59 rfl (lv_at hl 1 rfl) ?_
              refine lv_iload_n hx hb dX8_set_60 rfl (lv_at hl 2 rfl) ?_
              refine va_iast (D := (dC, dI)) hx hb hK hP hD hS 1 0 rfl rfl (vp_in_iff.mpr (by constructor <;> omega)) dX8_set_61 (fun H locs hP hD hS => ?_)
              have hP : va_P (dC, dI) vwCl [(h0, .inr (7, [.ref oB, .ref oP])), (ar, .inl (tr, 8, .inl (upd (fun _ => 0) (p0 : Int32).toNatClampNeg p1))), (oP, .inr (5, [.ref ar, .ref oB, .ref oS, .int 0, .int 2, .int 0, .int 0, .int 0, .int 0])), (oS, .inr (6, [.int 0, .int (-1)]))] H := hP
              have hD : va_D A [(h0, .inr (7, [.ref oB, .ref oP])), (ar, .inl (tr, 8, .inl (upd (fun _ => 0) (p0 : Int32).toNatClampNeg p1))), (oP, .inr (5, [.ref ar, .ref oB, .ref oS, .int 0, .int 2, .int 0, .int 0, .int 0, .int 0])), (oS, .inr (6, [.int 0, .int (-1)]))] := hD
              have hP9 := hP.sub (ws' := []) [] rfl
              have hD9 := hD.sub (ws' := []) [] (by decide) rfl
              have hK9 := hK.sub (tys' := []) [] rfl
              refine vx_ret ?_
              refine W.widen (k := 1) (n := 6) (Nat.le_of_ble_eq_true rfl) (Nat.le_of_ble_eq_true rfl) ?_
              exact W.vret hx hb hr (fun t ht hW => ⟨⟨(), rfl, (by omega), by rw [ht]; exact hP9, va_K.moved hW.alike hK9, hD9⟩, hS.F ht⟩) hS.2.2 dX8_set_62
            · exact absurd c9 (by decide)
        · exact absurd c5 (by decide)
      · skip
        refine lv_if_ne (tgt := 25) hx hb dX8_set_14 (by decide) (fun c10 => ?_) (fun c10 => ?_)
        · exact absurd c10 (by decide)
        · skip
          have hpx9 : "java/lang/IllegalArgumentException" = "java/lang/IllegalArgumentException" ∧ ¬ ((0 ≤ p0.toInt ∧ p0.toInt ≤ 7) ∧ (0 ≤ p1.toInt ∧ p1.toInt ≤ 65535)) := by exact ⟨rfl, by omega⟩
          exact vx_throw0 (names := ["java/lang/RuntimeException", "java/lang/Exception"]) (cls := "java/lang/IllegalArgumentException") (ik := 32) (ic := 34) (A := A) hx hb hlt hown (by decide) (by decide) (hts (.classLink RX8 32 "java/lang/IllegalArgumentException") (by decide +kernel)) (hts (.initialized "java/lang/IllegalArgumentException") (by decide +kernel)) (vx_hat (fun w h => hts w (List.mem_cons_of_mem _ (List.mem_append_right _ h))) (by decide +kernel) (vx_c (va_Nw.use rfl hcI) (vx_c (va_Nw.use rfl hd1) (vx_c (va_Nw.use rfl hd2) (vx_c (va_Nw.use rfl hd3) vx_n))))) (by decide +kernel) hZU hZN hS (by rw [hml]; exact hl.1) dX8_set_17 dX8_set_20 dX8_set_21 dX8_set_24 (fun x h => (htab x h).elim) (Nat.le_of_ble_eq_true rfl) (Nat.le_of_ble_eq_true rfl) (Nat.le_of_ble_eq_true rfl) (Nat.le_of_ble_eq_true rfl) hlocks (fun t hal hz hk => ⟨(), trivial, hpx9, Nat.le_trans hS.1 hz, fun q h1 h2 => (hk q (Nat.lt_of_lt_of_le h1 hS.1)).trans (hS.2.1 q h1 h2)⟩) hS.2.2 (Nat.le_of_ble_eq_true rfl) (Nat.le_of_ble_eq_true rfl)
set_option maxHeartbeats 4000000 in
set_option maxRecDepth 100000 in
theorem c_register (l : Launch) (dC : Nat → ClassId) (dI : Nat → Nat → Nat) (h0 : Nat) (oB : Nat) (oP : Nat) (am : Nat) (oM : Nat) (oS : Nat) (oK : Nat) (oL : Nat) (oD : Nat) (ar : Nat) (tr : ClassId) (p0 : Int32) (sz : Nat) (hlt : l.stackTraces = false) : vx_Met l yX8_register wsX8_register ({ frames := 6, cells := 1, slots := 6, locals := 81 } : Room) (va_Pc [.ref h0, .int p0] (fun U => U.heap.size = sz ∧ va_P (dC, dI) vwCl [(h0, .inr (7, [.ref oB, .ref oP])), (oB, .inr (0, [.ref am, .ref oM, .ref oS, .ref oK, .ref oL, .ref oD])), (oS, .inr (6, [.int 0, .int (-1)])), (oP, .inr (5, [.ref ar, .ref oB, .ref oS, .int 0, .int 2, .int 0, .int 0, .int 0, .int 0])), (ar, .inl (tr, 8, .inl (fun _ => 0)))] U.heap ∧ va_K (dC, dI) vwCl [(tr, .int)] U ∧ va_D (fun _ => True) [(h0, .inr (7, [.ref oB, .ref oP])), (oB, .inr (0, [.ref am, .ref oM, .ref oS, .ref oK, .ref oL, .ref oD])), (oS, .inr (6, [.int 0, .int (-1)])), (oP, .inr (5, [.ref ar, .ref oB, .ref oS, .int 0, .int 2, .int 0, .int 0, .int 0, .int 0])), (ar, .inl (tr, 8, .inl (fun _ => 0)))] ∧ vx_Zq Bundle.tN "UNASSIGNED_STACK" Bundle.steD (va_A [(h0, .inr (7, [.ref oB, .ref oP])), (oB, .inr (0, [.ref am, .ref oM, .ref oS, .ref oK, .ref oL, .ref oD])), (oS, .inr (6, [.int 0, .int (-1)])), (oP, .inr (5, [.ref ar, .ref oB, .ref oS, .int 0, .int 2, .int 0, .int 0, .int 0, .int 0])), (ar, .inl (tr, 8, .inl (fun _ => 0)))] sz) U U.heap ∧ vx_Zq Bundle.tN "SUPPRESSED_SENTINEL" Bundle.listD (va_A [(h0, .inr (7, [.ref oB, .ref oP])), (oB, .inr (0, [.ref am, .ref oM, .ref oS, .ref oK, .ref oL, .ref oD])), (oS, .inr (6, [.int 0, .int (-1)])), (oP, .inr (5, [.ref ar, .ref oB, .ref oS, .int 0, .int 2, .int 0, .int 0, .int 0, .int 0])), (ar, .inl (tr, 8, .inl (fun _ => 0)))] sz) U U.heap ∧ va_Nw (.declares (Bundle.init0 "java/lang/RuntimeException")) U ∧ va_Nw (.declares (Bundle.init0 "java/lang/Exception")) U ∧ va_Nw (.declares (Bundle.init0 Bundle.tN)) U ∧ va_Nw (.castable "java/lang/IllegalArgumentException" "java/lang/IllegalArgumentException") U)) (va_Qi (fun (r : Int32) (u : Unit) => r = 0 ∧ 0 ≤ p0.toInt ∧ p0.toInt ≤ 9) (fun (u : Unit) (t : State) => va_P (dC, dI) vwCl [] t.heap ∧ va_K (dC, dI) vwCl [] t ∧ va_D (va_A [(h0, .inr (7, [.ref oB, .ref oP])), (oB, .inr (0, [.ref am, .ref oM, .ref oS, .ref oK, .ref oL, .ref oD])), (oS, .inr (6, [.int 0, .int (-1)])), (oP, .inr (5, [.ref ar, .ref oB, .ref oS, .int 0, .int 2, .int 0, .int 0, .int 0, .int 0])), (ar, .inl (tr, 8, .inl (fun _ => 0)))] sz) []) (va_A [(h0, .inr (7, [.ref oB, .ref oP])), (oB, .inr (0, [.ref am, .ref oM, .ref oS, .ref oK, .ref oL, .ref oD])), (oS, .inr (6, [.int 0, .int (-1)])), (oP, .inr (5, [.ref ar, .ref oB, .ref oS, .int 0, .int 2, .int 0, .int 0, .int 0, .int 0])), (ar, .inl (tr, 8, .inl (fun _ => 0)))] sz)) (vx_X (fun _ : Unit => True) (fun (E : String) (_ : Unit) (_ : State) => E = "java/lang/IllegalArgumentException" ∧ ¬ (0 ≤ p0.toInt ∧ p0.toInt ≤ 9)) (va_A [(h0, .inr (7, [.ref oB, .ref oP])), (oB, .inr (0, [.ref am, .ref oM, .ref oS, .ref oK, .ref oL, .ref oD])), (oS, .inr (6, [.int 0, .int (-1)])), (oP, .inr (5, [.ref ar, .ref oB, .ref oS, .int 0, .int 2, .int 0, .int 0, .int 0, .int 0])), (ar, .inl (tr, 8, .inl (fun _ => 0)))] sz)) 1 6 (va_A [(h0, .inr (7, [.ref oB, .ref oP])), (oB, .inr (0, [.ref am, .ref oM, .ref oS, .ref oK, .ref oL, .ref oD])), (oS, .inr (6, [.int 0, .int (-1)])), (oP, .inr (5, [.ref ar, .ref oB, .ref oS, .int 0, .int 2, .int 0, .int 0, .int 0, .int 0])), (ar, .inl (tr, 8, .inl (fun _ => 0)))] sz) := by
  refine vx_ofW (cc := cX8_register) (maxL := 2) (ret := (some .int)) (by decide) rfl ?_
  intro p e s m args below meth c s₁ B hml htab hv
  obtain ⟨rfl, hsz, hP, hK, hD0, hZU, hZN, hd1, hd2, hd3, hcI⟩ := hv
  have hx := B.exec
  have hb := B.bytes
  have hr := B.returns
  have hts := atoms_spec (ws := wsX8_register) B.pre
  have hown : s.vm.findClass RX8 = some m.cls := findClass_of_methodNamed B.named
  have hlocks := B.notSynchronized
  subst hsz
  have hD := hD0.self (sz := s.heap.size)
  generalize hAe : va_A [(h0, .inr (7, [.ref oB, .ref oP])), (oB, .inr (0, [.ref am, .ref oM, .ref oS, .ref oK, .ref oL, .ref oD])), (oS, .inr (6, [.int 0, .int (-1)])), (oP, .inr (5, [.ref ar, .ref oB, .ref oS, .int 0, .int 2, .int 0, .int 0, .int 0, .int 0])), (ar, .inl (tr, 8, .inl (fun _ => 0)))] s.heap.size = A at hD hZU hZN ⊢
  have hA : ∀ q : Nat, s.heap.size ≤ q → A q := fun q h => by rw [← hAe]; exact Or.inr h
  have hS0 : ∀ G : Heap, s.heap = G → va_S A s.heap G [] := fun G h => by subst h; exact va_S.rf
  generalize hHe : s.heap = H at hP ⊢
  have hS := hS0 H hHe
  have hP : va_P (dC, dI) vwCl [(h0, .inr (7, [.ref oB, .ref oP])), (oB, .inr (0, [.ref am, .ref oM, .ref oS, .ref oK, .ref oL, .ref oD])), (oS, .inr (6, [.int 0, .int (-1)])), (oP, .inr (5, [.ref ar, .ref oB, .ref oS, .int 0, .int 2, .int 0, .int 0, .int 0, .int 0])), (ar, .inl (tr, 8, .inl (fun _ => 0)))] H := hP
  have hD : va_D A [(h0, .inr (7, [.ref oB, .ref oP])), (oB, .inr (0, [.ref am, .ref oM, .ref oS, .ref oK, .ref oL, .ref oD])), (oS, .inr (6, [.int 0, .int (-1)])), (oP, .inr (5, [.ref ar, .ref oB, .ref oS, .int 0, .int 2, .int 0, .int 0, .int 0, .int 0])), (ar, .inl (tr, 8, .inl (fun _ => 0)))] := hD
  have hK : va_K (dC, dI) vwCl [(tr, .int)] s := hK
  have hl := lv_entry ([.ref h0, .int p0]) (n := 2) (Nat.le_of_ble_eq_true rfl)
  rw [lg_entry_eq]
  generalize (lg_sl ([.ref h0, .int p0]) ++ List.replicate (2 - (lg_sl ([.ref h0, .int p0])).length) Slot.unset).toArray = ls at hl ⊢
  have hl : lv_has ls 2 [(0, .ref h0), (1, .int p0)] := hl
  have kk0 : (0 : Int32).toInt = 0 := by decide
  have kk8 : (8 : Int32).toInt = 8 := by decide
  have kk9 : (9 : Int32).toInt = 9 := by decide
  refine lv_iload_n hx hb dX8_register_0 rfl (lv_at hl 1 rfl) ?_
  refine lv_if_lt (tgt := 10) hx hb dX8_register_1 (by decide) (fun c1 => ?_) (fun c1 => ?_)
  · have c1 := fz_lt.mp c1
    have kk0 : (0 : Int32).toInt = 0 := by decide
    have hpx9 : "java/lang/IllegalArgumentException" = "java/lang/IllegalArgumentException" ∧ ¬ (0 ≤ p0.toInt ∧ p0.toInt ≤ 9) := by exact ⟨rfl, by omega⟩
    exact vx_throw0 (names := ["java/lang/RuntimeException", "java/lang/Exception"]) (cls := "java/lang/IllegalArgumentException") (ik := 32) (ic := 34) (A := A) hx hb hlt hown (by decide) (by decide) (hts (.classLink RX8 32 "java/lang/IllegalArgumentException") (by decide +kernel)) (hts (.initialized "java/lang/IllegalArgumentException") (by decide +kernel)) (vx_hat (fun w h => hts w (List.mem_cons_of_mem _ (List.mem_append_right _ h))) (by decide +kernel) (vx_c (va_Nw.use rfl hcI) (vx_c (va_Nw.use rfl hd1) (vx_c (va_Nw.use rfl hd2) (vx_c (va_Nw.use rfl hd3) vx_n))))) (by decide +kernel) hZU hZN hS (by rw [hml]; exact hl.1) dX8_register_10 dX8_register_13 dX8_register_14 dX8_register_17 (fun x h => (htab x h).elim) (Nat.le_of_ble_eq_true rfl) (Nat.le_of_ble_eq_true rfl) (Nat.le_of_ble_eq_true rfl) (Nat.le_of_ble_eq_true rfl) hlocks (fun t hal hz hk => ⟨(), trivial, hpx9, Nat.le_trans hS.1 hz, fun q h1 h2 => (hk q (Nat.lt_of_lt_of_le h1 hS.1)).trans (hS.2.1 q h1 h2)⟩) hS.2.2 (Nat.le_of_ble_eq_true rfl) (Nat.le_of_ble_eq_true rfl)
  · have c1 := fz_nlt.mp c1
    have kk0 : (0 : Int32).toInt = 0 := by decide
    refine lv_iload_n hx hb dX8_register_4 rfl (lv_at hl 1 rfl) ?_
    refine lv_bipush (v := 9) hx hb dX8_register_5 (by decide) ?_
    refine lv_icmp_le (tgt := 18) hx hb dX8_register_7 (by decide) (fun c2 => ?_) (fun c2 => ?_)
    · have c2 := fz_le.mp c2
      have kk9 : (9 : Int32).toInt = 9 := by decide
      refine lv_iload_n hx hb dX8_register_18 rfl (lv_at hl 1 rfl) ?_
      refine lv_bipush (v := 8) hx hb dX8_register_19 (by decide) ?_
      refine lv_icmp_ne (tgt := 35) hx hb dX8_register_21 (by decide) (fun c3 => ?_) (fun c3 => ?_)
      · have c3 := fz_ne.mp c3
        have kk8 : (8 : Int32).toInt = 8 := by decide
        refine lv_iload_n hx hb dX8_register_35 rfl (lv_at hl 1 rfl) ?_
        refine lv_bipush (v := 9) hx hb dX8_register_36 (by decide) ?_
        refine lv_icmp_ne (tgt := 51) hx hb dX8_register_38 (by decide) (fun c4 => ?_) (fun c4 => ?_)
        · have c4 := fz_ne.mp c4
          have kk9 : (9 : Int32).toInt = 9 := by decide
          refine lv_aload_n hx hb dX8_register_51 rfl (lv_at hl 0 rfl) ?_
          refine va_get (D := (dC, dI)) (ci := 7) (v := .ref oP) (C := RX8) (T := TX8) (N := 2) hx hb hts (by decide +kernel) hown hK hP 0 rfl rfl 1 (by decide) (hts (.fieldLink RX8 21 "UnibusMachine" "processor" "LUnibusMachine$Processor;") (by decide +kernel)) (fun _ h9 => h9) rfl dX8_register_52 ?_
          refine va_get (D := (dC, dI)) (ci := 5) (v := .ref ar) (C := RX6) (T := TX6) (N := 9) hx hb hts (by decide +kernel) hown hK hP 3 rfl rfl 0 (by decide) (hts (.fieldLink RX8 47 "UnibusMachine$Processor" "registers" "[I") (by decide +kernel)) (fun _ h9 => h9) rfl dX8_register_55 ?_
          refine lv_iload_n hx hb dX8_register_58 rfl (lv_at hl 1 rfl) ?_
          refine va_iald (D := (dC, dI)) hx hb hK hP 4 0 rfl rfl (vp_in_iff.mpr (by constructor <;> omega)) dX8_register_59 ?_
          have hP9 := hP.sub (ws' := []) [] rfl
          have hD9 := hD.sub (ws' := []) [] (by decide) rfl
          have hK9 := hK.sub (tys' := []) [] rfl
          refine vx_ret ?_
          refine W.widen (k := 1) (n := 6) (Nat.le_of_ble_eq_true rfl) (Nat.le_of_ble_eq_true rfl) ?_
          exact W.iret (v := 0) hx hb hr (fun t ht hW => ⟨⟨0, (), rfl, ⟨rfl, by omega, by omega⟩, by rw [ht]; exact hP9, va_K.moved hW.alike hK9, hD9⟩, hS.F ht⟩) hS.2.2 dX8_register_60
        · have c4 := fz_eq.mp c4
          have kk9 : (9 : Int32).toInt = 9 := by decide
          refine lv_aload_n hx hb dX8_register_41 rfl (lv_at hl 0 rfl) ?_
          refine va_get (D := (dC, dI)) (ci := 7) (v := .ref oP) (C := RX8) (T := TX8) (N := 2) hx hb hts (by decide +kernel) hown hK hP 0 rfl rfl 1 (by decide) (hts (.fieldLink RX8 21 "UnibusMachine" "processor" "LUnibusMachine$Processor;") (by decide +kernel)) (fun _ h9 => h9) rfl dX8_register_42 ?_
          refine va_get (D := (dC, dI)) (ci := 5) (v := .int 0) (C := RX6) (T := TX6) (N := 9) hx hb hts (by decide +kernel) hown hK hP 3 rfl rfl 3 (by decide) (hts (.fieldLink RX8 43 "UnibusMachine$Processor" "otherStack" "I") (by decide +kernel)) (fun _ h9 => h9) rfl dX8_register_45 ?_
          refine lv_goto (tgt := 60) hx hb dX8_register_48 (by decide) ?_
          have hP9 := hP.sub (ws' := []) [] rfl
          have hD9 := hD.sub (ws' := []) [] (by decide) rfl
          have hK9 := hK.sub (tys' := []) [] rfl
          refine vx_ret ?_
          refine W.widen (k := 1) (n := 6) (Nat.le_of_ble_eq_true rfl) (Nat.le_of_ble_eq_true rfl) ?_
          exact W.iret (v := 0) hx hb hr (fun t ht hW => ⟨⟨0, (), rfl, ⟨rfl, by omega, by omega⟩, by rw [ht]; exact hP9, va_K.moved hW.alike hK9, hD9⟩, hS.F ht⟩) hS.2.2 dX8_register_60
      · have c3 := fz_eq.mp c3
        have kk8 : (8 : Int32).toInt = 8 := by decide
        refine lv_aload_n hx hb dX8_register_24 rfl (lv_at hl 0 rfl) ?_
        refine va_get (D := (dC, dI)) (ci := 7) (v := .ref oB) (C := RX8) (T := TX8) (N := 2) hx hb hts (by decide +kernel) hown hK hP 0 rfl rfl 0 (by decide) (hts (.fieldLink RX8 10 "UnibusMachine" "bus" "LUnibusMachine$Bus;") (by decide +kernel)) (fun _ h9 => h9) rfl dX8_register_25 ?_
        refine va_get (D := (dC, dI)) (ci := 0) (v := .ref oS) (C := RX0) (T := TX0) (N := 6) hx hb hts (by decide +kernel) hown hK hP 1 rfl rfl 2 (by decide) (hts (.fieldLink RX8 50 "UnibusMachine$Bus" "status" "LUnibusMachine$Status;") (by decide +kernel)) (fun _ h9 => h9) rfl dX8_register_28 ?_
        refine va_get (D := (dC, dI)) (ci := 6) (v := .int 0) (C := RX7) (T := TX7) (N := 2) hx hb hts (by decide +kernel) hown hK hP 2 rfl rfl 0 (by decide) (hts (.fieldLink RX8 54 "UnibusMachine$Status" "now" "I") (by decide +kernel)) (fun _ h9 => h9) rfl dX8_register_31 ?_
        have hP9 := hP.sub (ws' := []) [] rfl
        have hD9 := hD.sub (ws' := []) [] (by decide) rfl
        have hK9 := hK.sub (tys' := []) [] rfl
        refine vx_ret ?_
        refine W.widen (k := 1) (n := 6) (Nat.le_of_ble_eq_true rfl) (Nat.le_of_ble_eq_true rfl) ?_
        exact W.iret (v := 0) hx hb hr (fun t ht hW => ⟨⟨0, (), rfl, ⟨rfl, by omega, by omega⟩, by rw [ht]; exact hP9, va_K.moved hW.alike hK9, hD9⟩, hS.F ht⟩) hS.2.2 dX8_register_34
    · have c2 := fz_nle.mp c2
      have kk9 : (9 : Int32).toInt = 9 := by decide
      have hpx9 : "java/lang/IllegalArgumentException" = "java/lang/IllegalArgumentException" ∧ ¬ (0 ≤ p0.toInt ∧ p0.toInt ≤ 9) := by exact ⟨rfl, by omega⟩
      exact vx_throw0 (names := ["java/lang/RuntimeException", "java/lang/Exception"]) (cls := "java/lang/IllegalArgumentException") (ik := 32) (ic := 34) (A := A) hx hb hlt hown (by decide) (by decide) (hts (.classLink RX8 32 "java/lang/IllegalArgumentException") (by decide +kernel)) (hts (.initialized "java/lang/IllegalArgumentException") (by decide +kernel)) (vx_hat (fun w h => hts w (List.mem_cons_of_mem _ (List.mem_append_right _ h))) (by decide +kernel) (vx_c (va_Nw.use rfl hcI) (vx_c (va_Nw.use rfl hd1) (vx_c (va_Nw.use rfl hd2) (vx_c (va_Nw.use rfl hd3) vx_n))))) (by decide +kernel) hZU hZN hS (by rw [hml]; exact hl.1) dX8_register_10 dX8_register_13 dX8_register_14 dX8_register_17 (fun x h => (htab x h).elim) (Nat.le_of_ble_eq_true rfl) (Nat.le_of_ble_eq_true rfl) (Nat.le_of_ble_eq_true rfl) (Nat.le_of_ble_eq_true rfl) hlocks (fun t hal hz hk => ⟨(), trivial, hpx9, Nat.le_trans hS.1 hz, fun q h1 h2 => (hk q (Nat.lt_of_lt_of_le h1 hS.1)).trans (hS.2.1 q h1 h2)⟩) hS.2.2 (Nat.le_of_ble_eq_true rfl) (Nat.le_of_ble_eq_true rfl)
set_option maxHeartbeats 4000000 in
set_option maxRecDepth 100000 in
theorem c_takeStatus (l : Launch) (dC : Nat → ClassId) (dI : Nat → Nat → Nat) (h0 : Nat) (ar : Nat) (oB : Nat) (oS : Nat) (sz : Nat) : Met l yX6_takeStatus wsX6_takeStatus ({ frames := 0, cells := 0, slots := 0, locals := 0 } : Room) (va_Pc [.ref h0, .int 224] (fun U => U.heap.size = sz ∧ va_P (dC, dI) vwCl [(h0, .inr (5, [.ref ar, .ref oB, .ref oS, .int 0, .int 2, .int 0, .int 0, .int 0, .int 0])), (oS, .inr (6, [.int 0, .int (-1)]))] U.heap ∧ va_K (dC, dI) vwCl [] U ∧ va_D (fun _ => True) [(h0, .inr (5, [.ref ar, .ref oB, .ref oS, .int 0, .int 2, .int 0, .int 0, .int 0, .int 0])), (oS, .inr (6, [.int 0, .int (-1)]))])) (va_Qv (fun (u : Unit) => True) (fun (u : Unit) (t : State) => va_P (dC, dI) vwCl [(h0, .inr (5, [.ref ar, .ref oB, .ref oS, .int 0, .int 2, .int 0, .int 0, .int 0, .int 0])), (oS, .inr (6, [.int 224, .int (-1)]))] t.heap ∧ va_K (dC, dI) vwCl [] t ∧ va_D (va_A [(h0, .inr (5, [.ref ar, .ref oB, .ref oS, .int 0, .int 2, .int 0, .int 0, .int 0, .int 0])), (oS, .inr (6, [.int 0, .int (-1)]))] sz) [(h0, .inr (5, [.ref ar, .ref oB, .ref oS, .int 0, .int 2, .int 0, .int 0, .int 0, .int 0])), (oS, .inr (6, [.int 224, .int (-1)]))]) (va_A [(h0, .inr (5, [.ref ar, .ref oB, .ref oS, .int 0, .int 2, .int 0, .int 0, .int 0, .int 0])), (oS, .inr (6, [.int 0, .int (-1)]))] sz)) 0 0 (va_A [(h0, .inr (5, [.ref ar, .ref oB, .ref oS, .int 0, .int 2, .int 0, .int 0, .int 0, .int 0])), (oS, .inr (6, [.int 0, .int (-1)]))] sz) := by
  refine Met.ofW (cc := cX6_takeStatus) (maxL := 3) (ret := none) (by decide) rfl ?_
  intro p e s m args below meth c s₁ B hml hv
  obtain ⟨rfl, hsz, hP, hK, hD0⟩ := hv
  have hx := B.exec
  have hb := B.bytes
  have hr := B.returns
  have hts := atoms_spec (ws := wsX6_takeStatus) B.pre
  have hown : s.vm.findClass RX6 = some m.cls := findClass_of_methodNamed B.named
  have hlocks := B.notSynchronized
  subst hsz
  have hD := hD0.self (sz := s.heap.size)
  generalize hAe : va_A [(h0, .inr (5, [.ref ar, .ref oB, .ref oS, .int 0, .int 2, .int 0, .int 0, .int 0, .int 0])), (oS, .inr (6, [.int 0, .int (-1)]))] s.heap.size = A at hD ⊢
  have hA : ∀ q : Nat, s.heap.size ≤ q → A q := fun q h => by rw [← hAe]; exact Or.inr h
  have hS0 : ∀ G : Heap, s.heap = G → va_S A s.heap G [] := fun G h => by subst h; exact va_S.rf
  generalize hHe : s.heap = H at hP ⊢
  have hS := hS0 H hHe
  have hP : va_P (dC, dI) vwCl [(h0, .inr (5, [.ref ar, .ref oB, .ref oS, .int 0, .int 2, .int 0, .int 0, .int 0, .int 0])), (oS, .inr (6, [.int 0, .int (-1)]))] H := hP
  have hD : va_D A [(h0, .inr (5, [.ref ar, .ref oB, .ref oS, .int 0, .int 2, .int 0, .int 0, .int 0, .int 0])), (oS, .inr (6, [.int 0, .int (-1)]))] := hD
  have hK : va_K (dC, dI) vwCl [] s := hK
  have hl := lv_entry ([.ref h0, .int 224]) (n := 3) (Nat.le_of_ble_eq_true rfl)
  rw [lg_entry_eq]
  generalize (lg_sl ([.ref h0, .int 224]) ++ List.replicate (3 - (lg_sl ([.ref h0, .int 224])).length) Slot.unset).toArray = ls at hl ⊢
  have hl : lv_has ls 3 [(0, .ref h0), (1, .int 224)] := hl
  refine lv_iload_n hx hb dX6_takeStatus_0 rfl (lv_at hl 1 rfl) ?_
  refine lv_aload_n hx hb dX6_takeStatus_1 rfl (lv_at hl 0 rfl) ?_
  refine va_get (D := (dC, dI)) (ci := 5) (v := .ref oS) (C := RX6) (T := TX6) (N := 9) hx hb hts (by decide +kernel) hown hK hP 0 rfl rfl 2 (by decide) (hts (.fieldLink RX6 43 "UnibusMachine$Processor" "status" "LUnibusMachine$Status;") (by decide +kernel)) (fun _ h9 => h9) rfl dX6_takeStatus_2 ?_
  refine va_get (D := (dC, dI)) (ci := 6) (v := .int 0) (C := RX7) (T := TX7) (N := 2) hx hb hts (by decide +kernel) hown hK hP 1 rfl rfl 0 (by decide) (hts (.fieldLink RX6 44 "UnibusMachine$Status" "now" "I") (by decide +kernel)) (fun _ h9 => h9) rfl dX6_takeStatus_5 ?_
  refine lv_ixor hx hb dX6_takeStatus_8 ?_
  refine lv_topi (fun y1 ey1 => ?_)
  obtain rfl : y1 = 224 := by rw [ey1]; decide
  refine lv_sipush (v := 16384) hx hb dX6_takeStatus_9 (by decide) ?_
  refine lv_iand hx hb dX6_takeStatus_12 ?_
  refine lv_topi (fun y2 ey2 => ?_)
  obtain rfl : y2 = 0 := by rw [ey2]; decide
  refine lv_if_eq (tgt := 40) hx hb dX6_takeStatus_13 (by decide) (fun c3 => ?_) (fun c3 => ?_)
  · skip
    refine lv_aload_n hx hb dX6_takeStatus_40 rfl (lv_at hl 0 rfl) ?_
    refine va_get (D := (dC, dI)) (ci := 5) (v := .ref oS) (C := RX6) (T := TX6) (N := 9) hx hb hts (by decide +kernel) hown hK hP 0 rfl rfl 2 (by decide) (hts (.fieldLink RX6 43 "UnibusMachine$Processor" "status" "LUnibusMachine$Status;") (by decide +kernel)) (fun _ h9 => h9) rfl dX6_takeStatus_41 ?_
    refine lv_iload_n hx hb dX6_takeStatus_44 rfl (lv_at hl 1 rfl) ?_
    refine va_put (D := (dC, dI)) (ci := 6) (v := .int 224) (ty := .int) (C := RX7) (T := TX7) (N := 2) hx hb hts (by decide +kernel) tyX7 tyX7_ok nmX7 hown hK hP hD hS 1 rfl rfl 0 (by decide) (hts (.fieldLink RX6 44 "UnibusMachine$Status" "now" "I") (by decide +kernel)) (fun _ h9 => h9) rfl (by decide +kernel) rfl rfl (Nat.le_of_ble_eq_true rfl) dX6_takeStatus_45 (fun H locs hP hD hS => ?_)
    have hP : va_P (dC, dI) vwCl [(h0, .inr (5, [.ref ar, .ref oB, .ref oS, .int 0, .int 2, .int 0, .int 0, .int 0, .int 0])), (oS, .inr (6, [.int 224, .int (-1)]))] H := hP
    have hD : va_D A [(h0, .inr (5, [.ref ar, .ref oB, .ref oS, .int 0, .int 2, .int 0, .int 0, .int 0, .int 0])), (oS, .inr (6, [.int 224, .int (-1)]))] := hD
    have hP9 := hP.sub (ws' := [(h0, .inr (5, [.ref ar, .ref oB, .ref oS, .int 0, .int 2, .int 0, .int 0, .int 0, .int 0])), (oS, .inr (6, [.int 224, .int (-1)]))]) [0, 1] rfl
    have hD9 := hD.sub (ws' := [(h0, .inr (5, [.ref ar, .ref oB, .ref oS, .int 0, .int 2, .int 0, .int 0, .int 0, .int 0])), (oS, .inr (6, [.int 224, .int (-1)]))]) [0, 1] (by decide) rfl
    have hK9 := hK.sub (tys' := []) [] rfl
    exact W.vret hx hb hr (fun t ht hW => ⟨⟨(), rfl, trivial, by rw [ht]; exact hP9, va_K.moved hW.alike hK9, hD9⟩, hS.F ht⟩) hS.2.2 dX6_takeStatus_48
  · exact absurd c3 (by decide)
set_option maxHeartbeats 4000000 in
set_option maxRecDepth 100000 in
theorem c_start (l : Launch) (dC : Nat → ClassId) (dI : Nat → Nat → Nat) (h0 : Nat) (oB : Nat) (oP : Nat) (oS : Nat) (ar : Nat) (tr : ClassId) (p0 : Int32) (sz : Nat) (hlt : l.stackTraces = false) : vx_Met l yX8_start wsX8_start ({ frames := 6, cells := 1, slots := 6, locals := 81 } : Room) (va_Pc [.ref h0, .int p0] (fun U => U.heap.size = sz ∧ va_P (dC, dI) vwCl [(h0, .inr (7, [.ref oB, .ref oP])), (oP, .inr (5, [.ref ar, .ref oB, .ref oS, .int 0, .int 2, .int 0, .int 0, .int 0, .int 0])), (oS, .inr (6, [.int 0, .int (-1)])), (ar, .inl (tr, 8, .inl (fun _ => 0)))] U.heap ∧ va_K (dC, dI) vwCl [(tr, .int)] U ∧ va_D (fun _ => True) [(h0, .inr (7, [.ref oB, .ref oP])), (oP, .inr (5, [.ref ar, .ref oB, .ref oS, .int 0, .int 2, .int 0, .int 0, .int 0, .int 0])), (oS, .inr (6, [.int 0, .int (-1)])), (ar, .inl (tr, 8, .inl (fun _ => 0)))] ∧ vx_Zq Bundle.tN "UNASSIGNED_STACK" Bundle.steD (va_A [(h0, .inr (7, [.ref oB, .ref oP])), (oP, .inr (5, [.ref ar, .ref oB, .ref oS, .int 0, .int 2, .int 0, .int 0, .int 0, .int 0])), (oS, .inr (6, [.int 0, .int (-1)])), (ar, .inl (tr, 8, .inl (fun _ => 0)))] sz) U U.heap ∧ vx_Zq Bundle.tN "SUPPRESSED_SENTINEL" Bundle.listD (va_A [(h0, .inr (7, [.ref oB, .ref oP])), (oP, .inr (5, [.ref ar, .ref oB, .ref oS, .int 0, .int 2, .int 0, .int 0, .int 0, .int 0])), (oS, .inr (6, [.int 0, .int (-1)])), (ar, .inl (tr, 8, .inl (fun _ => 0)))] sz) U U.heap ∧ va_Nw (.declares (Bundle.init0 "java/lang/RuntimeException")) U ∧ va_Nw (.declares (Bundle.init0 "java/lang/Exception")) U ∧ va_Nw (.declares (Bundle.init0 Bundle.tN)) U ∧ va_Nw (.castable "java/lang/IllegalArgumentException" "java/lang/IllegalArgumentException") U)) (va_Qv (fun (u : Unit) => 0 ≤ p0.toInt ∧ p0.toInt ≤ 65535) (fun (u : Unit) (t : State) => va_P (dC, dI) vwCl [] t.heap ∧ va_K (dC, dI) vwCl [] t ∧ va_D (va_A [(h0, .inr (7, [.ref oB, .ref oP])), (oP, .inr (5, [.ref ar, .ref oB, .ref oS, .int 0, .int 2, .int 0, .int 0, .int 0, .int 0])), (oS, .inr (6, [.int 0, .int (-1)])), (ar, .inl (tr, 8, .inl (fun _ => 0)))] sz) []) (va_A [(h0, .inr (7, [.ref oB, .ref oP])), (oP, .inr (5, [.ref ar, .ref oB, .ref oS, .int 0, .int 2, .int 0, .int 0, .int 0, .int 0])), (oS, .inr (6, [.int 0, .int (-1)])), (ar, .inl (tr, 8, .inl (fun _ => 0)))] sz)) (vx_X (fun _ : Unit => True) (fun (E : String) (_ : Unit) (_ : State) => E = "java/lang/IllegalArgumentException" ∧ ¬ (0 ≤ p0.toInt ∧ p0.toInt ≤ 65535)) (va_A [(h0, .inr (7, [.ref oB, .ref oP])), (oP, .inr (5, [.ref ar, .ref oB, .ref oS, .int 0, .int 2, .int 0, .int 0, .int 0, .int 0])), (oS, .inr (6, [.int 0, .int (-1)])), (ar, .inl (tr, 8, .inl (fun _ => 0)))] sz)) 1 6 (va_A [(h0, .inr (7, [.ref oB, .ref oP])), (oP, .inr (5, [.ref ar, .ref oB, .ref oS, .int 0, .int 2, .int 0, .int 0, .int 0, .int 0])), (oS, .inr (6, [.int 0, .int (-1)])), (ar, .inl (tr, 8, .inl (fun _ => 0)))] sz) := by
  refine vx_ofW (cc := cX8_start) (maxL := 2) (ret := none) (by decide) rfl ?_
  intro p e s m args below meth c s₁ B hml htab hv
  obtain ⟨rfl, hsz, hP, hK, hD0, hZU, hZN, hd1, hd2, hd3, hcI⟩ := hv
  have hx := B.exec
  have hb := B.bytes
  have hr := B.returns
  have hts := atoms_spec (ws := wsX8_start) B.pre
  have hown : s.vm.findClass RX8 = some m.cls := findClass_of_methodNamed B.named
  have hlocks := B.notSynchronized
  subst hsz
  have hD := hD0.self (sz := s.heap.size)
  generalize hAe : va_A [(h0, .inr (7, [.ref oB, .ref oP])), (oP, .inr (5, [.ref ar, .ref oB, .ref oS, .int 0, .int 2, .int 0, .int 0, .int 0, .int 0])), (oS, .inr (6, [.int 0, .int (-1)])), (ar, .inl (tr, 8, .inl (fun _ => 0)))] s.heap.size = A at hD hZU hZN ⊢
  have hA : ∀ q : Nat, s.heap.size ≤ q → A q := fun q h => by rw [← hAe]; exact Or.inr h
  have hS0 : ∀ G : Heap, s.heap = G → va_S A s.heap G [] := fun G h => by subst h; exact va_S.rf
  generalize hHe : s.heap = H at hP ⊢
  have hS := hS0 H hHe
  have hP : va_P (dC, dI) vwCl [(h0, .inr (7, [.ref oB, .ref oP])), (oP, .inr (5, [.ref ar, .ref oB, .ref oS, .int 0, .int 2, .int 0, .int 0, .int 0, .int 0])), (oS, .inr (6, [.int 0, .int (-1)])), (ar, .inl (tr, 8, .inl (fun _ => 0)))] H := hP
  have hD : va_D A [(h0, .inr (7, [.ref oB, .ref oP])), (oP, .inr (5, [.ref ar, .ref oB, .ref oS, .int 0, .int 2, .int 0, .int 0, .int 0, .int 0])), (oS, .inr (6, [.int 0, .int (-1)])), (ar, .inl (tr, 8, .inl (fun _ => 0)))] := hD
  have hK : va_K (dC, dI) vwCl [(tr, .int)] s := hK
  have hl := lv_entry ([.ref h0, .int p0]) (n := 2) (Nat.le_of_ble_eq_true rfl)
  rw [lg_entry_eq]
  generalize (lg_sl ([.ref h0, .int p0]) ++ List.replicate (2 - (lg_sl ([.ref h0, .int p0])).length) Slot.unset).toArray = ls at hl ⊢
  have hl : lv_has ls 2 [(0, .ref h0), (1, .int p0)] := hl
  refine lv_iload_n hx hb dX8_start_0 rfl (lv_at hl 1 rfl) ?_
  have hPc := hP.sub (ws' := []) [] rfl
  have hDc := hD.sub (ws' := []) [] (by decide) rfl
  have hKc := hK.sub (tys' := []) [] rfl
  have hFc := va_free (wc := []) hD hS hA [] rfl
  refine va_calli (va_runS (As := [.int p0]) (rest := []) ⟨hx, hb, hml, hown, hts⟩ (c_isWord l dC dI p0 H.size) (va_cwS 1 hts gX8_start_X8_isWord rfl rfl rfl (by decide +kernel) ⟨Nat.le_of_ble_eq_true rfl, Nat.le_of_ble_eq_true rfl⟩) ⟨fun a U g mk q => by obtain ⟨q0, q1, qP, qK, qD⟩ := q; exact ⟨q0, q1, qP, va_K.moved (u := U) (U := U.calling g mk a) (Vm.Alike.refl U.vm) qK, qD⟩, fun U hU hW => ⟨rfl, by rw [hU], by rw [hU]; exact hPc, va_K.moved hW.alike hKc, hDc.weaken (fun _ _ _ _ => trivial)⟩⟩ rfl rfl hl.1 rfl (lv_room (Nat.le_of_ble_eq_true rfl)) dX8_start_1 ⟨Nat.le_of_ble_eq_true rfl, Nat.le_of_ble_eq_true rfl⟩) hS (fun q _ h => hFc q h) hFc (fun r1 u2 t H1 locs ht hvm hw hB hz1 hk1 hS => ?_)
  obtain ⟨hP1, hK1, hD1⟩ := hB
  rw [ht] at hP1
  have hK1 := va_K.moved hvm.symm hK1
  try dsimp only at hw
  obtain ⟨hP, hD⟩ := va_join (wr := [(h0, .inr (7, [.ref oB, .ref oP])), (oP, .inr (5, [.ref ar, .ref oB, .ref oS, .int 0, .int 2, .int 0, .int 0, .int 0, .int 0])), (oS, .inr (6, [.int 0, .int (-1)])), (ar, .inl (tr, 8, .inl (fun _ => 0)))]) (w1 := []) hP hD [] [0, 1, 2, 3] rfl rfl (by decide) (by decide) hk1 hFc hP1 hD1
  have hK := (hK.sub (tys' := [(tr, .int)]) [0] rfl).app hK1
  generalize H1 = H at hP hS ⊢
  have hP : va_P (dC, dI) vwCl [(h0, .inr (7, [.ref oB, .ref oP])), (oP, .inr (5, [.ref ar, .ref oB, .ref oS, .int 0, .int 2, .int 0, .int 0, .int 0, .int 0])), (oS, .inr (6, [.int 0, .int (-1)])), (ar, .inl (tr, 8, .inl (fun _ => 0)))] H := hP
  have hD : va_D A [(h0, .inr (7, [.ref oB, .ref oP])), (oP, .inr (5, [.ref ar, .ref oB, .ref oS, .int 0, .int 2, .int 0, .int 0, .int 0, .int 0])), (oS, .inr (6, [.int 0, .int (-1)])), (ar, .inl (tr, 8, .inl (fun _ => 0)))] := hD
  have hK : va_K (dC, dI) vwCl [(tr, .int)] s := hK
  rcases hw with ⟨rfl, _, _⟩ | ⟨rfl, _⟩
  · skip
    refine lv_if_ne (tgt := 15) hx hb dX8_start_4 (by decide) (fun c3 => ?_) (fun c3 => ?_)
    · skip
      refine lv_aload_n hx hb dX8_start_15 rfl (lv_at hl 0 rfl) ?_
      refine va_get (D := (dC, dI)) (ci := 7) (v := .ref oP) (C := RX8) (T := TX8) (N := 2) hx hb hts (by decide +kernel) hown hK hP 0 rfl rfl 1 (by decide) (hts (.fieldLink RX8 21 "UnibusMachine" "processor" "LUnibusMachine$Processor;") (by decide +kernel)) (fun _ h9 => h9) rfl dX8_start_16 ?_
      refine lv_sipush (v := 224) hx hb dX8_start_19 (by decide) ?_
      have hPc := hP.sub (ws' := [(oP, .inr (5, [.ref ar, .ref oB, .ref oS, .int 0, .int 2, .int 0, .int 0, .int 0, .int 0])), (oS, .inr (6, [.int 0, .int (-1)]))]) [1, 2] rfl
      have hDc := hD.sub (ws' := [(oP, .inr (5, [.ref ar, .ref oB, .ref oS, .int 0, .int 2, .int 0, .int 0, .int 0, .int 0])), (oS, .inr (6, [.int 0, .int (-1)]))]) [1, 2] (by decide) rfl
      have hKc := hK.sub (tys' := []) [] rfl
      have hFc := va_free (wc := [(oP, .inr (5, [.ref ar, .ref oB, .ref oS, .int 0, .int 2, .int 0, .int 0, .int 0, .int 0])), (oS, .inr (6, [.int 0, .int (-1)]))]) hD hS hA [1, 2] rfl
      refine va_callv (va_runV (As := [.int 224]) (rest := []) ⟨hx, hb, hml, hown, hts⟩ (c_takeStatus l dC dI oP ar oB oS H.size) (cwV 1 hts gX8_start_X6_takeStatus rfl rfl rfl (by decide +kernel) ⟨Nat.le_of_ble_eq_true rfl, Nat.le_of_ble_eq_true rfl⟩) ⟨fun a U g mk q => by obtain ⟨q0, q1, qP, qK, qD⟩ := q; exact ⟨q0, q1, qP, va_K.moved (u := U) (U := U.calling g mk a) (Vm.Alike.refl U.vm) qK, qD⟩, va_recv hKc hPc (ci := 5) (q0 := 0) rfl rfl, fun U hU hW => ⟨rfl, by rw [hU], by rw [hU]; exact hPc, va_K.moved hW.alike hKc, hDc.weaken (fun _ _ _ _ => trivial)⟩⟩ rfl rfl hl.1 rfl (lv_room (Nat.le_of_ble_eq_true rfl)) dX8_start_22 ⟨Nat.le_of_ble_eq_true rfl, Nat.le_of_ble_eq_true rfl⟩) hS (fun q _ h => hFc q h) hFc (fun u5 t H1 locs ht hvm hw hB hz1 hk1 hS => ?_)
      obtain ⟨hP1, hK1, hD1⟩ := hB
      rw [ht] at hP1
      have hK1 := va_K.moved hvm.symm hK1
      try dsimp only at hw
      obtain ⟨hP, hD⟩ := va_join (wr := [(h0, .inr (7, [.ref oB, .ref oP])), (ar, .inl (tr, 8, .inl (fun _ => 0)))]) (w1 := [(oP, .inr (5, [.ref ar, .ref oB, .ref oS, .int 0, .int 2, .int 0, .int 0, .int 0, .int 0])), (oS, .inr (6, [.int 224, .int (-1)]))]) hP hD [1, 2] [0, 3] rfl rfl (by decide) (by decide) hk1 hFc hP1 hD1
      have hK := (hK.sub (tys' := [(tr, .int)]) [0] rfl).app hK1
      generalize H1 = H at hP hS ⊢
      have hP : va_P (dC, dI) vwCl [(h0, .inr (7, [.ref oB, .ref oP])), (ar, .inl (tr, 8, .inl (fun _ => 0))), (oP, .inr (5, [.ref ar, .ref oB, .ref oS, .int 0, .int 2, .int 0, .int 0, .int 0, .int 0])), (oS, .inr (6, [.int 224, .int (-1)]))] H := hP
      have hD : va_D A [(h0, .inr (7, [.ref oB, .ref oP])), (ar, .inl (tr, 8, .inl (fun _ => 0))), (oP, .inr (5, [.ref ar, .ref oB, .ref oS, .int 0, .int 2, .int 0, .int 0, .int 0, .int 0])), (oS, .inr (6, [.int 224, .int (-1)]))] := hD
      have hK : va_K (dC, dI) vwCl [(tr, .int)] s := hK
      refine lv_aload_n hx hb dX8_start_25 rfl (lv_at hl 0 rfl) ?_
      refine va_get (D := (dC, dI)) (ci := 7) (v := .ref oP) (C := RX8) (T := TX8) (N := 2) hx hb hts (by decide +kernel) hown hK hP 0 rfl rfl 1 (by decide) (hts (.fieldLink RX8 21 "UnibusMachine" "processor" "LUnibusMachine$Processor;") (by decide +kernel)) (fun _ h9 => h9) rfl dX8_start_26 ?_
      refine va_get (D := (dC, dI)) (ci := 5) (v := .ref ar) (C := RX6) (T := TX6) (N := 9) hx hb hts (by decide +kernel) hown hK hP 2 rfl rfl 0 (by decide) (hts (.fieldLink RX8 47 "UnibusMachine$Processor" "registers" "[I") (by decide +kernel)) (fun _ h9 => h9) rfl dX8_start_29 ?_
      refine lv_bipush (v := 7) hx hb dX8_start_32 (by decide) ?_
      refine lv_iload_n hx hb dX8_start_34 rfl (lv_at hl 1 rfl) ?_
      refine va_iast (D := (dC, dI)) hx hb hK hP hD hS 1 0 rfl rfl (vp_in_iff.mpr (by decide)) dX8_start_35 (fun H locs hP hD hS => ?_)
      have hP : va_P (dC, dI) vwCl [(h0, .inr (7, [.ref oB, .ref oP])), (ar, .inl (tr, 8, .inl (upd (fun _ => 0) (7 : Int32).toNatClampNeg p0))), (oP, .inr (5, [.ref ar, .ref oB, .ref oS, .int 0, .int 2, .int 0, .int 0, .int 0, .int 0])), (oS, .inr (6, [.int 224, .int (-1)]))] H := hP
      have hD : va_D A [(h0, .inr (7, [.ref oB, .ref oP])), (ar, .inl (tr, 8, .inl (upd (fun _ => 0) (7 : Int32).toNatClampNeg p0))), (oP, .inr (5, [.ref ar, .ref oB, .ref oS, .int 0, .int 2, .int 0, .int 0, .int 0, .int 0])), (oS, .inr (6, [.int 224, .int (-1)]))] := hD
      refine lv_aload_n hx hb dX8_start_36 rfl (lv_at hl 0 rfl) ?_
      refine va_get (D := (dC, dI)) (ci := 7) (v := .ref oP) (C := RX8) (T := TX8) (N := 2) hx hb hts (by decide +kernel) hown hK hP 0 rfl rfl 1 (by decide) (hts (.fieldLink RX8 21 "UnibusMachine" "processor" "LUnibusMachine$Processor;") (by decide +kernel)) (fun _ h9 => h9) rfl dX8_start_37 ?_
      refine lv_iconst (v := 0) hx hb dX8_start_40 (by decide) ?_
      refine va_put (D := (dC, dI)) (ci := 5) (v := .int 0) (ty := .int) (C := RX6) (T := TX6) (N := 9) hx hb hts (by decide +kernel) tyX6 tyX6_ok nmX6 hown hK hP hD hS 2 rfl rfl 4 (by decide) (hts (.fieldLink RX8 63 "UnibusMachine$Processor" "halted" "I") (by decide +kernel)) (fun _ h9 => h9) rfl (by decide +kernel) rfl rfl (Nat.le_of_ble_eq_true rfl) dX8_start_41 (fun H locs hP hD hS => ?_)
      have hP : va_P (dC, dI) vwCl [(h0, .inr (7, [.ref oB, .ref oP])), (ar, .inl (tr, 8, .inl (upd (fun _ => 0) (7 : Int32).toNatClampNeg p0))), (oP, .inr (5, [.ref ar, .ref oB, .ref oS, .int 0, .int 0, .int 0, .int 0, .int 0, .int 0])), (oS, .inr (6, [.int 224, .int (-1)]))] H := hP
      have hD : va_D A [(h0, .inr (7, [.ref oB, .ref oP])), (ar, .inl (tr, 8, .inl (upd (fun _ => 0) (7 : Int32).toNatClampNeg p0))), (oP, .inr (5, [.ref ar, .ref oB, .ref oS, .int 0, .int 0, .int 0, .int 0, .int 0, .int 0])), (oS, .inr (6, [.int 224, .int (-1)]))] := hD
      refine lv_aload_n hx hb dX8_start_44 rfl (lv_at hl 0 rfl) ?_
      refine va_get (D := (dC, dI)) (ci := 7) (v := .ref oP) (C := RX8) (T := TX8) (N := 2) hx hb hts (by decide +kernel) hown hK hP 0 rfl rfl 1 (by decide) (hts (.fieldLink RX8 21 "UnibusMachine" "processor" "LUnibusMachine$Processor;") (by decide +kernel)) (fun _ h9 => h9) rfl dX8_start_45 ?_
      refine lv_iconst (v := 0) hx hb dX8_start_48 (by decide) ?_
      refine va_put (D := (dC, dI)) (ci := 5) (v := .int 0) (ty := .boolean) (C := RX6) (T := TX6) (N := 9) hx hb hts (by decide +kernel) tyX6 tyX6_ok nmX6 hown hK hP hD hS 2 rfl rfl 5 (by decide) (hts (.fieldLink RX8 66 "UnibusMachine$Processor" "waiting" "Z") (by decide +kernel)) (fun _ h9 => h9) rfl (by decide +kernel) (by decide) rfl (Nat.le_of_ble_eq_true rfl) dX8_start_49 (fun H locs hP hD hS => ?_)
      have hP : va_P (dC, dI) vwCl [(h0, .inr (7, [.ref oB, .ref oP])), (ar, .inl (tr, 8, .inl (upd (fun _ => 0) (7 : Int32).toNatClampNeg p0))), (oP, .inr (5, [.ref ar, .ref oB, .ref oS, .int 0, .int 0, .int 0, .int 0, .int 0, .int 0])), (oS, .inr (6, [.int 224, .int (-1)]))] H := hP
      have hD : va_D A [(h0, .inr (7, [.ref oB, .ref oP])), (ar, .inl (tr, 8, .inl (upd (fun _ => 0) (7 : Int32).toNatClampNeg p0))), (oP, .inr (5, [.ref ar, .ref oB, .ref oS, .int 0, .int 0, .int 0, .int 0, .int 0, .int 0])), (oS, .inr (6, [.int 224, .int (-1)]))] := hD
      have hP9 := hP.sub (ws' := []) [] rfl
      have hD9 := hD.sub (ws' := []) [] (by decide) rfl
      have hK9 := hK.sub (tys' := []) [] rfl
      refine vx_ret ?_
      refine W.widen (k := 1) (n := 6) (Nat.le_of_ble_eq_true rfl) (Nat.le_of_ble_eq_true rfl) ?_
      exact W.vret hx hb hr (fun t ht hW => ⟨⟨(), rfl, (by omega), by rw [ht]; exact hP9, va_K.moved hW.alike hK9, hD9⟩, hS.F ht⟩) hS.2.2 dX8_start_52
    · exact absurd c3 (by decide)
  · skip
    refine lv_if_ne (tgt := 15) hx hb dX8_start_4 (by decide) (fun c6 => ?_) (fun c6 => ?_)
    · exact absurd c6 (by decide)
    · skip
      have hpx9 : "java/lang/IllegalArgumentException" = "java/lang/IllegalArgumentException" ∧ ¬ (0 ≤ p0.toInt ∧ p0.toInt ≤ 65535) := by exact ⟨rfl, by omega⟩
      exact vx_throw0 (names := ["java/lang/RuntimeException", "java/lang/Exception"]) (cls := "java/lang/IllegalArgumentException") (ik := 32) (ic := 34) (A := A) hx hb hlt hown (by decide) (by decide) (hts (.classLink RX8 32 "java/lang/IllegalArgumentException") (by decide +kernel)) (hts (.initialized "java/lang/IllegalArgumentException") (by decide +kernel)) (vx_hat (fun w h => hts w (List.mem_cons_of_mem _ (List.mem_append_right _ h))) (by decide +kernel) (vx_c (va_Nw.use rfl hcI) (vx_c (va_Nw.use rfl hd1) (vx_c (va_Nw.use rfl hd2) (vx_c (va_Nw.use rfl hd3) vx_n))))) (by decide +kernel) hZU hZN hS (by rw [hml]; exact hl.1) dX8_start_7 dX8_start_10 dX8_start_11 dX8_start_14 (fun x h => (htab x h).elim) (Nat.le_of_ble_eq_true rfl) (Nat.le_of_ble_eq_true rfl) (Nat.le_of_ble_eq_true rfl) (Nat.le_of_ble_eq_true rfl) hlocks (fun t hal hz hk => ⟨(), trivial, hpx9, Nat.le_trans hS.1 hz, fun q h1 h2 => (hk q (Nat.lt_of_lt_of_le h1 hS.1)).trans (hS.2.1 q h1 h2)⟩) hS.2.2 (Nat.le_of_ble_eq_true rfl) (Nat.le_of_ble_eq_true rfl)
set_option maxHeartbeats 4000000 in
set_option maxRecDepth 100000 in
theorem c_run (l : Launch) (dC : Nat → ClassId) (dI : Nat → Nat → Nat) (h0 : Nat) (oB : Nat) (oP : Nat) (oS : Nat) (ar : Nat) (p0 : Int32) (sz : Nat) (hlt : l.stackTraces = false) : vx_Met l yX8_run wsX8_run ({ frames := 6, cells := 1, slots := 6, locals := 81 } : Room) (va_Pc [.ref h0, .int p0] (fun U => U.heap.size = sz ∧ va_P (dC, dI) vwCl [(h0, .inr (7, [.ref oB, .ref oP])), (oP, .inr (5, [.ref ar, .ref oB, .ref oS, .int 0, .int 2, .int 0, .int 0, .int 0, .int 0]))] U.heap ∧ va_K (dC, dI) vwCl [] U ∧ va_D (fun _ => True) [(h0, .inr (7, [.ref oB, .ref oP])), (oP, .inr (5, [.ref ar, .ref oB, .ref oS, .int 0, .int 2, .int 0, .int 0, .int 0, .int 0]))] ∧ vx_Zq Bundle.tN "UNASSIGNED_STACK" Bundle.steD (va_A [(h0, .inr (7, [.ref oB, .ref oP])), (oP, .inr (5, [.ref ar, .ref oB, .ref oS, .int 0, .int 2, .int 0, .int 0, .int 0, .int 0]))] sz) U U.heap ∧ vx_Zq Bundle.tN "SUPPRESSED_SENTINEL" Bundle.listD (va_A [(h0, .inr (7, [.ref oB, .ref oP])), (oP, .inr (5, [.ref ar, .ref oB, .ref oS, .int 0, .int 2, .int 0, .int 0, .int 0, .int 0]))] sz) U U.heap ∧ va_Nw (.declares (Bundle.init0 "java/lang/RuntimeException")) U ∧ va_Nw (.declares (Bundle.init0 "java/lang/Exception")) U ∧ va_Nw (.declares (Bundle.init0 Bundle.tN)) U ∧ va_Nw (.castable "java/lang/IllegalArgumentException" "java/lang/IllegalArgumentException") U ∧ va_Nw (.castable "java/lang/IllegalStateException" "java/lang/IllegalStateException") U)) (va_Qi (fun (r : Int32) (u : Unit) => False) (fun (u : Unit) (t : State) => va_P (dC, dI) vwCl [] t.heap ∧ va_K (dC, dI) vwCl [] t ∧ va_D (va_A [(h0, .inr (7, [.ref oB, .ref oP])), (oP, .inr (5, [.ref ar, .ref oB, .ref oS, .int 0, .int 2, .int 0, .int 0, .int 0, .int 0]))] sz) []) (va_A [(h0, .inr (7, [.ref oB, .ref oP])), (oP, .inr (5, [.ref ar, .ref oB, .ref oS, .int 0, .int 2, .int 0, .int 0, .int 0, .int 0]))] sz)) (vx_X (fun _ : Unit => True) (fun (E : String) (_ : Unit) (_ : State) => (E = "java/lang/IllegalArgumentException" ∧ ¬ (1 ≤ p0.toInt ∧ p0.toInt ≤ 40)) ∨ (E = "java/lang/IllegalStateException" ∧ 1 ≤ p0.toInt ∧ p0.toInt ≤ 40)) (va_A [(h0, .inr (7, [.ref oB, .ref oP])), (oP, .inr (5, [.ref ar, .ref oB, .ref oS, .int 0, .int 2, .int 0, .int 0, .int 0, .int 0]))] sz)) 1 6 (va_A [(h0, .inr (7, [.ref oB, .ref oP])), (oP, .inr (5, [.ref ar, .ref oB, .ref oS, .int 0, .int 2, .int 0, .int 0, .int 0, .int 0]))] sz) := by
  refine vx_ofW (cc := cX8_run) (maxL := 3) (ret := (some .int)) (by decide) rfl ?_
  intro p e s m args below meth c s₁ B hml htab hv
  obtain ⟨rfl, hsz, hP, hK, hD0, hZU, hZN, hd1, hd2, hd3, hcI, hcS⟩ := hv
  have hx := B.exec
  have hb := B.bytes
  have hr := B.returns
  have hts := atoms_spec (ws := wsX8_run) B.pre
  have hown : s.vm.findClass RX8 = some m.cls := findClass_of_methodNamed B.named
  have hlocks := B.notSynchronized
  subst hsz
  have hD := hD0.self (sz := s.heap.size)
  generalize hAe : va_A [(h0, .inr (7, [.ref oB, .ref oP])), (oP, .inr (5, [.ref ar, .ref oB, .ref oS, .int 0, .int 2, .int 0, .int 0, .int 0, .int 0]))] s.heap.size = A at hD hZU hZN ⊢
  have hA : ∀ q : Nat, s.heap.size ≤ q → A q := fun q h => by rw [← hAe]; exact Or.inr h
  have hS0 : ∀ G : Heap, s.heap = G → va_S A s.heap G [] := fun G h => by subst h; exact va_S.rf
  generalize hHe : s.heap = H at hP ⊢
  have hS := hS0 H hHe
  have hP : va_P (dC, dI) vwCl [(h0, .inr (7, [.ref oB, .ref oP])), (oP, .inr (5, [.ref ar, .ref oB, .ref oS, .int 0, .int 2, .int 0, .int 0, .int 0, .int 0]))] H := hP
  have hD : va_D A [(h0, .inr (7, [.ref oB, .ref oP])), (oP, .inr (5, [.ref ar, .ref oB, .ref oS, .int 0, .int 2, .int 0, .int 0, .int 0, .int 0]))] := hD
  have hK : va_K (dC, dI) vwCl [] s := hK
  have hl := lv_entry ([.ref h0, .int p0]) (n := 3) (Nat.le_of_ble_eq_true rfl)
  rw [lg_entry_eq]
  generalize (lg_sl ([.ref h0, .int p0]) ++ List.replicate (3 - (lg_sl ([.ref h0, .int p0])).length) Slot.unset).toArray = ls at hl ⊢
  have hl : lv_has ls 3 [(0, .ref h0), (1, .int p0)] := hl
  have kk1 : (1 : Int32).toInt = 1 := by decide
  have kk40 : (40 : Int32).toInt = 40 := by decide
  refine lv_iload_n hx hb dX8_run_0 rfl (lv_at hl 1 rfl) ?_
  refine lv_iconst (v := 1) hx hb dX8_run_1 (by decide) ?_
  refine lv_icmp_lt (tgt := 11) hx hb dX8_run_2 (by decide) (fun c1 => ?_) (fun c1 => ?_)
  · have c1 := fz_lt.mp c1
    have kk1 : (1 : Int32).toInt = 1 := by decide
    have hpx9 : ("java/lang/IllegalArgumentException" = "java/lang/IllegalArgumentException" ∧ ¬ (1 ≤ p0.toInt ∧ p0.toInt ≤ 40)) ∨ ("java/lang/IllegalArgumentException" = "java/lang/IllegalStateException" ∧ 1 ≤ p0.toInt ∧ p0.toInt ≤ 40) := by exact Or.inl ⟨rfl, by omega⟩
    exact vx_throw0 (names := ["java/lang/RuntimeException", "java/lang/Exception"]) (cls := "java/lang/IllegalArgumentException") (ik := 32) (ic := 34) (A := A) hx hb hlt hown (by decide) (by decide) (hts (.classLink RX8 32 "java/lang/IllegalArgumentException") (by decide +kernel)) (hts (.initialized "java/lang/IllegalArgumentException") (by decide +kernel)) (vx_hat (fun w h => hts w (List.mem_cons_of_mem _ (List.mem_append_left _ (List.mem_append_right _ h)))) (by decide +kernel) (vx_c (va_Nw.use rfl hcI) (vx_c (va_Nw.use rfl hd1) (vx_c (va_Nw.use rfl hd2) (vx_c (va_Nw.use rfl hd3) vx_n))))) (by decide +kernel) hZU hZN hS (by rw [hml]; exact hl.1) dX8_run_11 dX8_run_14 dX8_run_15 dX8_run_18 (fun x h => (htab x h).elim) (Nat.le_of_ble_eq_true rfl) (Nat.le_of_ble_eq_true rfl) (Nat.le_of_ble_eq_true rfl) (Nat.le_of_ble_eq_true rfl) hlocks (fun t hal hz hk => ⟨(), trivial, hpx9, Nat.le_trans hS.1 hz, fun q h1 h2 => (hk q (Nat.lt_of_lt_of_le h1 hS.1)).trans (hS.2.1 q h1 h2)⟩) hS.2.2 (Nat.le_of_ble_eq_true rfl) (Nat.le_of_ble_eq_true rfl)
  · have c1 := fz_nlt.mp c1
    have kk1 : (1 : Int32).toInt = 1 := by decide
    refine lv_iload_n hx hb dX8_run_5 rfl (lv_at hl 1 rfl) ?_
    refine lv_bipush (v := 40) hx hb dX8_run_6 (by decide) ?_
    refine lv_icmp_le (tgt := 19) hx hb dX8_run_8 (by decide) (fun c2 => ?_) (fun c2 => ?_)
    · have c2 := fz_le.mp c2
      have kk40 : (40 : Int32).toInt = 40 := by decide
      refine lv_aload_n hx hb dX8_run_19 rfl (lv_at hl 0 rfl) ?_
      refine va_get (D := (dC, dI)) (ci := 7) (v := .ref oP) (C := RX8) (T := TX8) (N := 2) hx hb hts (by decide +kernel) hown hK hP 0 rfl rfl 1 (by decide) (hts (.fieldLink RX8 21 "UnibusMachine" "processor" "LUnibusMachine$Processor;") (by decide +kernel)) (fun _ h9 => h9) rfl dX8_run_20 ?_
      refine va_get (D := (dC, dI)) (ci := 5) (v := .int 2) (C := RX6) (T := TX6) (N := 9) hx hb hts (by decide +kernel) hown hK hP 1 rfl rfl 4 (by decide) (hts (.fieldLink RX8 63 "UnibusMachine$Processor" "halted" "I") (by decide +kernel)) (fun _ h9 => h9) rfl dX8_run_23 ?_
      refine lv_if_eq (tgt := 37) hx hb dX8_run_26 (by decide) (fun c3 => ?_) (fun c3 => ?_)
      · exact absurd c3 (by decide)
      · skip
        have hpx9 : ("java/lang/IllegalStateException" = "java/lang/IllegalArgumentException" ∧ ¬ (1 ≤ p0.toInt ∧ p0.toInt ≤ 40)) ∨ ("java/lang/IllegalStateException" = "java/lang/IllegalStateException" ∧ 1 ≤ p0.toInt ∧ p0.toInt ≤ 40) := by exact Or.inr ⟨rfl, by omega, by omega⟩
        exact vx_throw0 (names := ["java/lang/RuntimeException", "java/lang/Exception"]) (cls := "java/lang/IllegalStateException") (ik := 70) (ic := 72) (A := A) hx hb hlt hown (by decide) (by decide) (hts (.classLink RX8 70 "java/lang/IllegalStateException") (by decide +kernel)) (hts (.initialized "java/lang/IllegalStateException") (by decide +kernel)) (vx_hat (fun w h => hts w (List.mem_cons_of_mem _ (List.mem_append_right _ h))) (by decide +kernel) (vx_c (va_Nw.use rfl hcS) (vx_c (va_Nw.use rfl hd1) (vx_c (va_Nw.use rfl hd2) (vx_c (va_Nw.use rfl hd3) vx_n))))) (by decide +kernel) hZU hZN hS (by rw [hml]; exact hl.1) dX8_run_29 dX8_run_32 dX8_run_33 dX8_run_36 (fun x h => (htab x h).elim) (Nat.le_of_ble_eq_true rfl) (Nat.le_of_ble_eq_true rfl) (Nat.le_of_ble_eq_true rfl) (Nat.le_of_ble_eq_true rfl) hlocks (fun t hal hz hk => ⟨(), trivial, hpx9, Nat.le_trans hS.1 hz, fun q h1 h2 => (hk q (Nat.lt_of_lt_of_le h1 hS.1)).trans (hS.2.1 q h1 h2)⟩) hS.2.2 (Nat.le_of_ble_eq_true rfl) (Nat.le_of_ble_eq_true rfl)
    · have c2 := fz_nle.mp c2
      have kk40 : (40 : Int32).toInt = 40 := by decide
      have hpx9 : ("java/lang/IllegalArgumentException" = "java/lang/IllegalArgumentException" ∧ ¬ (1 ≤ p0.toInt ∧ p0.toInt ≤ 40)) ∨ ("java/lang/IllegalArgumentException" = "java/lang/IllegalStateException" ∧ 1 ≤ p0.toInt ∧ p0.toInt ≤ 40) := by exact Or.inl ⟨rfl, by omega⟩
      exact vx_throw0 (names := ["java/lang/RuntimeException", "java/lang/Exception"]) (cls := "java/lang/IllegalArgumentException") (ik := 32) (ic := 34) (A := A) hx hb hlt hown (by decide) (by decide) (hts (.classLink RX8 32 "java/lang/IllegalArgumentException") (by decide +kernel)) (hts (.initialized "java/lang/IllegalArgumentException") (by decide +kernel)) (vx_hat (fun w h => hts w (List.mem_cons_of_mem _ (List.mem_append_left _ (List.mem_append_right _ h)))) (by decide +kernel) (vx_c (va_Nw.use rfl hcI) (vx_c (va_Nw.use rfl hd1) (vx_c (va_Nw.use rfl hd2) (vx_c (va_Nw.use rfl hd3) vx_n))))) (by decide +kernel) hZU hZN hS (by rw [hml]; exact hl.1) dX8_run_11 dX8_run_14 dX8_run_15 dX8_run_18 (fun x h => (htab x h).elim) (Nat.le_of_ble_eq_true rfl) (Nat.le_of_ble_eq_true rfl) (Nat.le_of_ble_eq_true rfl) (Nat.le_of_ble_eq_true rfl) hlocks (fun t hal hz hk => ⟨(), trivial, hpx9, Nat.le_trans hS.1 hz, fun q h1 h2 => (hk q (Nat.lt_of_lt_of_le h1 hS.1)).trans (hS.2.1 q h1 h2)⟩) hS.2.2 (Nat.le_of_ble_eq_true rfl) (Nat.le_of_ble_eq_true rfl)
set_option maxHeartbeats 4000000 in
set_option maxRecDepth 100000 in
theorem c_become (l : Launch) (dC : Nat → ClassId) (dI : Nat → Nat → Nat) (h0 : Nat) (k0 : Int32) (sz : Nat) : Met l yX3_become wsX3_become ({ frames := 0, cells := 0, slots := 0, locals := 0 } : Room) (va_Pc [.ref h0, .int 128] (fun U => U.heap.size = sz ∧ va_P (dC, dI) vwCl [(h0, .inr (2, [.int 0, .int 0, .int k0]))] U.heap ∧ va_K (dC, dI) vwCl [] U ∧ va_D (fun _ => True) [(h0, .inr (2, [.int 0, .int 0, .int k0]))])) (va_Qv (fun (u : Unit) => True) (fun (u : Unit) (t : State) => va_P (dC, dI) vwCl [] t.heap ∧ va_K (dC, dI) vwCl [] t ∧ va_D (va_A [(h0, .inr (2, [.int 0, .int 0, .int k0]))] sz) []) (va_A [(h0, .inr (2, [.int 0, .int 0, .int k0]))] sz)) 0 0 (va_A [(h0, .inr (2, [.int 0, .int 0, .int k0]))] sz) := by
  refine Met.ofW (cc := cX3_become) (maxL := 2) (ret := none) (by decide) rfl ?_
  intro p e s m args below meth c s₁ B hml hv
  obtain ⟨rfl, hsz, hP, hK, hD0⟩ := hv
  have hx := B.exec
  have hb := B.bytes
  have hr := B.returns
  have hts := atoms_spec (ws := wsX3_become) B.pre
  have hown : s.vm.findClass RX3 = some m.cls := findClass_of_methodNamed B.named
  have hlocks := B.notSynchronized
  subst hsz
  have hD := hD0.self (sz := s.heap.size)
  generalize hAe : va_A [(h0, .inr (2, [.int 0, .int 0, .int k0]))] s.heap.size = A at hD ⊢
  have hA : ∀ q : Nat, s.heap.size ≤ q → A q := fun q h => by rw [← hAe]; exact Or.inr h
  have hS0 : ∀ G : Heap, s.heap = G → va_S A s.heap G [] := fun G h => by subst h; exact va_S.rf
  generalize hHe : s.heap = H at hP ⊢
  have hS := hS0 H hHe
  have hP : va_P (dC, dI) vwCl [(h0, .inr (2, [.int 0, .int 0, .int k0]))] H := hP
  have hD : va_D A [(h0, .inr (2, [.int 0, .int 0, .int k0]))] := hD
  have hK : va_K (dC, dI) vwCl [] s := hK
  have hl := lv_entry ([.ref h0, .int 128]) (n := 2) (Nat.le_of_ble_eq_true rfl)
  rw [lg_entry_eq]
  generalize (lg_sl ([.ref h0, .int 128]) ++ List.replicate (2 - (lg_sl ([.ref h0, .int 128])).length) Slot.unset).toArray = ls at hl ⊢
  have hl : lv_has ls 2 [(0, .ref h0), (1, .int 128)] := hl
  refine lv_aload_n hx hb dX3_become_0 rfl (lv_at hl 0 rfl) ?_
  refine lv_iload_n hx hb dX3_become_1 rfl (lv_at hl 1 rfl) ?_
  refine lv_sipush (v := 192) hx hb dX3_become_2 (by decide) ?_
  refine lv_icmp_ne (tgt := 29) hx hb dX3_become_5 (by decide) (fun c1 => ?_) (fun c1 => ?_)
  · skip
    refine lv_iconst (v := 0) hx hb dX3_become_29 (by decide) ?_
    refine va_put (D := (dC, dI)) (ci := 2) (v := .int 0) (ty := .boolean) (C := RX2) (T := TX2) (N := 3) hx hb hts (by decide +kernel) tyX2 tyX2_ok nmX2 hown hK hP hD hS 0 rfl rfl 1 (by decide) (hts (.fieldLink RX3 13 "UnibusMachine$Line" "wanting" "Z") (by decide +kernel)) (fun _ h9 => h9) rfl (by decide +kernel) (by decide) rfl (Nat.le_of_ble_eq_true rfl) dX3_become_30 (fun H locs hP hD hS => ?_)
    have hP : va_P (dC, dI) vwCl [(h0, .inr (2, [.int 0, .int 0, .int k0]))] H := hP
    have hD : va_D A [(h0, .inr (2, [.int 0, .int 0, .int k0]))] := hD
    refine lv_aload_n hx hb dX3_become_33 rfl (lv_at hl 0 rfl) ?_
    refine lv_iload_n hx hb dX3_become_34 rfl (lv_at hl 1 rfl) ?_
    refine va_put (D := (dC, dI)) (ci := 2) (v := .int 128) (ty := .int) (C := RX2) (T := TX2) (N := 3) hx hb hts (by decide +kernel) tyX2 tyX2_ok nmX2 hown hK hP hD hS 0 rfl rfl 0 (by decide) (hts (.fieldLink RX3 9 "UnibusMachine$Line" "bits" "I") (by decide +kernel)) (fun _ h9 => h9) rfl (by decide +kernel) rfl rfl (Nat.le_of_ble_eq_true rfl) dX3_become_35 (fun H locs hP hD hS => ?_)
    have hP : va_P (dC, dI) vwCl [(h0, .inr (2, [.int 128, .int 0, .int k0]))] H := hP
    have hD : va_D A [(h0, .inr (2, [.int 128, .int 0, .int k0]))] := hD
    have hP9 := hP.sub (ws' := []) [] rfl
    have hD9 := hD.sub (ws' := []) [] (by decide) rfl
    have hK9 := hK.sub (tys' := []) [] rfl
    exact W.vret hx hb hr (fun t ht hW => ⟨⟨(), rfl, trivial, by rw [ht]; exact hP9, va_K.moved hW.alike hK9, hD9⟩, hS.F ht⟩) hS.2.2 dX3_become_38
  · exact absurd c1 (by decide)
set_option maxHeartbeats 4000000 in
set_option maxRecDepth 100000 in
theorem c_type (l : Launch) (dC : Nat → ClassId) (dI : Nat → Nat → Nat) (h0 : Nat) (p0 : Int32) (sz : Nat) : Met l yX2_type wsX2_type ({ frames := 1, cells := 0, slots := 0, locals := 21 } : Room) (va_Pc [.ref h0, .int p0] (fun U => U.heap.size = sz ∧ va_P (dC, dI) vwCl [(h0, .inr (2, [.int 0, .int 0, .int 0]))] U.heap ∧ va_K (dC, dI) vwCl [] U ∧ va_D (fun _ => True) [(h0, .inr (2, [.int 0, .int 0, .int 0]))])) (va_Qv (fun (u : Unit) => True) (fun (u : Unit) (t : State) => va_P (dC, dI) vwCl [] t.heap ∧ va_K (dC, dI) vwCl [] t ∧ va_D (va_A [(h0, .inr (2, [.int 0, .int 0, .int 0]))] sz) []) (va_A [(h0, .inr (2, [.int 0, .int 0, .int 0]))] sz)) 0 0 (va_A [(h0, .inr (2, [.int 0, .int 0, .int 0]))] sz) := by
  refine Met.ofW (cc := cX2_type) (maxL := 2) (ret := none) (by decide) rfl ?_
  intro p e s m args below meth c s₁ B hml hv
  obtain ⟨rfl, hsz, hP, hK, hD0⟩ := hv
  have hx := B.exec
  have hb := B.bytes
  have hr := B.returns
  have hts := atoms_spec (ws := wsX2_type) B.pre
  have hown : s.vm.findClass RX2 = some m.cls := findClass_of_methodNamed B.named
  have hlocks := B.notSynchronized
  subst hsz
  have hD := hD0.self (sz := s.heap.size)
  generalize hAe : va_A [(h0, .inr (2, [.int 0, .int 0, .int 0]))] s.heap.size = A at hD ⊢
  have hA : ∀ q : Nat, s.heap.size ≤ q → A q := fun q h => by rw [← hAe]; exact Or.inr h
  have hS0 : ∀ G : Heap, s.heap = G → va_S A s.heap G [] := fun G h => by subst h; exact va_S.rf
  generalize hHe : s.heap = H at hP ⊢
  have hS := hS0 H hHe
  have hP : va_P (dC, dI) vwCl [(h0, .inr (2, [.int 0, .int 0, .int 0]))] H := hP
  have hD : va_D A [(h0, .inr (2, [.int 0, .int 0, .int 0]))] := hD
  have hK : va_K (dC, dI) vwCl [] s := hK
  have hl := lv_entry ([.ref h0, .int p0]) (n := 2) (Nat.le_of_ble_eq_true rfl)
  rw [lg_entry_eq]
  generalize (lg_sl ([.ref h0, .int p0]) ++ List.replicate (2 - (lg_sl ([.ref h0, .int p0])).length) Slot.unset).toArray = ls at hl ⊢
  have hl : lv_has ls 2 [(0, .ref h0), (1, .int p0)] := hl
  refine lv_aload_n hx hb dX2_type_0 rfl (lv_at hl 0 rfl) ?_
  refine lv_iload_n hx hb dX2_type_1 rfl (lv_at hl 1 rfl) ?_
  refine va_put (D := (dC, dI)) (ci := 2) (v := .int p0) (ty := .int) (C := RX2) (T := TX2) (N := 3) hx hb hts (by decide +kernel) tyX2 tyX2_ok nmX2 hown hK hP hD hS 0 rfl rfl 2 (by decide) (hts (.fieldLink RX2 7 "UnibusMachine$Keyboard" "character" "I") (by decide +kernel)) (fun _ h9 => h9) rfl (by decide +kernel) rfl rfl (Nat.le_of_ble_eq_true rfl) dX2_type_2 (fun H locs hP hD hS => ?_)
  have hP : va_P (dC, dI) vwCl [(h0, .inr (2, [.int 0, .int 0, .int p0]))] H := hP
  have hD : va_D A [(h0, .inr (2, [.int 0, .int 0, .int p0]))] := hD
  refine lv_aload_n hx hb dX2_type_5 rfl (lv_at hl 0 rfl) ?_
  refine lv_aload_n hx hb dX2_type_6 rfl (lv_at hl 0 rfl) ?_
  refine va_get (D := (dC, dI)) (ci := 2) (v := .int 0) (C := RX2) (T := TX2) (N := 3) hx hb hts (by decide +kernel) hown hK hP 0 rfl rfl 0 (by decide) (hts (.fieldLink RX2 13 "UnibusMachine$Keyboard" "bits" "I") (by decide +kernel)) (u_same (hts (.sameField "UnibusMachine$Keyboard" "UnibusMachine$Line" "bits" "I") (by decide +kernel))) rfl dX2_type_7 ?_
  refine lv_sipush (v := 128) hx hb dX2_type_10 (by decide) ?_
  refine lv_ior hx hb dX2_type_13 ?_
  refine lv_topi (fun y1 ey1 => ?_)
  obtain rfl : y1 = 128 := by rw [ey1]; decide
  have hPc := hP.sub (ws' := [(h0, .inr (2, [.int 0, .int 0, .int p0]))]) [0] rfl
  have hDc := hD.sub (ws' := [(h0, .inr (2, [.int 0, .int 0, .int p0]))]) [0] (by decide) rfl
  have hKc := hK.sub (tys' := []) [] rfl
  have hFc := va_free (wc := [(h0, .inr (2, [.int 0, .int 0, .int p0]))]) hD hS hA [0] rfl
  refine va_callv (va_runU (As := [.int 128]) (rest := []) ⟨hx, hb, hml, hown, hts⟩ (c_become l dC dI h0 p0 H.size) (va_cwU 1 hts gX2_type_X3_become_u16X2 rfl rfl rfl rfl (by decide +kernel) ⟨Nat.le_of_ble_eq_true rfl, Nat.le_of_ble_eq_true rfl⟩) ⟨fun a U g mk q => by obtain ⟨q0, q1, qP, qK, qD⟩ := q; exact ⟨q0, q1, qP, va_K.moved (u := U) (U := U.calling g mk a) (Vm.Alike.refl U.vm) qK, qD⟩, va_recv hKc hPc (ci := 2) (q0 := 0) rfl rfl, fun U hU hW => ⟨rfl, by rw [hU], by rw [hU]; exact hPc, va_K.moved hW.alike hKc, hDc.weaken (fun _ _ _ _ => trivial)⟩⟩ rfl rfl hl.1 rfl (lv_room (Nat.le_of_ble_eq_true rfl)) dX2_type_14 ⟨Nat.le_of_ble_eq_true rfl, Nat.le_of_ble_eq_true rfl⟩) hS (fun q _ h => hFc q h) hFc (fun u3 t H1 locs ht hvm hw hB hz1 hk1 hS => ?_)
  obtain ⟨hP1, hK1, hD1⟩ := hB
  rw [ht] at hP1
  have hK1 := va_K.moved hvm.symm hK1
  try dsimp only at hw
  obtain ⟨hP, hD⟩ := va_join (wr := []) (w1 := []) hP hD [0] [] rfl rfl (by decide) (by decide) hk1 hFc hP1 hD1
  have hK := (hK.sub (tys' := []) [] rfl).app hK1
  generalize H1 = H at hP hS ⊢
  have hP : va_P (dC, dI) vwCl [] H := hP
  have hD : va_D A [] := hD
  have hK : va_K (dC, dI) vwCl [] s := hK
  have hP9 := hP.sub (ws' := []) [] rfl
  have hD9 := hD.sub (ws' := []) [] (by decide) rfl
  have hK9 := hK.sub (tys' := []) [] rfl
  exact W.vret hx hb hr (fun t ht hW => ⟨⟨(), rfl, trivial, by rw [ht]; exact hP9, va_K.moved hW.alike hK9, hD9⟩, hS.F ht⟩) hS.2.2 dX2_type_17
set_option maxHeartbeats 4000000 in
set_option maxRecDepth 100000 in
theorem c_key (l : Launch) (dC : Nat → ClassId) (dI : Nat → Nat → Nat) (h0 : Nat) (oB : Nat) (oP : Nat) (am : Nat) (oM : Nat) (oS : Nat) (oK : Nat) (oL : Nat) (oD : Nat) (p0 : Int32) (sz : Nat) (hlt : l.stackTraces = false) : vx_Met l yX8_key wsX8_key ({ frames := 6, cells := 1, slots := 6, locals := 81 } : Room) (va_Pc [.ref h0, .int p0] (fun U => U.heap.size = sz ∧ va_P (dC, dI) vwCl [(h0, .inr (7, [.ref oB, .ref oP])), (oB, .inr (0, [.ref am, .ref oM, .ref oS, .ref oK, .ref oL, .ref oD])), (oK, .inr (2, [.int 0, .int 0, .int 0]))] U.heap ∧ va_K (dC, dI) vwCl [] U ∧ va_D (fun _ => True) [(h0, .inr (7, [.ref oB, .ref oP])), (oB, .inr (0, [.ref am, .ref oM, .ref oS, .ref oK, .ref oL, .ref oD])), (oK, .inr (2, [.int 0, .int 0, .int 0]))] ∧ vx_Zq Bundle.tN "UNASSIGNED_STACK" Bundle.steD (va_A [(h0, .inr (7, [.ref oB, .ref oP])), (oB, .inr (0, [.ref am, .ref oM, .ref oS, .ref oK, .ref oL, .ref oD])), (oK, .inr (2, [.int 0, .int 0, .int 0]))] sz) U U.heap ∧ vx_Zq Bundle.tN "SUPPRESSED_SENTINEL" Bundle.listD (va_A [(h0, .inr (7, [.ref oB, .ref oP])), (oB, .inr (0, [.ref am, .ref oM, .ref oS, .ref oK, .ref oL, .ref oD])), (oK, .inr (2, [.int 0, .int 0, .int 0]))] sz) U U.heap ∧ va_Nw (.declares (Bundle.init0 "java/lang/RuntimeException")) U ∧ va_Nw (.declares (Bundle.init0 "java/lang/Exception")) U ∧ va_Nw (.declares (Bundle.init0 Bundle.tN)) U ∧ va_Nw (.castable "java/lang/IllegalArgumentException" "java/lang/IllegalArgumentException") U)) (va_Qv (fun (u : Unit) => 0 ≤ p0.toInt ∧ p0.toInt ≤ 255) (fun (u : Unit) (t : State) => va_P (dC, dI) vwCl [] t.heap ∧ va_K (dC, dI) vwCl [] t ∧ va_D (va_A [(h0, .inr (7, [.ref oB, .ref oP])), (oB, .inr (0, [.ref am, .ref oM, .ref oS, .ref oK, .ref oL, .ref oD])), (oK, .inr (2, [.int 0, .int 0, .int 0]))] sz) []) (va_A [(h0, .inr (7, [.ref oB, .ref oP])), (oB, .inr (0, [.ref am, .ref oM, .ref oS, .ref oK, .ref oL, .ref oD])), (oK, .inr (2, [.int 0, .int 0, .int 0]))] sz)) (vx_X (fun _ : Unit => True) (fun (E : String) (_ : Unit) (_ : State) => E = "java/lang/IllegalArgumentException" ∧ ¬ (0 ≤ p0.toInt ∧ p0.toInt ≤ 255)) (va_A [(h0, .inr (7, [.ref oB, .ref oP])), (oB, .inr (0, [.ref am, .ref oM, .ref oS, .ref oK, .ref oL, .ref oD])), (oK, .inr (2, [.int 0, .int 0, .int 0]))] sz)) 1 6 (va_A [(h0, .inr (7, [.ref oB, .ref oP])), (oB, .inr (0, [.ref am, .ref oM, .ref oS, .ref oK, .ref oL, .ref oD])), (oK, .inr (2, [.int 0, .int 0, .int 0]))] sz) := by
  refine vx_ofW (cc := cX8_key) (maxL := 2) (ret := none) (by decide) rfl ?_
  intro p e s m args below meth c s₁ B hml htab hv
  obtain ⟨rfl, hsz, hP, hK, hD0, hZU, hZN, hd1, hd2, hd3, hcI⟩ := hv
  have hx := B.exec
  have hb := B.bytes
  have hr := B.returns
  have hts := atoms_spec (ws := wsX8_key) B.pre
  have hown : s.vm.findClass RX8 = some m.cls := findClass_of_methodNamed B.named
  have hlocks := B.notSynchronized
  subst hsz
  have hD := hD0.self (sz := s.heap.size)
  generalize hAe : va_A [(h0, .inr (7, [.ref oB, .ref oP])), (oB, .inr (0, [.ref am, .ref oM, .ref oS, .ref oK, .ref oL, .ref oD])), (oK, .inr (2, [.int 0, .int 0, .int 0]))] s.heap.size = A at hD hZU hZN ⊢
  have hA : ∀ q : Nat, s.heap.size ≤ q → A q := fun q h => by rw [← hAe]; exact Or.inr h
  have hS0 : ∀ G : Heap, s.heap = G → va_S A s.heap G [] := fun G h => by subst h; exact va_S.rf
  generalize hHe : s.heap = H at hP ⊢
  have hS := hS0 H hHe
  have hP : va_P (dC, dI) vwCl [(h0, .inr (7, [.ref oB, .ref oP])), (oB, .inr (0, [.ref am, .ref oM, .ref oS, .ref oK, .ref oL, .ref oD])), (oK, .inr (2, [.int 0, .int 0, .int 0]))] H := hP
  have hD : va_D A [(h0, .inr (7, [.ref oB, .ref oP])), (oB, .inr (0, [.ref am, .ref oM, .ref oS, .ref oK, .ref oL, .ref oD])), (oK, .inr (2, [.int 0, .int 0, .int 0]))] := hD
  have hK : va_K (dC, dI) vwCl [] s := hK
  have hl := lv_entry ([.ref h0, .int p0]) (n := 2) (Nat.le_of_ble_eq_true rfl)
  rw [lg_entry_eq]
  generalize (lg_sl ([.ref h0, .int p0]) ++ List.replicate (2 - (lg_sl ([.ref h0, .int p0])).length) Slot.unset).toArray = ls at hl ⊢
  have hl : lv_has ls 2 [(0, .ref h0), (1, .int p0)] := hl
  have kk0 : (0 : Int32).toInt = 0 := by decide
  have kk255 : (255 : Int32).toInt = 255 := by decide
  refine lv_iload_n hx hb dX8_key_0 rfl (lv_at hl 1 rfl) ?_
  refine lv_if_lt (tgt := 11) hx hb dX8_key_1 (by decide) (fun c1 => ?_) (fun c1 => ?_)
  · have c1 := fz_lt.mp c1
    have kk0 : (0 : Int32).toInt = 0 := by decide
    have hpx9 : "java/lang/IllegalArgumentException" = "java/lang/IllegalArgumentException" ∧ ¬ (0 ≤ p0.toInt ∧ p0.toInt ≤ 255) := by exact ⟨rfl, by omega⟩
    exact vx_throw0 (names := ["java/lang/RuntimeException", "java/lang/Exception"]) (cls := "java/lang/IllegalArgumentException") (ik := 32) (ic := 34) (A := A) hx hb hlt hown (by decide) (by decide) (hts (.classLink RX8 32 "java/lang/IllegalArgumentException") (by decide +kernel)) (hts (.initialized "java/lang/IllegalArgumentException") (by decide +kernel)) (vx_hat (fun w h => hts w (List.mem_cons_of_mem _ (List.mem_append_right _ h))) (by decide +kernel) (vx_c (va_Nw.use rfl hcI) (vx_c (va_Nw.use rfl hd1) (vx_c (va_Nw.use rfl hd2) (vx_c (va_Nw.use rfl hd3) vx_n))))) (by decide +kernel) hZU hZN hS (by rw [hml]; exact hl.1) dX8_key_11 dX8_key_14 dX8_key_15 dX8_key_18 (fun x h => (htab x h).elim) (Nat.le_of_ble_eq_true rfl) (Nat.le_of_ble_eq_true rfl) (Nat.le_of_ble_eq_true rfl) (Nat.le_of_ble_eq_true rfl) hlocks (fun t hal hz hk => ⟨(), trivial, hpx9, Nat.le_trans hS.1 hz, fun q h1 h2 => (hk q (Nat.lt_of_lt_of_le h1 hS.1)).trans (hS.2.1 q h1 h2)⟩) hS.2.2 (Nat.le_of_ble_eq_true rfl) (Nat.le_of_ble_eq_true rfl)
  · have c1 := fz_nlt.mp c1
    have kk0 : (0 : Int32).toInt = 0 := by decide
    refine lv_iload_n hx hb dX8_key_4 rfl (lv_at hl 1 rfl) ?_
    refine lv_sipush (v := 255) hx hb dX8_key_5 (by decide) ?_
    refine lv_icmp_le (tgt := 19) hx hb dX8_key_8 (by decide) (fun c2 => ?_) (fun c2 => ?_)
    · have c2 := fz_le.mp c2
      have kk255 : (255 : Int32).toInt = 255 := by decide
      refine lv_aload_n hx hb dX8_key_19 rfl (lv_at hl 0 rfl) ?_
      refine va_get (D := (dC, dI)) (ci := 7) (v := .ref oB) (C := RX8) (T := TX8) (N := 2) hx hb hts (by decide +kernel) hown hK hP 0 rfl rfl 0 (by decide) (hts (.fieldLink RX8 10 "UnibusMachine" "bus" "LUnibusMachine$Bus;") (by decide +kernel)) (fun _ h9 => h9) rfl dX8_key_20 ?_
      refine va_get (D := (dC, dI)) (ci := 0) (v := .ref oK) (C := RX0) (T := TX0) (N := 6) hx hb hts (by decide +kernel) hown hK hP 1 rfl rfl 3 (by decide) (hts (.fieldLink RX8 82 "UnibusMachine$Bus" "keyboard" "LUnibusMachine$Keyboard;") (by decide +kernel)) (fun _ h9 => h9) rfl dX8_key_23 ?_
      refine lv_iload_n hx hb dX8_key_26 rfl (lv_at hl 1 rfl) ?_
      have hPc := hP.sub (ws' := [(oK, .inr (2, [.int 0, .int 0, .int 0]))]) [2] rfl
      have hDc := hD.sub (ws' := [(oK, .inr (2, [.int 0, .int 0, .int 0]))]) [2] (by decide) rfl
      have hKc := hK.sub (tys' := []) [] rfl
      have hFc := va_free (wc := [(oK, .inr (2, [.int 0, .int 0, .int 0]))]) hD hS hA [2] rfl
      refine va_callv (va_runV (As := [.int p0]) (rest := []) ⟨hx, hb, hml, hown, hts⟩ (c_type l dC dI oK p0 H.size) (cwV 1 hts gX8_key_X2_type rfl rfl rfl (by decide +kernel) ⟨Nat.le_of_ble_eq_true rfl, Nat.le_of_ble_eq_true rfl⟩) ⟨fun a U g mk q => by obtain ⟨q0, q1, qP, qK, qD⟩ := q; exact ⟨q0, q1, qP, va_K.moved (u := U) (U := U.calling g mk a) (Vm.Alike.refl U.vm) qK, qD⟩, va_recv hKc hPc (ci := 2) (q0 := 0) rfl rfl, fun U hU hW => ⟨rfl, by rw [hU], by rw [hU]; exact hPc, va_K.moved hW.alike hKc, hDc.weaken (fun _ _ _ _ => trivial)⟩⟩ rfl rfl hl.1 rfl (lv_room (Nat.le_of_ble_eq_true rfl)) dX8_key_27 ⟨Nat.le_of_ble_eq_true rfl, Nat.le_of_ble_eq_true rfl⟩) hS (fun q _ h => hFc q h) hFc (fun u4 t H1 locs ht hvm hw hB hz1 hk1 hS => ?_)
      obtain ⟨hP1, hK1, hD1⟩ := hB
      rw [ht] at hP1
      have hK1 := va_K.moved hvm.symm hK1
      try dsimp only at hw
      obtain ⟨hP, hD⟩ := va_join (wr := [(h0, .inr (7, [.ref oB, .ref oP])), (oB, .inr (0, [.ref am, .ref oM, .ref oS, .ref oK, .ref oL, .ref oD]))]) (w1 := []) hP hD [2] [0, 1] rfl rfl (by decide) (by decide) hk1 hFc hP1 hD1
      have hK := (hK.sub (tys' := []) [] rfl).app hK1
      generalize H1 = H at hP hS ⊢
      have hP : va_P (dC, dI) vwCl [(h0, .inr (7, [.ref oB, .ref oP])), (oB, .inr (0, [.ref am, .ref oM, .ref oS, .ref oK, .ref oL, .ref oD]))] H := hP
      have hD : va_D A [(h0, .inr (7, [.ref oB, .ref oP])), (oB, .inr (0, [.ref am, .ref oM, .ref oS, .ref oK, .ref oL, .ref oD]))] := hD
      have hK : va_K (dC, dI) vwCl [] s := hK
      have hP9 := hP.sub (ws' := []) [] rfl
      have hD9 := hD.sub (ws' := []) [] (by decide) rfl
      have hK9 := hK.sub (tys' := []) [] rfl
      refine vx_ret ?_
      refine W.widen (k := 1) (n := 6) (Nat.le_of_ble_eq_true rfl) (Nat.le_of_ble_eq_true rfl) ?_
      exact W.vret hx hb hr (fun t ht hW => ⟨⟨(), rfl, (by omega), by rw [ht]; exact hP9, va_K.moved hW.alike hK9, hD9⟩, hS.F ht⟩) hS.2.2 dX8_key_30
    · have c2 := fz_nle.mp c2
      have kk255 : (255 : Int32).toInt = 255 := by decide
      have hpx9 : "java/lang/IllegalArgumentException" = "java/lang/IllegalArgumentException" ∧ ¬ (0 ≤ p0.toInt ∧ p0.toInt ≤ 255) := by exact ⟨rfl, by omega⟩
      exact vx_throw0 (names := ["java/lang/RuntimeException", "java/lang/Exception"]) (cls := "java/lang/IllegalArgumentException") (ik := 32) (ic := 34) (A := A) hx hb hlt hown (by decide) (by decide) (hts (.classLink RX8 32 "java/lang/IllegalArgumentException") (by decide +kernel)) (hts (.initialized "java/lang/IllegalArgumentException") (by decide +kernel)) (vx_hat (fun w h => hts w (List.mem_cons_of_mem _ (List.mem_append_right _ h))) (by decide +kernel) (vx_c (va_Nw.use rfl hcI) (vx_c (va_Nw.use rfl hd1) (vx_c (va_Nw.use rfl hd2) (vx_c (va_Nw.use rfl hd3) vx_n))))) (by decide +kernel) hZU hZN hS (by rw [hml]; exact hl.1) dX8_key_11 dX8_key_14 dX8_key_15 dX8_key_18 (fun x h => (htab x h).elim) (Nat.le_of_ble_eq_true rfl) (Nat.le_of_ble_eq_true rfl) (Nat.le_of_ble_eq_true rfl) (Nat.le_of_ble_eq_true rfl) hlocks (fun t hal hz hk => ⟨(), trivial, hpx9, Nat.le_trans hS.1 hz, fun q h1 h2 => (hk q (Nat.lt_of_lt_of_le h1 hS.1)).trans (hS.2.1 q h1 h2)⟩) hS.2.2 (Nat.le_of_ble_eq_true rfl) (Nat.le_of_ble_eq_true rfl)
set_option maxHeartbeats 4000000 in
set_option maxRecDepth 100000 in
theorem c_printed (l : Launch) (dC : Nat → ClassId) (dI : Nat → Nat → Nat) (h0 : Nat) (oB : Nat) (oP : Nat) (am : Nat) (oM : Nat) (oS : Nat) (oK : Nat) (oL : Nat) (oD : Nat) (ap : Nat) (tp : ClassId) (p0 : Int32) (sz : Nat) (hlt : l.stackTraces = false) : vx_Met l yX8_printed wsX8_printed ({ frames := 6, cells := 1, slots := 6, locals := 81 } : Room) (va_Pc [.ref h0, .int p0] (fun U => U.heap.size = sz ∧ va_P (dC, dI) vwCl [(h0, .inr (7, [.ref oB, .ref oP])), (oB, .inr (0, [.ref am, .ref oM, .ref oS, .ref oK, .ref oL, .ref oD])), (oL, .inr (4, [.int 128, .int 0, .ref ap, .int 0, .int 0, .int 0, .int 0])), (ap, .inl (tp, 32, .inl (fun _ => 0)))] U.heap ∧ va_K (dC, dI) vwCl [(tp, .int)] U ∧ va_D (fun _ => True) [(h0, .inr (7, [.ref oB, .ref oP])), (oB, .inr (0, [.ref am, .ref oM, .ref oS, .ref oK, .ref oL, .ref oD])), (oL, .inr (4, [.int 128, .int 0, .ref ap, .int 0, .int 0, .int 0, .int 0])), (ap, .inl (tp, 32, .inl (fun _ => 0)))] ∧ vx_Zq Bundle.tN "UNASSIGNED_STACK" Bundle.steD (va_A [(h0, .inr (7, [.ref oB, .ref oP])), (oB, .inr (0, [.ref am, .ref oM, .ref oS, .ref oK, .ref oL, .ref oD])), (oL, .inr (4, [.int 128, .int 0, .ref ap, .int 0, .int 0, .int 0, .int 0])), (ap, .inl (tp, 32, .inl (fun _ => 0)))] sz) U U.heap ∧ vx_Zq Bundle.tN "SUPPRESSED_SENTINEL" Bundle.listD (va_A [(h0, .inr (7, [.ref oB, .ref oP])), (oB, .inr (0, [.ref am, .ref oM, .ref oS, .ref oK, .ref oL, .ref oD])), (oL, .inr (4, [.int 128, .int 0, .ref ap, .int 0, .int 0, .int 0, .int 0])), (ap, .inl (tp, 32, .inl (fun _ => 0)))] sz) U U.heap ∧ va_Nw (.declares (Bundle.init0 "java/lang/RuntimeException")) U ∧ va_Nw (.declares (Bundle.init0 "java/lang/Exception")) U ∧ va_Nw (.declares (Bundle.init0 Bundle.tN)) U ∧ va_Nw (.castable "java/lang/IndexOutOfBoundsException" "java/lang/IndexOutOfBoundsException") U)) (va_Qi (fun (r : Int32) (u : Unit) => r = 0 ∧ p0.toInt = -1) (fun (u : Unit) (t : State) => va_P (dC, dI) vwCl [] t.heap ∧ va_K (dC, dI) vwCl [] t ∧ va_D (va_A [(h0, .inr (7, [.ref oB, .ref oP])), (oB, .inr (0, [.ref am, .ref oM, .ref oS, .ref oK, .ref oL, .ref oD])), (oL, .inr (4, [.int 128, .int 0, .ref ap, .int 0, .int 0, .int 0, .int 0])), (ap, .inl (tp, 32, .inl (fun _ => 0)))] sz) []) (va_A [(h0, .inr (7, [.ref oB, .ref oP])), (oB, .inr (0, [.ref am, .ref oM, .ref oS, .ref oK, .ref oL, .ref oD])), (oL, .inr (4, [.int 128, .int 0, .ref ap, .int 0, .int 0, .int 0, .int 0])), (ap, .inl (tp, 32, .inl (fun _ => 0)))] sz)) (vx_X (fun _ : Unit => True) (fun (E : String) (_ : Unit) (_ : State) => E = "java/lang/IndexOutOfBoundsException" ∧ ¬ (p0.toInt = -1)) (va_A [(h0, .inr (7, [.ref oB, .ref oP])), (oB, .inr (0, [.ref am, .ref oM, .ref oS, .ref oK, .ref oL, .ref oD])), (oL, .inr (4, [.int 128, .int 0, .ref ap, .int 0, .int 0, .int 0, .int 0])), (ap, .inl (tp, 32, .inl (fun _ => 0)))] sz)) 1 6 (va_A [(h0, .inr (7, [.ref oB, .ref oP])), (oB, .inr (0, [.ref am, .ref oM, .ref oS, .ref oK, .ref oL, .ref oD])), (oL, .inr (4, [.int 128, .int 0, .ref ap, .int 0, .int 0, .int 0, .int 0])), (ap, .inl (tp, 32, .inl (fun _ => 0)))] sz) := by
  refine vx_ofW (cc := cX8_printed) (maxL := 3) (ret := (some .int)) (by decide) rfl ?_
  intro p e s m args below meth c s₁ B hml htab hv
  obtain ⟨rfl, hsz, hP, hK, hD0, hZU, hZN, hd1, hd2, hd3, hcB⟩ := hv
  have hx := B.exec
  have hb := B.bytes
  have hr := B.returns
  have hts := atoms_spec (ws := wsX8_printed) B.pre
  have hown : s.vm.findClass RX8 = some m.cls := findClass_of_methodNamed B.named
  have hlocks := B.notSynchronized
  subst hsz
  have hD := hD0.self (sz := s.heap.size)
  generalize hAe : va_A [(h0, .inr (7, [.ref oB, .ref oP])), (oB, .inr (0, [.ref am, .ref oM, .ref oS, .ref oK, .ref oL, .ref oD])), (oL, .inr (4, [.int 128, .int 0, .ref ap, .int 0, .int 0, .int 0, .int 0])), (ap, .inl (tp, 32, .inl (fun _ => 0)))] s.heap.size = A at hD hZU hZN ⊢
  have hA : ∀ q : Nat, s.heap.size ≤ q → A q := fun q h => by rw [← hAe]; exact Or.inr h
  have hS0 : ∀ G : Heap, s.heap = G → va_S A s.heap G [] := fun G h => by subst h; exact va_S.rf
  generalize hHe : s.heap = H at hP ⊢
  have hS := hS0 H hHe
  have hP : va_P (dC, dI) vwCl [(h0, .inr (7, [.ref oB, .ref oP])), (oB, .inr (0, [.ref am, .ref oM, .ref oS, .ref oK, .ref oL, .ref oD])), (oL, .inr (4, [.int 128, .int 0, .ref ap, .int 0, .int 0, .int 0, .int 0])), (ap, .inl (tp, 32, .inl (fun _ => 0)))] H := hP
  have hD : va_D A [(h0, .inr (7, [.ref oB, .ref oP])), (oB, .inr (0, [.ref am, .ref oM, .ref oS, .ref oK, .ref oL, .ref oD])), (oL, .inr (4, [.int 128, .int 0, .ref ap, .int 0, .int 0, .int 0, .int 0])), (ap, .inl (tp, 32, .inl (fun _ => 0)))] := hD
  have hK : va_K (dC, dI) vwCl [(tp, .int)] s := hK
  have hl := lv_entry ([.ref h0, .int p0]) (n := 3) (Nat.le_of_ble_eq_true rfl)
  rw [lg_entry_eq]
  generalize (lg_sl ([.ref h0, .int p0]) ++ List.replicate (3 - (lg_sl ([.ref h0, .int p0])).length) Slot.unset).toArray = ls at hl ⊢
  have hl : lv_has ls 3 [(0, .ref h0), (1, .int p0)] := hl
  have kk0 : (0 : Int32).toInt = 0 := by decide
  have kkm1 : ((-1) : Int32).toInt = -1 := by decide
  have kk32 : (32 : Int32).toInt = 32 := by decide
  refine lv_aload_n hx hb dX8_printed_0 rfl (lv_at hl 0 rfl) ?_
  refine va_get (D := (dC, dI)) (ci := 7) (v := .ref oB) (C := RX8) (T := TX8) (N := 2) hx hb hts (by decide +kernel) hown hK hP 0 rfl rfl 0 (by decide) (hts (.fieldLink RX8 10 "UnibusMachine" "bus" "LUnibusMachine$Bus;") (by decide +kernel)) (fun _ h9 => h9) rfl dX8_printed_1 ?_
  refine va_get (D := (dC, dI)) (ci := 0) (v := .ref oL) (C := RX0) (T := TX0) (N := 6) hx hb hts (by decide +kernel) hown hK hP 1 rfl rfl 4 (by decide) (hts (.fieldLink RX8 91 "UnibusMachine$Bus" "printer" "LUnibusMachine$Printer;") (by decide +kernel)) (fun _ h9 => h9) rfl dX8_printed_4 ?_
  refine lv_astore_n (lv' := [(2, .ref oL), (0, .ref h0), (1, .int p0)]) hx hb dX8_printed_7 rfl hl (by decide) rfl (fun ls hl => ?_)
  refine lv_iload_n hx hb dX8_printed_8 rfl (lv_at hl 2 rfl) ?_
  refine lv_iconst (v := (-1)) hx hb dX8_printed_9 (by decide) ?_
  refine lv_icmp_lt (tgt := 27) hx hb dX8_printed_10 (by decide) (fun c1 => ?_) (fun c1 => ?_)
  · have c1 := fz_lt.mp c1
    have kkm1 : ((-1) : Int32).toInt = -1 := by decide
    have hpx9 : "java/lang/IndexOutOfBoundsException" = "java/lang/IndexOutOfBoundsException" ∧ ¬ (p0.toInt = -1) := by exact ⟨rfl, by omega⟩
    exact vx_throw0 (names := ["java/lang/RuntimeException", "java/lang/Exception"]) (cls := "java/lang/IndexOutOfBoundsException") (ik := 100) (ic := 102) (A := A) hx hb hlt hown (by decide) (by decide) (hts (.classLink RX8 100 "java/lang/IndexOutOfBoundsException") (by decide +kernel)) (hts (.initialized "java/lang/IndexOutOfBoundsException") (by decide +kernel)) (vx_hat (fun w h => hts w (List.mem_cons_of_mem _ (List.mem_append_right _ h))) (by decide +kernel) (vx_c (va_Nw.use rfl hcB) (vx_c (va_Nw.use rfl hd1) (vx_c (va_Nw.use rfl hd2) (vx_c (va_Nw.use rfl hd3) vx_n))))) (by decide +kernel) hZU hZN hS (by rw [hml]; exact hl.1) dX8_printed_27 dX8_printed_30 dX8_printed_31 dX8_printed_34 (fun x h => (htab x h).elim) (Nat.le_of_ble_eq_true rfl) (Nat.le_of_ble_eq_true rfl) (Nat.le_of_ble_eq_true rfl) (Nat.le_of_ble_eq_true rfl) hlocks (fun t hal hz hk => ⟨(), trivial, hpx9, Nat.le_trans hS.1 hz, fun q h1 h2 => (hk q (Nat.lt_of_lt_of_le h1 hS.1)).trans (hS.2.1 q h1 h2)⟩) hS.2.2 (Nat.le_of_ble_eq_true rfl) (Nat.le_of_ble_eq_true rfl)
  · have c1 := fz_nlt.mp c1
    have kkm1 : ((-1) : Int32).toInt = -1 := by decide
    refine lv_iload_n hx hb dX8_printed_13 rfl (lv_at hl 2 rfl) ?_
    refine lv_bipush (v := 32) hx hb dX8_printed_14 (by decide) ?_
    refine lv_icmp_ge (tgt := 27) hx hb dX8_printed_16 (by decide) (fun c2 => ?_) (fun c2 => ?_)
    · have c2 := fz_le.mp c2
      have kk32 : (32 : Int32).toInt = 32 := by decide
      have hpx9 : "java/lang/IndexOutOfBoundsException" = "java/lang/IndexOutOfBoundsException" ∧ ¬ (p0.toInt = -1) := by exact ⟨rfl, by omega⟩
      exact vx_throw0 (names := ["java/lang/RuntimeException", "java/lang/Exception"]) (cls := "java/lang/IndexOutOfBoundsException") (ik := 100) (ic := 102) (A := A) hx hb hlt hown (by decide) (by decide) (hts (.classLink RX8 100 "java/lang/IndexOutOfBoundsException") (by decide +kernel)) (hts (.initialized "java/lang/IndexOutOfBoundsException") (by decide +kernel)) (vx_hat (fun w h => hts w (List.mem_cons_of_mem _ (List.mem_append_right _ h))) (by decide +kernel) (vx_c (va_Nw.use rfl hcB) (vx_c (va_Nw.use rfl hd1) (vx_c (va_Nw.use rfl hd2) (vx_c (va_Nw.use rfl hd3) vx_n))))) (by decide +kernel) hZU hZN hS (by rw [hml]; exact hl.1) dX8_printed_27 dX8_printed_30 dX8_printed_31 dX8_printed_34 (fun x h => (htab x h).elim) (Nat.le_of_ble_eq_true rfl) (Nat.le_of_ble_eq_true rfl) (Nat.le_of_ble_eq_true rfl) (Nat.le_of_ble_eq_true rfl) hlocks (fun t hal hz hk => ⟨(), trivial, hpx9, Nat.le_trans hS.1 hz, fun q h1 h2 => (hk q (Nat.lt_of_lt_of_le h1 hS.1)).trans (hS.2.1 q h1 h2)⟩) hS.2.2 (Nat.le_of_ble_eq_true rfl) (Nat.le_of_ble_eq_true rfl)
    · have c2 := fz_nle.mp c2
      have kk32 : (32 : Int32).toInt = 32 := by decide
      refine lv_iload_n hx hb dX8_printed_19 rfl (lv_at hl 2 rfl) ?_
      refine lv_aload_n hx hb dX8_printed_20 rfl (lv_at hl 0 rfl) ?_
      refine va_get (D := (dC, dI)) (ci := 4) (v := .int 0) (C := RX5) (T := TX5) (N := 7) hx hb hts (by decide +kernel) hown hK hP 2 rfl rfl 3 (by decide) (hts (.fieldLink RX8 97 "UnibusMachine$Printer" "count" "I") (by decide +kernel)) (fun _ h9 => h9) rfl dX8_printed_21 ?_
      refine lv_icmp_lt (tgt := 35) hx hb dX8_printed_24 (by decide) (fun c3 => ?_) (fun c3 => ?_)
      · have c3 := fz_lt.mp c3
        have kk0 : (0 : Int32).toInt = 0 := by decide
        refine lv_iload_n hx hb dX8_printed_35 rfl (lv_at hl 2 rfl) ?_
        refine lv_iconst (v := (-1)) hx hb dX8_printed_36 (by decide) ?_
        refine lv_icmp_ne (tgt := 47) hx hb dX8_printed_37 (by decide) (fun c4 => ?_) (fun c4 => ?_)
        · have c4 := fz_ne.mp c4
          have kkm1 : ((-1) : Int32).toInt = -1 := by decide
          exact False.elim (by omega)
        · have c4 := fz_eq.mp c4
          have kkm1 : ((-1) : Int32).toInt = -1 := by decide
          refine lv_aload_n hx hb dX8_printed_40 rfl (lv_at hl 0 rfl) ?_
          refine va_get (D := (dC, dI)) (ci := 4) (v := .int 0) (C := RX5) (T := TX5) (N := 7) hx hb hts (by decide +kernel) hown hK hP 2 rfl rfl 3 (by decide) (hts (.fieldLink RX8 97 "UnibusMachine$Printer" "count" "I") (by decide +kernel)) (fun _ h9 => h9) rfl dX8_printed_41 ?_
          refine lv_goto (tgt := 63) hx hb dX8_printed_44 (by decide) ?_
          have hP9 := hP.sub (ws' := []) [] rfl
          have hD9 := hD.sub (ws' := []) [] (by decide) rfl
          have hK9 := hK.sub (tys' := []) [] rfl
          refine vx_ret ?_
          refine W.widen (k := 1) (n := 6) (Nat.le_of_ble_eq_true rfl) (Nat.le_of_ble_eq_true rfl) ?_
          exact W.iret (v := 0) hx hb hr (fun t ht hW => ⟨⟨0, (), rfl, ⟨rfl, by omega⟩, by rw [ht]; exact hP9, va_K.moved hW.alike hK9, hD9⟩, hS.F ht⟩) hS.2.2 dX8_printed_63
      · have c3 := fz_nlt.mp c3
        have kk0 : (0 : Int32).toInt = 0 := by decide
        have hpx9 : "java/lang/IndexOutOfBoundsException" = "java/lang/IndexOutOfBoundsException" ∧ ¬ (p0.toInt = -1) := by exact ⟨rfl, by omega⟩
        exact vx_throw0 (names := ["java/lang/RuntimeException", "java/lang/Exception"]) (cls := "java/lang/IndexOutOfBoundsException") (ik := 100) (ic := 102) (A := A) hx hb hlt hown (by decide) (by decide) (hts (.classLink RX8 100 "java/lang/IndexOutOfBoundsException") (by decide +kernel)) (hts (.initialized "java/lang/IndexOutOfBoundsException") (by decide +kernel)) (vx_hat (fun w h => hts w (List.mem_cons_of_mem _ (List.mem_append_right _ h))) (by decide +kernel) (vx_c (va_Nw.use rfl hcB) (vx_c (va_Nw.use rfl hd1) (vx_c (va_Nw.use rfl hd2) (vx_c (va_Nw.use rfl hd3) vx_n))))) (by decide +kernel) hZU hZN hS (by rw [hml]; exact hl.1) dX8_printed_27 dX8_printed_30 dX8_printed_31 dX8_printed_34 (fun x h => (htab x h).elim) (Nat.le_of_ble_eq_true rfl) (Nat.le_of_ble_eq_true rfl) (Nat.le_of_ble_eq_true rfl) (Nat.le_of_ble_eq_true rfl) hlocks (fun t hal hz hk => ⟨(), trivial, hpx9, Nat.le_trans hS.1 hz, fun q h1 h2 => (hk q (Nat.lt_of_lt_of_le h1 hS.1)).trans (hS.2.1 q h1 h2)⟩) hS.2.2 (Nat.le_of_ble_eq_true rfl) (Nat.le_of_ble_eq_true rfl)
set_option maxHeartbeats 4000000 in
set_option maxRecDepth 100000 in
theorem c_load (l : Launch) (dC : Nat → ClassId) (dI : Nat → Nat → Nat) (h0 : Nat) (oB : Nat) (oP : Nat) (am : Nat) (oM : Nat) (oS : Nat) (oK : Nat) (oL : Nat) (oD : Nat) (aw : Nat) (tw : ClassId) (p0 : Int32) (p1 : Int32) (p2 : Int32) (sz : Nat) (hlt : l.stackTraces = false) : vx_Met l yX8_load wsX8_load ({ frames := 6, cells := 1, slots := 6, locals := 81 } : Room) (va_Pc [.ref h0, .int p0, .int p1, .int p2] (fun U => U.heap.size = sz ∧ va_P (dC, dI) vwCl [(h0, .inr (7, [.ref oB, .ref oP])), (oB, .inr (0, [.ref am, .ref oM, .ref oS, .ref oK, .ref oL, .ref oD])), (oD, .inr (1, [.int 128, .int 0, .ref aw, .int 0, .int 0, .int 0, .int 0, .int 0, .int 0, .int 0])), (aw, .inl (tw, 128, .inl (fun _ => 0)))] U.heap ∧ va_K (dC, dI) vwCl [(tw, .int)] U ∧ va_D (fun _ => True) [(h0, .inr (7, [.ref oB, .ref oP])), (oB, .inr (0, [.ref am, .ref oM, .ref oS, .ref oK, .ref oL, .ref oD])), (oD, .inr (1, [.int 128, .int 0, .ref aw, .int 0, .int 0, .int 0, .int 0, .int 0, .int 0, .int 0])), (aw, .inl (tw, 128, .inl (fun _ => 0)))] ∧ vx_Zq Bundle.tN "UNASSIGNED_STACK" Bundle.steD (va_A [(h0, .inr (7, [.ref oB, .ref oP])), (oB, .inr (0, [.ref am, .ref oM, .ref oS, .ref oK, .ref oL, .ref oD])), (oD, .inr (1, [.int 128, .int 0, .ref aw, .int 0, .int 0, .int 0, .int 0, .int 0, .int 0, .int 0])), (aw, .inl (tw, 128, .inl (fun _ => 0)))] sz) U U.heap ∧ vx_Zq Bundle.tN "SUPPRESSED_SENTINEL" Bundle.listD (va_A [(h0, .inr (7, [.ref oB, .ref oP])), (oB, .inr (0, [.ref am, .ref oM, .ref oS, .ref oK, .ref oL, .ref oD])), (oD, .inr (1, [.int 128, .int 0, .ref aw, .int 0, .int 0, .int 0, .int 0, .int 0, .int 0, .int 0])), (aw, .inl (tw, 128, .inl (fun _ => 0)))] sz) U U.heap ∧ va_Nw (.declares (Bundle.init0 "java/lang/RuntimeException")) U ∧ va_Nw (.declares (Bundle.init0 "java/lang/Exception")) U ∧ va_Nw (.declares (Bundle.init0 Bundle.tN)) U ∧ va_Nw (.castable "java/lang/IllegalArgumentException" "java/lang/IllegalArgumentException") U)) (va_Qv (fun (u : Unit) => (0 ≤ p0.toInt ∧ p0.toInt < 8 ∧ 0 ≤ p1.toInt ∧ p1.toInt < 16) ∧ (0 ≤ p2.toInt ∧ p2.toInt ≤ 65535)) (fun (u : Unit) (t : State) => va_P (dC, dI) vwCl [] t.heap ∧ va_K (dC, dI) vwCl [] t ∧ va_D (va_A [(h0, .inr (7, [.ref oB, .ref oP])), (oB, .inr (0, [.ref am, .ref oM, .ref oS, .ref oK, .ref oL, .ref oD])), (oD, .inr (1, [.int 128, .int 0, .ref aw, .int 0, .int 0, .int 0, .int 0, .int 0, .int 0, .int 0])), (aw, .inl (tw, 128, .inl (fun _ => 0)))] sz) []) (va_A [(h0, .inr (7, [.ref oB, .ref oP])), (oB, .inr (0, [.ref am, .ref oM, .ref oS, .ref oK, .ref oL, .ref oD])), (oD, .inr (1, [.int 128, .int 0, .ref aw, .int 0, .int 0, .int 0, .int 0, .int 0, .int 0, .int 0])), (aw, .inl (tw, 128, .inl (fun _ => 0)))] sz)) (vx_X (fun _ : Unit => True) (fun (E : String) (_ : Unit) (_ : State) => E = "java/lang/IllegalArgumentException" ∧ ¬ ((0 ≤ p0.toInt ∧ p0.toInt < 8 ∧ 0 ≤ p1.toInt ∧ p1.toInt < 16) ∧ (0 ≤ p2.toInt ∧ p2.toInt ≤ 65535))) (va_A [(h0, .inr (7, [.ref oB, .ref oP])), (oB, .inr (0, [.ref am, .ref oM, .ref oS, .ref oK, .ref oL, .ref oD])), (oD, .inr (1, [.int 128, .int 0, .ref aw, .int 0, .int 0, .int 0, .int 0, .int 0, .int 0, .int 0])), (aw, .inl (tw, 128, .inl (fun _ => 0)))] sz)) 1 6 (va_A [(h0, .inr (7, [.ref oB, .ref oP])), (oB, .inr (0, [.ref am, .ref oM, .ref oS, .ref oK, .ref oL, .ref oD])), (oD, .inr (1, [.int 128, .int 0, .ref aw, .int 0, .int 0, .int 0, .int 0, .int 0, .int 0, .int 0])), (aw, .inl (tw, 128, .inl (fun _ => 0)))] sz) := by
  refine vx_ofW (cc := cX8_load) (maxL := 4) (ret := none) (by decide) rfl ?_
  intro p e s m args below meth c s₁ B hml htab hv
  obtain ⟨rfl, hsz, hP, hK, hD0, hZU, hZN, hd1, hd2, hd3, hcI⟩ := hv
  have hx := B.exec
  have hb := B.bytes
  have hr := B.returns
  have hts := atoms_spec (ws := wsX8_load) B.pre
  have hown : s.vm.findClass RX8 = some m.cls := findClass_of_methodNamed B.named
  have hlocks := B.notSynchronized
  subst hsz
  have hD := hD0.self (sz := s.heap.size)
  generalize hAe : va_A [(h0, .inr (7, [.ref oB, .ref oP])), (oB, .inr (0, [.ref am, .ref oM, .ref oS, .ref oK, .ref oL, .ref oD])), (oD, .inr (1, [.int 128, .int 0, .ref aw, .int 0, .int 0, .int 0, .int 0, .int 0, .int 0, .int 0])), (aw, .inl (tw, 128, .inl (fun _ => 0)))] s.heap.size = A at hD hZU hZN ⊢
  have hA : ∀ q : Nat, s.heap.size ≤ q → A q := fun q h => by rw [← hAe]; exact Or.inr h
  have hS0 : ∀ G : Heap, s.heap = G → va_S A s.heap G [] := fun G h => by subst h; exact va_S.rf
  generalize hHe : s.heap = H at hP ⊢
  have hS := hS0 H hHe
  have hP : va_P (dC, dI) vwCl [(h0, .inr (7, [.ref oB, .ref oP])), (oB, .inr (0, [.ref am, .ref oM, .ref oS, .ref oK, .ref oL, .ref oD])), (oD, .inr (1, [.int 128, .int 0, .ref aw, .int 0, .int 0, .int 0, .int 0, .int 0, .int 0, .int 0])), (aw, .inl (tw, 128, .inl (fun _ => 0)))] H := hP
  have hD : va_D A [(h0, .inr (7, [.ref oB, .ref oP])), (oB, .inr (0, [.ref am, .ref oM, .ref oS, .ref oK, .ref oL, .ref oD])), (oD, .inr (1, [.int 128, .int 0, .ref aw, .int 0, .int 0, .int 0, .int 0, .int 0, .int 0, .int 0])), (aw, .inl (tw, 128, .inl (fun _ => 0)))] := hD
  have hK : va_K (dC, dI) vwCl [(tw, .int)] s := hK
  have hl := lv_entry ([.ref h0, .int p0, .int p1, .int p2]) (n := 4) (Nat.le_of_ble_eq_true rfl)
  rw [lg_entry_eq]
  generalize (lg_sl ([.ref h0, .int p0, .int p1, .int p2]) ++ List.replicate (4 - (lg_sl ([.ref h0, .int p0, .int p1, .int p2])).length) Slot.unset).toArray = ls at hl ⊢
  have hl : lv_has ls 4 [(0, .ref h0), (1, .int p0), (2, .int p1), (3, .int p2)] := hl
  refine lv_iload_n hx hb dX8_load_0 rfl (lv_at hl 1 rfl) ?_
  refine lv_iload_n hx hb dX8_load_1 rfl (lv_at hl 2 rfl) ?_
  have hPc := hP.sub (ws' := []) [] rfl
  have hDc := hD.sub (ws' := []) [] (by decide) rfl
  have hKc := hK.sub (tys' := []) [] rfl
  have hFc := va_free (wc := []) hD hS hA [] rfl
  refine va_calli (va_runS (As := [.int p0, .int p1]) (rest := []) ⟨hx, hb, hml, hown, hts⟩ (c_isDiskWord l dC dI p0 p1 H.size) (va_cwS 2 hts gX8_load_X8_isDiskWord rfl rfl rfl (by decide +kernel) ⟨Nat.le_of_ble_eq_true rfl, Nat.le_of_ble_eq_true rfl⟩) ⟨fun a U g mk q => by obtain ⟨q0, q1, qP, qK, qD⟩ := q; exact ⟨q0, q1, qP, va_K.moved (u := U) (U := U.calling g mk a) (Vm.Alike.refl U.vm) qK, qD⟩, fun U hU hW => ⟨rfl, by rw [hU], by rw [hU]; exact hPc, va_K.moved hW.alike hKc, hDc.weaken (fun _ _ _ _ => trivial)⟩⟩ rfl rfl hl.1 rfl (lv_room (Nat.le_of_ble_eq_true rfl)) dX8_load_2 ⟨Nat.le_of_ble_eq_true rfl, Nat.le_of_ble_eq_true rfl⟩) hS (fun q _ h => hFc q h) hFc (fun r1 u2 t H1 locs ht hvm hw hB hz1 hk1 hS => ?_)
  obtain ⟨hP1, hK1, hD1⟩ := hB
  rw [ht] at hP1
  have hK1 := va_K.moved hvm.symm hK1
  try dsimp only at hw
  obtain ⟨hP, hD⟩ := va_join (wr := [(h0, .inr (7, [.ref oB, .ref oP])), (oB, .inr (0, [.ref am, .ref oM, .ref oS, .ref oK, .ref oL, .ref oD])), (oD, .inr (1, [.int 128, .int 0, .ref aw, .int 0, .int 0, .int 0, .int 0, .int 0, .int 0, .int 0])), (aw, .inl (tw, 128, .inl (fun _ => 0)))]) (w1 := []) hP hD [] [0, 1, 2, 3] rfl rfl (by decide) (by decide) hk1 hFc hP1 hD1
  have hK := (hK.sub (tys' := [(tw, .int)]) [0] rfl).app hK1
  generalize H1 = H at hP hS ⊢
  have hP : va_P (dC, dI) vwCl [(h0, .inr (7, [.ref oB, .ref oP])), (oB, .inr (0, [.ref am, .ref oM, .ref oS, .ref oK, .ref oL, .ref oD])), (oD, .inr (1, [.int 128, .int 0, .ref aw, .int 0, .int 0, .int 0, .int 0, .int 0, .int 0, .int 0])), (aw, .inl (tw, 128, .inl (fun _ => 0)))] H := hP
  have hD : va_D A [(h0, .inr (7, [.ref oB, .ref oP])), (oB, .inr (0, [.ref am, .ref oM, .ref oS, .ref oK, .ref oL, .ref oD])), (oD, .inr (1, [.int 128, .int 0, .ref aw, .int 0, .int 0, .int 0, .int 0, .int 0, .int 0, .int 0])), (aw, .inl (tw, 128, .inl (fun _ => 0)))] := hD
  have hK : va_K (dC, dI) vwCl [(tw, .int)] s := hK
  rcases hw with ⟨rfl, _, _, _, _⟩ | ⟨rfl, _⟩
  · skip
    refine lv_if_eq (tgt := 15) hx hb dX8_load_5 (by decide) (fun c3 => ?_) (fun c3 => ?_)
    · exact absurd c3 (by decide)
    · skip
      refine lv_iload_n hx hb dX8_load_8 rfl (lv_at hl 3 rfl) ?_
      have hPc := hP.sub (ws' := []) [] rfl
      have hDc := hD.sub (ws' := []) [] (by decide) rfl
      have hKc := hK.sub (tys' := []) [] rfl
      have hFc := va_free (wc := []) hD hS hA [] rfl
      refine va_calli (va_runS (As := [.int p2]) (rest := []) ⟨hx, hb, hml, hown, hts⟩ (c_isWord l dC dI p2 H.size) (va_cwS 1 hts gX8_load_X8_isWord rfl rfl rfl (by decide +kernel) ⟨Nat.le_of_ble_eq_true rfl, Nat.le_of_ble_eq_true rfl⟩) ⟨fun a U g mk q => by obtain ⟨q0, q1, qP, qK, qD⟩ := q; exact ⟨q0, q1, qP, va_K.moved (u := U) (U := U.calling g mk a) (Vm.Alike.refl U.vm) qK, qD⟩, fun U hU hW => ⟨rfl, by rw [hU], by rw [hU]; exact hPc, va_K.moved hW.alike hKc, hDc.weaken (fun _ _ _ _ => trivial)⟩⟩ rfl rfl hl.1 rfl (lv_room (Nat.le_of_ble_eq_true rfl)) dX8_load_9 ⟨Nat.le_of_ble_eq_true rfl, Nat.le_of_ble_eq_true rfl⟩) hS (fun q _ h => hFc q h) hFc (fun r4 u5 t H1 locs ht hvm hw hB hz1 hk1 hS => ?_)
      obtain ⟨hP1, hK1, hD1⟩ := hB
      rw [ht] at hP1
      have hK1 := va_K.moved hvm.symm hK1
      try dsimp only at hw
      obtain ⟨hP, hD⟩ := va_join (wr := [(h0, .inr (7, [.ref oB, .ref oP])), (oB, .inr (0, [.ref am, .ref oM, .ref oS, .ref oK, .ref oL, .ref oD])), (oD, .inr (1, [.int 128, .int 0, .ref aw, .int 0, .int 0, .int 0, .int 0, .int 0, .int 0, .int 0])), (aw, .inl (tw, 128, .inl (fun _ => 0)))]) (w1 := []) hP hD [] [0, 1, 2, 3] rfl rfl (by decide) (by decide) hk1 hFc hP1 hD1
      have hK := (hK.sub (tys' := [(tw, .int)]) [0] rfl).app hK1
      generalize H1 = H at hP hS ⊢
      have hP : va_P (dC, dI) vwCl [(h0, .inr (7, [.ref oB, .ref oP])), (oB, .inr (0, [.ref am, .ref oM, .ref oS, .ref oK, .ref oL, .ref oD])), (oD, .inr (1, [.int 128, .int 0, .ref aw, .int 0, .int 0, .int 0, .int 0, .int 0, .int 0, .int 0])), (aw, .inl (tw, 128, .inl (fun _ => 0)))] H := hP
      have hD : va_D A [(h0, .inr (7, [.ref oB, .ref oP])), (oB, .inr (0, [.ref am, .ref oM, .ref oS, .ref oK, .ref oL, .ref oD])), (oD, .inr (1, [.int 128, .int 0, .ref aw, .int 0, .int 0, .int 0, .int 0, .int 0, .int 0, .int 0])), (aw, .inl (tw, 128, .inl (fun _ => 0)))] := hD
      have hK : va_K (dC, dI) vwCl [(tw, .int)] s := hK
      rcases hw with ⟨rfl, _, _⟩ | ⟨rfl, _⟩
      · skip
        refine lv_if_ne (tgt := 23) hx hb dX8_load_12 (by decide) (fun c6 => ?_) (fun c6 => ?_)
        · skip
          refine lv_aload_n hx hb dX8_load_23 rfl (lv_at hl 0 rfl) ?_
          refine va_get (D := (dC, dI)) (ci := 7) (v := .ref oB) (C := RX8) (T := TX8) (N := 2) hx hb hts (by decide +kernel) hown hK hP 0 rfl rfl 0 (by decide) (hts (.fieldLink RX8 10 "UnibusMachine" "bus" "LUnibusMachine$Bus;") (by decide +kernel)) (fun _ h9 => h9) rfl dX8_load_24 ?_
          refine va_get (D := (dC, dI)) (ci := 0) (v := .ref oD) (C := RX0) (T := TX0) (N := 6) hx hb hts (by decide +kernel) hown hK hP 1 rfl rfl 5 (by decide) (hts (.fieldLink RX8 110 "UnibusMachine$Bus" "drive" "LUnibusMachine$Drive;") (by decide +kernel)) (fun _ h9 => h9) rfl dX8_load_27 ?_
          refine va_get (D := (dC, dI)) (ci := 1) (v := .ref aw) (C := RX1) (T := TX1) (N := 10) hx hb hts (by decide +kernel) hown hK hP 2 rfl rfl 2 (by decide) (hts (.fieldLink RX8 114 "UnibusMachine$Drive" "words" "[I") (by decide +kernel)) (fun _ h9 => h9) rfl dX8_load_30 ?_
          refine lv_bipush (v := 16) hx hb dX8_load_33 (by decide) ?_
          refine lv_iload_n hx hb dX8_load_35 rfl (lv_at hl 1 rfl) ?_
          refine lv_imul hx hb dX8_load_36 ?_
          refine lv_iload_n hx hb dX8_load_37 rfl (lv_at hl 2 rfl) ?_
          refine lv_iadd hx hb dX8_load_38 ?_
          have f1 := fz_16 p0 p1 (by omega) (by omega) (by omega) (by omega)
          refine lv_iload_n hx hb dX8_load_39 rfl (lv_at hl 3 rfl) ?_
          refine va_iast (D := (dC, dI)) hx hb hK hP hD hS 3 0 rfl rfl (vp_in_iff.mpr (by constructor <;> omega)) dX8_load_40 (fun H locs hP hD hS => ?_)
          have hP : va_P (dC, dI) vwCl [(h0, .inr (7, [.ref oB, .ref oP])), (oB, .inr (0, [.ref am, .ref oM, .ref oS, .ref oK, .ref oL, .ref oD])), (oD, .inr (1, [.int 128, .int 0, .ref aw, .int 0, .int 0, .int 0, .int 0, .int 0, .int 0, .int 0])), (aw, .inl (tw, 128, .inl (upd (fun _ => 0) ((16 * p0) + p1 : Int32).toNatClampNeg p2)))] H := hP
          have hD : va_D A [(h0, .inr (7, [.ref oB, .ref oP])), (oB, .inr (0, [.ref am, .ref oM, .ref oS, .ref oK, .ref oL, .ref oD])), (oD, .inr (1, [.int 128, .int 0, .ref aw, .int 0, .int 0, .int 0, .int 0, .int 0, .int 0, .int 0])), (aw, .inl (tw, 128, .inl (upd (fun _ => 0) ((16 * p0) + p1 : Int32).toNatClampNeg p2)))] := hD
          have hP9 := hP.sub (ws' := []) [] rfl
          have hD9 := hD.sub (ws' := []) [] (by decide) rfl
          have hK9 := hK.sub (tys' := []) [] rfl
          refine vx_ret ?_
          refine W.widen (k := 1) (n := 6) (Nat.le_of_ble_eq_true rfl) (Nat.le_of_ble_eq_true rfl) ?_
          exact W.vret hx hb hr (fun t ht hW => ⟨⟨(), rfl, (by omega), by rw [ht]; exact hP9, va_K.moved hW.alike hK9, hD9⟩, hS.F ht⟩) hS.2.2 dX8_load_41
        · exact absurd c6 (by decide)
      · skip
        refine lv_if_ne (tgt := 23) hx hb dX8_load_12 (by decide) (fun c7 => ?_) (fun c7 => ?_)
        · exact absurd c7 (by decide)
        · skip
          have hpx9 : "java/lang/IllegalArgumentException" = "java/lang/IllegalArgumentException" ∧ ¬ ((0 ≤ p0.toInt ∧ p0.toInt < 8 ∧ 0 ≤ p1.toInt ∧ p1.toInt < 16) ∧ (0 ≤ p2.toInt ∧ p2.toInt ≤ 65535)) := by exact ⟨rfl, by omega⟩
          exact vx_throw0 (names := ["java/lang/RuntimeException", "java/lang/Exception"]) (cls := "java/lang/IllegalArgumentException") (ik := 32) (ic := 34) (A := A) hx hb hlt hown (by decide) (by decide) (hts (.classLink RX8 32 "java/lang/IllegalArgumentException") (by decide +kernel)) (hts (.initialized "java/lang/IllegalArgumentException") (by decide +kernel)) (vx_hat (fun w h => hts w (List.mem_cons_of_mem _ (List.mem_append_right _ h))) (by decide +kernel) (vx_c (va_Nw.use rfl hcI) (vx_c (va_Nw.use rfl hd1) (vx_c (va_Nw.use rfl hd2) (vx_c (va_Nw.use rfl hd3) vx_n))))) (by decide +kernel) hZU hZN hS (by rw [hml]; exact hl.1) dX8_load_15 dX8_load_18 dX8_load_19 dX8_load_22 (fun x h => (htab x h).elim) (Nat.le_of_ble_eq_true rfl) (Nat.le_of_ble_eq_true rfl) (Nat.le_of_ble_eq_true rfl) (Nat.le_of_ble_eq_true rfl) hlocks (fun t hal hz hk => ⟨(), trivial, hpx9, Nat.le_trans hS.1 hz, fun q h1 h2 => (hk q (Nat.lt_of_lt_of_le h1 hS.1)).trans (hS.2.1 q h1 h2)⟩) hS.2.2 (Nat.le_of_ble_eq_true rfl) (Nat.le_of_ble_eq_true rfl)
  · skip
    refine lv_if_eq (tgt := 15) hx hb dX8_load_5 (by decide) (fun c8 => ?_) (fun c8 => ?_)
    · skip
      have hpx9 : "java/lang/IllegalArgumentException" = "java/lang/IllegalArgumentException" ∧ ¬ ((0 ≤ p0.toInt ∧ p0.toInt < 8 ∧ 0 ≤ p1.toInt ∧ p1.toInt < 16) ∧ (0 ≤ p2.toInt ∧ p2.toInt ≤ 65535)) := by exact ⟨rfl, by omega⟩
      exact vx_throw0 (names := ["java/lang/RuntimeException", "java/lang/Exception"]) (cls := "java/lang/IllegalArgumentException") (ik := 32) (ic := 34) (A := A) hx hb hlt hown (by decide) (by decide) (hts (.classLink RX8 32 "java/lang/IllegalArgumentException") (by decide +kernel)) (hts (.initialized "java/lang/IllegalArgumentException") (by decide +kernel)) (vx_hat (fun w h => hts w (List.mem_cons_of_mem _ (List.mem_append_right _ h))) (by decide +kernel) (vx_c (va_Nw.use rfl hcI) (vx_c (va_Nw.use rfl hd1) (vx_c (va_Nw.use rfl hd2) (vx_c (va_Nw.use rfl hd3) vx_n))))) (by decide +kernel) hZU hZN hS (by rw [hml]; exact hl.1) dX8_load_15 dX8_load_18 dX8_load_19 dX8_load_22 (fun x h => (htab x h).elim) (Nat.le_of_ble_eq_true rfl) (Nat.le_of_ble_eq_true rfl) (Nat.le_of_ble_eq_true rfl) (Nat.le_of_ble_eq_true rfl) hlocks (fun t hal hz hk => ⟨(), trivial, hpx9, Nat.le_trans hS.1 hz, fun q h1 h2 => (hk q (Nat.lt_of_lt_of_le h1 hS.1)).trans (hS.2.1 q h1 h2)⟩) hS.2.2 (Nat.le_of_ble_eq_true rfl) (Nat.le_of_ble_eq_true rfl)
    · exact absurd c8 (by decide)
set_option maxHeartbeats 4000000 in
set_option maxRecDepth 100000 in
theorem c_disk (l : Launch) (dC : Nat → ClassId) (dI : Nat → Nat → Nat) (h0 : Nat) (oB : Nat) (oP : Nat) (am : Nat) (oM : Nat) (oS : Nat) (oK : Nat) (oL : Nat) (oD : Nat) (aw : Nat) (tw : ClassId) (p0 : Int32) (p1 : Int32) (sz : Nat) (hlt : l.stackTraces = false) : vx_Met l yX8_disk wsX8_disk ({ frames := 6, cells := 1, slots := 6, locals := 81 } : Room) (va_Pc [.ref h0, .int p0, .int p1] (fun U => U.heap.size = sz ∧ va_P (dC, dI) vwCl [(h0, .inr (7, [.ref oB, .ref oP])), (oB, .inr (0, [.ref am, .ref oM, .ref oS, .ref oK, .ref oL, .ref oD])), (oD, .inr (1, [.int 128, .int 0, .ref aw, .int 0, .int 0, .int 0, .int 0, .int 0, .int 0, .int 0])), (aw, .inl (tw, 128, .inl (fun _ => 0)))] U.heap ∧ va_K (dC, dI) vwCl [(tw, .int)] U ∧ va_D (fun _ => True) [(h0, .inr (7, [.ref oB, .ref oP])), (oB, .inr (0, [.ref am, .ref oM, .ref oS, .ref oK, .ref oL, .ref oD])), (oD, .inr (1, [.int 128, .int 0, .ref aw, .int 0, .int 0, .int 0, .int 0, .int 0, .int 0, .int 0])), (aw, .inl (tw, 128, .inl (fun _ => 0)))] ∧ vx_Zq Bundle.tN "UNASSIGNED_STACK" Bundle.steD (va_A [(h0, .inr (7, [.ref oB, .ref oP])), (oB, .inr (0, [.ref am, .ref oM, .ref oS, .ref oK, .ref oL, .ref oD])), (oD, .inr (1, [.int 128, .int 0, .ref aw, .int 0, .int 0, .int 0, .int 0, .int 0, .int 0, .int 0])), (aw, .inl (tw, 128, .inl (fun _ => 0)))] sz) U U.heap ∧ vx_Zq Bundle.tN "SUPPRESSED_SENTINEL" Bundle.listD (va_A [(h0, .inr (7, [.ref oB, .ref oP])), (oB, .inr (0, [.ref am, .ref oM, .ref oS, .ref oK, .ref oL, .ref oD])), (oD, .inr (1, [.int 128, .int 0, .ref aw, .int 0, .int 0, .int 0, .int 0, .int 0, .int 0, .int 0])), (aw, .inl (tw, 128, .inl (fun _ => 0)))] sz) U U.heap ∧ va_Nw (.declares (Bundle.init0 "java/lang/RuntimeException")) U ∧ va_Nw (.declares (Bundle.init0 "java/lang/Exception")) U ∧ va_Nw (.declares (Bundle.init0 Bundle.tN)) U ∧ va_Nw (.castable "java/lang/IllegalArgumentException" "java/lang/IllegalArgumentException") U)) (va_Qi (fun (r : Int32) (u : Unit) => r = 0 ∧ (0 ≤ p0.toInt ∧ p0.toInt < 8 ∧ 0 ≤ p1.toInt ∧ p1.toInt < 16)) (fun (u : Unit) (t : State) => va_P (dC, dI) vwCl [] t.heap ∧ va_K (dC, dI) vwCl [] t ∧ va_D (va_A [(h0, .inr (7, [.ref oB, .ref oP])), (oB, .inr (0, [.ref am, .ref oM, .ref oS, .ref oK, .ref oL, .ref oD])), (oD, .inr (1, [.int 128, .int 0, .ref aw, .int 0, .int 0, .int 0, .int 0, .int 0, .int 0, .int 0])), (aw, .inl (tw, 128, .inl (fun _ => 0)))] sz) []) (va_A [(h0, .inr (7, [.ref oB, .ref oP])), (oB, .inr (0, [.ref am, .ref oM, .ref oS, .ref oK, .ref oL, .ref oD])), (oD, .inr (1, [.int 128, .int 0, .ref aw, .int 0, .int 0, .int 0, .int 0, .int 0, .int 0, .int 0])), (aw, .inl (tw, 128, .inl (fun _ => 0)))] sz)) (vx_X (fun _ : Unit => True) (fun (E : String) (_ : Unit) (_ : State) => E = "java/lang/IllegalArgumentException" ∧ ¬ ((0 ≤ p0.toInt ∧ p0.toInt < 8 ∧ 0 ≤ p1.toInt ∧ p1.toInt < 16))) (va_A [(h0, .inr (7, [.ref oB, .ref oP])), (oB, .inr (0, [.ref am, .ref oM, .ref oS, .ref oK, .ref oL, .ref oD])), (oD, .inr (1, [.int 128, .int 0, .ref aw, .int 0, .int 0, .int 0, .int 0, .int 0, .int 0, .int 0])), (aw, .inl (tw, 128, .inl (fun _ => 0)))] sz)) 1 6 (va_A [(h0, .inr (7, [.ref oB, .ref oP])), (oB, .inr (0, [.ref am, .ref oM, .ref oS, .ref oK, .ref oL, .ref oD])), (oD, .inr (1, [.int 128, .int 0, .ref aw, .int 0, .int 0, .int 0, .int 0, .int 0, .int 0, .int 0])), (aw, .inl (tw, 128, .inl (fun _ => 0)))] sz) := by
  refine vx_ofW (cc := cX8_disk) (maxL := 3) (ret := (some .int)) (by decide) rfl ?_
  intro p e s m args below meth c s₁ B hml htab hv
  obtain ⟨rfl, hsz, hP, hK, hD0, hZU, hZN, hd1, hd2, hd3, hcI⟩ := hv
  have hx := B.exec
  have hb := B.bytes
  have hr := B.returns
  have hts := atoms_spec (ws := wsX8_disk) B.pre
  have hown : s.vm.findClass RX8 = some m.cls := findClass_of_methodNamed B.named
  have hlocks := B.notSynchronized
  subst hsz
  have hD := hD0.self (sz := s.heap.size)
  generalize hAe : va_A [(h0, .inr (7, [.ref oB, .ref oP])), (oB, .inr (0, [.ref am, .ref oM, .ref oS, .ref oK, .ref oL, .ref oD])), (oD, .inr (1, [.int 128, .int 0, .ref aw, .int 0, .int 0, .int 0, .int 0, .int 0, .int 0, .int 0])), (aw, .inl (tw, 128, .inl (fun _ => 0)))] s.heap.size = A at hD hZU hZN ⊢
  have hA : ∀ q : Nat, s.heap.size ≤ q → A q := fun q h => by rw [← hAe]; exact Or.inr h
  have hS0 : ∀ G : Heap, s.heap = G → va_S A s.heap G [] := fun G h => by subst h; exact va_S.rf
  generalize hHe : s.heap = H at hP ⊢
  have hS := hS0 H hHe
  have hP : va_P (dC, dI) vwCl [(h0, .inr (7, [.ref oB, .ref oP])), (oB, .inr (0, [.ref am, .ref oM, .ref oS, .ref oK, .ref oL, .ref oD])), (oD, .inr (1, [.int 128, .int 0, .ref aw, .int 0, .int 0, .int 0, .int 0, .int 0, .int 0, .int 0])), (aw, .inl (tw, 128, .inl (fun _ => 0)))] H := hP
  have hD : va_D A [(h0, .inr (7, [.ref oB, .ref oP])), (oB, .inr (0, [.ref am, .ref oM, .ref oS, .ref oK, .ref oL, .ref oD])), (oD, .inr (1, [.int 128, .int 0, .ref aw, .int 0, .int 0, .int 0, .int 0, .int 0, .int 0, .int 0])), (aw, .inl (tw, 128, .inl (fun _ => 0)))] := hD
  have hK : va_K (dC, dI) vwCl [(tw, .int)] s := hK
  have hl := lv_entry ([.ref h0, .int p0, .int p1]) (n := 3) (Nat.le_of_ble_eq_true rfl)
  rw [lg_entry_eq]
  generalize (lg_sl ([.ref h0, .int p0, .int p1]) ++ List.replicate (3 - (lg_sl ([.ref h0, .int p0, .int p1])).length) Slot.unset).toArray = ls at hl ⊢
  have hl : lv_has ls 3 [(0, .ref h0), (1, .int p0), (2, .int p1)] := hl
  refine lv_iload_n hx hb dX8_disk_0 rfl (lv_at hl 1 rfl) ?_
  refine lv_iload_n hx hb dX8_disk_1 rfl (lv_at hl 2 rfl) ?_
  have hPc := hP.sub (ws' := []) [] rfl
  have hDc := hD.sub (ws' := []) [] (by decide) rfl
  have hKc := hK.sub (tys' := []) [] rfl
  have hFc := va_free (wc := []) hD hS hA [] rfl
  refine va_calli (va_runS (As := [.int p0, .int p1]) (rest := []) ⟨hx, hb, hml, hown, hts⟩ (c_isDiskWord l dC dI p0 p1 H.size) (va_cwS 2 hts gX8_disk_X8_isDiskWord rfl rfl rfl (by decide +kernel) ⟨Nat.le_of_ble_eq_true rfl, Nat.le_of_ble_eq_true rfl⟩) ⟨fun a U g mk q => by obtain ⟨q0, q1, qP, qK, qD⟩ := q; exact ⟨q0, q1, qP, va_K.moved (u := U) (U := U.calling g mk a) (Vm.Alike.refl U.vm) qK, qD⟩, fun U hU hW => ⟨rfl, by rw [hU], by rw [hU]; exact hPc, va_K.moved hW.alike hKc, hDc.weaken (fun _ _ _ _ => trivial)⟩⟩ rfl rfl hl.1 rfl (lv_room (Nat.le_of_ble_eq_true rfl)) dX8_disk_2 ⟨Nat.le_of_ble_eq_true rfl, Nat.le_of_ble_eq_true rfl⟩) hS (fun q _ h => hFc q h) hFc (fun r1 u2 t H1 locs ht hvm hw hB hz1 hk1 hS => ?_)
  obtain ⟨hP1, hK1, hD1⟩ := hB
  rw [ht] at hP1
  have hK1 := va_K.moved hvm.symm hK1
  try dsimp only at hw
  obtain ⟨hP, hD⟩ := va_join (wr := [(h0, .inr (7, [.ref oB, .ref oP])), (oB, .inr (0, [.ref am, .ref oM, .ref oS, .ref oK, .ref oL, .ref oD])), (oD, .inr (1, [.int 128, .int 0, .ref aw, .int 0, .int 0, .int 0, .int 0, .int 0, .int 0, .int 0])), (aw, .inl (tw, 128, .inl (fun _ => 0)))]) (w1 := []) hP hD [] [0, 1, 2, 3] rfl rfl (by decide) (by decide) hk1 hFc hP1 hD1
  have hK := (hK.sub (tys' := [(tw, .int)]) [0] rfl).app hK1
  generalize H1 = H at hP hS ⊢
  have hP : va_P (dC, dI) vwCl [(h0, .inr (7, [.ref oB, .ref oP])), (oB, .inr (0, [.ref am, .ref oM, .ref oS, .ref oK, .ref oL, .ref oD])), (oD, .inr (1, [.int 128, .int 0, .ref aw, .int 0, .int 0, .int 0, .int 0, .int 0, .int 0, .int 0])), (aw, .inl (tw, 128, .inl (fun _ => 0)))] H := hP
  have hD : va_D A [(h0, .inr (7, [.ref oB, .ref oP])), (oB, .inr (0, [.ref am, .ref oM, .ref oS, .ref oK, .ref oL, .ref oD])), (oD, .inr (1, [.int 128, .int 0, .ref aw, .int 0, .int 0, .int 0, .int 0, .int 0, .int 0, .int 0])), (aw, .inl (tw, 128, .inl (fun _ => 0)))] := hD
  have hK : va_K (dC, dI) vwCl [(tw, .int)] s := hK
  rcases hw with ⟨rfl, _, _, _, _⟩ | ⟨rfl, _⟩
  · skip
    refine lv_if_ne (tgt := 16) hx hb dX8_disk_5 (by decide) (fun c3 => ?_) (fun c3 => ?_)
    · skip
      refine lv_aload_n hx hb dX8_disk_16 rfl (lv_at hl 0 rfl) ?_
      refine va_get (D := (dC, dI)) (ci := 7) (v := .ref oB) (C := RX8) (T := TX8) (N := 2) hx hb hts (by decide +kernel) hown hK hP 0 rfl rfl 0 (by decide) (hts (.fieldLink RX8 10 "UnibusMachine" "bus" "LUnibusMachine$Bus;") (by decide +kernel)) (fun _ h9 => h9) rfl dX8_disk_17 ?_
      refine va_get (D := (dC, dI)) (ci := 0) (v := .ref oD) (C := RX0) (T := TX0) (N := 6) hx hb hts (by decide +kernel) hown hK hP 1 rfl rfl 5 (by decide) (hts (.fieldLink RX8 110 "UnibusMachine$Bus" "drive" "LUnibusMachine$Drive;") (by decide +kernel)) (fun _ h9 => h9) rfl dX8_disk_20 ?_
      refine va_get (D := (dC, dI)) (ci := 1) (v := .ref aw) (C := RX1) (T := TX1) (N := 10) hx hb hts (by decide +kernel) hown hK hP 2 rfl rfl 2 (by decide) (hts (.fieldLink RX8 114 "UnibusMachine$Drive" "words" "[I") (by decide +kernel)) (fun _ h9 => h9) rfl dX8_disk_23 ?_
      refine lv_bipush (v := 16) hx hb dX8_disk_26 (by decide) ?_
      refine lv_iload_n hx hb dX8_disk_28 rfl (lv_at hl 1 rfl) ?_
      refine lv_imul hx hb dX8_disk_29 ?_
      refine lv_iload_n hx hb dX8_disk_30 rfl (lv_at hl 2 rfl) ?_
      refine lv_iadd hx hb dX8_disk_31 ?_
      have f1 := fz_16 p0 p1 (by omega) (by omega) (by omega) (by omega)
      refine va_iald (D := (dC, dI)) hx hb hK hP 3 0 rfl rfl (vp_in_iff.mpr (by constructor <;> omega)) dX8_disk_32 ?_
      have hP9 := hP.sub (ws' := []) [] rfl
      have hD9 := hD.sub (ws' := []) [] (by decide) rfl
      have hK9 := hK.sub (tys' := []) [] rfl
      refine vx_ret ?_
      refine W.widen (k := 1) (n := 6) (Nat.le_of_ble_eq_true rfl) (Nat.le_of_ble_eq_true rfl) ?_
      exact W.iret (v := 0) hx hb hr (fun t ht hW => ⟨⟨0, (), rfl, ⟨rfl, by omega⟩, by rw [ht]; exact hP9, va_K.moved hW.alike hK9, hD9⟩, hS.F ht⟩) hS.2.2 dX8_disk_33
    · exact absurd c3 (by decide)
  · skip
    refine lv_if_ne (tgt := 16) hx hb dX8_disk_5 (by decide) (fun c4 => ?_) (fun c4 => ?_)
    · exact absurd c4 (by decide)
    · skip
      have hpx9 : "java/lang/IllegalArgumentException" = "java/lang/IllegalArgumentException" ∧ ¬ ((0 ≤ p0.toInt ∧ p0.toInt < 8 ∧ 0 ≤ p1.toInt ∧ p1.toInt < 16)) := by exact ⟨rfl, by omega⟩
      exact vx_throw0 (names := ["java/lang/RuntimeException", "java/lang/Exception"]) (cls := "java/lang/IllegalArgumentException") (ik := 32) (ic := 34) (A := A) hx hb hlt hown (by decide) (by decide) (hts (.classLink RX8 32 "java/lang/IllegalArgumentException") (by decide +kernel)) (hts (.initialized "java/lang/IllegalArgumentException") (by decide +kernel)) (vx_hat (fun w h => hts w (List.mem_cons_of_mem _ (List.mem_append_right _ h))) (by decide +kernel) (vx_c (va_Nw.use rfl hcI) (vx_c (va_Nw.use rfl hd1) (vx_c (va_Nw.use rfl hd2) (vx_c (va_Nw.use rfl hd3) vx_n))))) (by decide +kernel) hZU hZN hS (by rw [hml]; exact hl.1) dX8_disk_8 dX8_disk_11 dX8_disk_12 dX8_disk_15 (fun x h => (htab x h).elim) (Nat.le_of_ble_eq_true rfl) (Nat.le_of_ble_eq_true rfl) (Nat.le_of_ble_eq_true rfl) (Nat.le_of_ble_eq_true rfl) hlocks (fun t hal hz hk => ⟨(), trivial, hpx9, Nat.le_trans hS.1 hz, fun q h1 h2 => (hk q (Nat.lt_of_lt_of_le h1 hS.1)).trans (hS.2.1 q h1 h2)⟩) hS.2.2 (Nat.le_of_ble_eq_true rfl) (Nat.le_of_ble_eq_true rfl)
set_option maxHeartbeats 4000000 in
set_option maxRecDepth 100000 in
theorem c_peek (l : Launch) (dC : Nat → ClassId) (dI : Nat → Nat → Nat) (h0 : Nat) (am : Nat) (oM : Nat) (oS : Nat) (oK : Nat) (oL : Nat) (oD : Nat) (ad : Nat) (ab : Nat) (td : ClassId) (tb : ClassId) (ap : Nat) (aw : Nat) (p0 : Int32) (sz : Nat) (h9 : 57344 ≤ p0.toInt) : Met l yX0_peek wsX0_peek ({ frames := 0, cells := 0, slots := 0, locals := 0 } : Room) (va_Pc [.ref h0, .int p0] (fun U => U.heap.size = sz ∧ va_P (dC, dI) vwCl [(h0, .inr (0, [.ref am, .ref oM, .ref oS, .ref oK, .ref oL, .ref oD])), (oM, .inr (3, [.ref ad, .ref ab, .int 0])), (ad, .inl (td, 16, .inl (fun _ => 0))), (ab, .inl (tb, 16, .inl (fun _ => 0))), (oS, .inr (6, [.int 0, .int (-1)])), (oK, .inr (2, [.int 0, .int 0, .int 0])), (oL, .inr (4, [.int 128, .int 0, .ref ap, .int 0, .int 0, .int 0, .int 0])), (oD, .inr (1, [.int 128, .int 0, .ref aw, .int 0, .int 0, .int 0, .int 0, .int 0, .int 0, .int 0]))] U.heap ∧ va_K (dC, dI) vwCl [(td, .int), (tb, .int)] U ∧ va_D (fun _ => True) [(h0, .inr (0, [.ref am, .ref oM, .ref oS, .ref oK, .ref oL, .ref oD])), (oM, .inr (3, [.ref ad, .ref ab, .int 0])), (ad, .inl (td, 16, .inl (fun _ => 0))), (ab, .inl (tb, 16, .inl (fun _ => 0))), (oS, .inr (6, [.int 0, .int (-1)])), (oK, .inr (2, [.int 0, .int 0, .int 0])), (oL, .inr (4, [.int 128, .int 0, .ref ap, .int 0, .int 0, .int 0, .int 0])), (oD, .inr (1, [.int 128, .int 0, .ref aw, .int 0, .int 0, .int 0, .int 0, .int 0, .int 0, .int 0]))])) (va_Qi (fun (r : Int32) (u : Unit) => r = dv p0.toInt) (fun (u : Unit) (t : State) => va_P (dC, dI) vwCl [] t.heap ∧ va_K (dC, dI) vwCl [] t ∧ va_D (va_A [(h0, .inr (0, [.ref am, .ref oM, .ref oS, .ref oK, .ref oL, .ref oD])), (oM, .inr (3, [.ref ad, .ref ab, .int 0])), (ad, .inl (td, 16, .inl (fun _ => 0))), (ab, .inl (tb, 16, .inl (fun _ => 0))), (oS, .inr (6, [.int 0, .int (-1)])), (oK, .inr (2, [.int 0, .int 0, .int 0])), (oL, .inr (4, [.int 128, .int 0, .ref ap, .int 0, .int 0, .int 0, .int 0])), (oD, .inr (1, [.int 128, .int 0, .ref aw, .int 0, .int 0, .int 0, .int 0, .int 0, .int 0, .int 0]))] sz) []) (va_A [(h0, .inr (0, [.ref am, .ref oM, .ref oS, .ref oK, .ref oL, .ref oD])), (oM, .inr (3, [.ref ad, .ref ab, .int 0])), (ad, .inl (td, 16, .inl (fun _ => 0))), (ab, .inl (tb, 16, .inl (fun _ => 0))), (oS, .inr (6, [.int 0, .int (-1)])), (oK, .inr (2, [.int 0, .int 0, .int 0])), (oL, .inr (4, [.int 128, .int 0, .ref ap, .int 0, .int 0, .int 0, .int 0])), (oD, .inr (1, [.int 128, .int 0, .ref aw, .int 0, .int 0, .int 0, .int 0, .int 0, .int 0, .int 0]))] sz)) 0 0 (va_A [(h0, .inr (0, [.ref am, .ref oM, .ref oS, .ref oK, .ref oL, .ref oD])), (oM, .inr (3, [.ref ad, .ref ab, .int 0])), (ad, .inl (td, 16, .inl (fun _ => 0))), (ab, .inl (tb, 16, .inl (fun _ => 0))), (oS, .inr (6, [.int 0, .int (-1)])), (oK, .inr (2, [.int 0, .int 0, .int 0])), (oL, .inr (4, [.int 128, .int 0, .ref ap, .int 0, .int 0, .int 0, .int 0])), (oD, .inr (1, [.int 128, .int 0, .ref aw, .int 0, .int 0, .int 0, .int 0, .int 0, .int 0, .int 0]))] sz) := by
  refine Met.ofW (cc := cX0_peek) (maxL := 2) (ret := (some .int)) (by decide) rfl ?_
  intro p e s m args below meth c s₁ B hml hv
  obtain ⟨rfl, hsz, hP, hK, hD0⟩ := hv
  have hx := B.exec
  have hb := B.bytes
  have hr := B.returns
  have hts := atoms_spec (ws := wsX0_peek) B.pre
  have hown : s.vm.findClass RX0 = some m.cls := findClass_of_methodNamed B.named
  have hlocks := B.notSynchronized
  subst hsz
  have hD := hD0.self (sz := s.heap.size)
  generalize hAe : va_A [(h0, .inr (0, [.ref am, .ref oM, .ref oS, .ref oK, .ref oL, .ref oD])), (oM, .inr (3, [.ref ad, .ref ab, .int 0])), (ad, .inl (td, 16, .inl (fun _ => 0))), (ab, .inl (tb, 16, .inl (fun _ => 0))), (oS, .inr (6, [.int 0, .int (-1)])), (oK, .inr (2, [.int 0, .int 0, .int 0])), (oL, .inr (4, [.int 128, .int 0, .ref ap, .int 0, .int 0, .int 0, .int 0])), (oD, .inr (1, [.int 128, .int 0, .ref aw, .int 0, .int 0, .int 0, .int 0, .int 0, .int 0, .int 0]))] s.heap.size = A at hD ⊢
  have hA : ∀ q : Nat, s.heap.size ≤ q → A q := fun q h => by rw [← hAe]; exact Or.inr h
  have hS0 : ∀ G : Heap, s.heap = G → va_S A s.heap G [] := fun G h => by subst h; exact va_S.rf
  generalize hHe : s.heap = H at hP ⊢
  have hS := hS0 H hHe
  have hP : va_P (dC, dI) vwCl [(h0, .inr (0, [.ref am, .ref oM, .ref oS, .ref oK, .ref oL, .ref oD])), (oM, .inr (3, [.ref ad, .ref ab, .int 0])), (ad, .inl (td, 16, .inl (fun _ => 0))), (ab, .inl (tb, 16, .inl (fun _ => 0))), (oS, .inr (6, [.int 0, .int (-1)])), (oK, .inr (2, [.int 0, .int 0, .int 0])), (oL, .inr (4, [.int 128, .int 0, .ref ap, .int 0, .int 0, .int 0, .int 0])), (oD, .inr (1, [.int 128, .int 0, .ref aw, .int 0, .int 0, .int 0, .int 0, .int 0, .int 0, .int 0]))] H := hP
  have hD : va_D A [(h0, .inr (0, [.ref am, .ref oM, .ref oS, .ref oK, .ref oL, .ref oD])), (oM, .inr (3, [.ref ad, .ref ab, .int 0])), (ad, .inl (td, 16, .inl (fun _ => 0))), (ab, .inl (tb, 16, .inl (fun _ => 0))), (oS, .inr (6, [.int 0, .int (-1)])), (oK, .inr (2, [.int 0, .int 0, .int 0])), (oL, .inr (4, [.int 128, .int 0, .ref ap, .int 0, .int 0, .int 0, .int 0])), (oD, .inr (1, [.int 128, .int 0, .ref aw, .int 0, .int 0, .int 0, .int 0, .int 0, .int 0, .int 0]))] := hD
  have hK : va_K (dC, dI) vwCl [(td, .int), (tb, .int)] s := hK
  have hl := lv_entry ([.ref h0, .int p0]) (n := 2) (Nat.le_of_ble_eq_true rfl)
  rw [lg_entry_eq]
  generalize (lg_sl ([.ref h0, .int p0]) ++ List.replicate (2 - (lg_sl ([.ref h0, .int p0])).length) Slot.unset).toArray = ls at hl ⊢
  have hl : lv_has ls 2 [(0, .ref h0), (1, .int p0)] := hl
  have kk0 : (0 : Int32).toInt = 0 := by decide
  have kk1024 : (1024 : Int32).toInt = 1024 := by decide
  have kk57344 : (57344 : Int32).toInt = 57344 := by decide
  have kk57376 : (57376 : Int32).toInt = 57376 := by decide
  have kk57408 : (57408 : Int32).toInt = 57408 := by decide
  refine lv_iload_n hx hb dX0_peek_0 rfl (lv_at hl 1 rfl) ?_
  refine lv_iconst (v := 1) hx hb dX0_peek_1 (by decide) ?_
  refine lv_iand hx hb dX0_peek_2 ?_
  have f1 := fz_and1 p0
  refine lv_if_eq (tgt := 8) hx hb dX0_peek_3 (by decide) (fun c1 => ?_) (fun c1 => ?_)
  · have c1 := fz_eq.mp c1
    have kk0 : (0 : Int32).toInt = 0 := by decide
    refine lv_iload_n hx hb dX0_peek_8 rfl (lv_at hl 1 rfl) ?_
    refine lv_if_lt (tgt := 28) hx hb dX0_peek_9 (by decide) (fun c2 => ?_) (fun c2 => ?_)
    · have c2 := fz_lt.mp c2
      have kk0 : (0 : Int32).toInt = 0 := by decide
      refine lv_iload_n hx hb dX0_peek_28 rfl (lv_at hl 1 rfl) ?_
      refine lv_ldc (v := 57344) hx hb hown (hts (.constant RX0 48 (57344)) (by decide +kernel)) dX0_peek_29 ?_
      refine lv_icmp_lt (tgt := 55) hx hb dX0_peek_31 (by decide) (fun c3 => ?_) (fun c3 => ?_)
      · have c3 := fz_lt.mp c3
        have kk57344 : (57344 : Int32).toInt = 57344 := by decide
        refine lv_iload_n hx hb dX0_peek_55 rfl (lv_at hl 1 rfl) ?_
        refine lv_ldc (v := 57376) hx hb hown (hts (.constant RX0 49 (57376)) (by decide +kernel)) dX0_peek_56 ?_
        refine lv_icmp_lt (tgt := 82) hx hb dX0_peek_58 (by decide) (fun c4 => ?_) (fun c4 => ?_)
        · have c4 := fz_lt.mp c4
          have kk57376 : (57376 : Int32).toInt = 57376 := by decide
          refine lv_iload_n hx hb dX0_peek_82 rfl (lv_at hl 1 rfl) ?_
          by_cases e57408 : p0 = 57408
          · subst e57408
            have kk57408 : (57408 : Int32).toInt = 57408 := by decide
            refine lv_lookup (off := 89) (tgt := 172) hx hb dX0_peek_83 (by decide) (by decide) (by decide) ?_
            refine lv_aload_n hx hb dX0_peek_172 rfl (lv_at hl 0 rfl) ?_
            refine va_get (D := (dC, dI)) (ci := 0) (v := .ref oM) (C := RX0) (T := TX0) (N := 6) hx hb hts (by decide +kernel) hown hK hP 0 rfl rfl 1 (by decide) (hts (.fieldLink RX0 16 "UnibusMachine$Bus" "map" "LUnibusMachine$PageMap;") (by decide +kernel)) (fun _ h9 => h9) rfl dX0_peek_173 ?_
            refine va_get (D := (dC, dI)) (ci := 3) (v := .int 0) (C := RX4) (T := TX4) (N := 3) hx hb hts (by decide +kernel) hown hK hP 1 rfl rfl 2 (by decide) (hts (.fieldLink RX0 57 "UnibusMachine$PageMap" "control" "I") (by decide +kernel)) (fun _ h9 => h9) rfl dX0_peek_176 ?_
            have hP9 := hP.sub (ws' := []) [] rfl
            have hD9 := hD.sub (ws' := []) [] (by decide) rfl
            have hK9 := hK.sub (tys' := []) [] rfl
            exact W.iret (v := 0) hx hb hr (fun t ht hW => ⟨⟨0, (), rfl, (by first | (exact dv_pos (by omega)) | (exact dv_zero (by omega) (by omega)) | (exact dv_neg (by omega) (by omega))), by rw [ht]; exact hP9, va_K.moved hW.alike hK9, hD9⟩, hS.F ht⟩) hS.2.2 dX0_peek_179
          have e57408 : p0.toInt ≠ 57408 := fun h => e57408 (fz_eq.mpr (h.trans (by decide)))
          by_cases e57424 : p0 = 57424
          · subst e57424
            have kk57424 : (57424 : Int32).toInt = 57424 := by decide
            refine lv_lookup (off := 97) (tgt := 180) hx hb dX0_peek_83 (by decide) (by decide) (by decide) ?_
            refine lv_aload_n hx hb dX0_peek_180 rfl (lv_at hl 0 rfl) ?_
            refine va_get (D := (dC, dI)) (ci := 0) (v := .ref oK) (C := RX0) (T := TX0) (N := 6) hx hb hts (by decide +kernel) hown hK hP 0 rfl rfl 3 (by decide) (hts (.fieldLink RX0 30 "UnibusMachine$Bus" "keyboard" "LUnibusMachine$Keyboard;") (by decide +kernel)) (fun _ h9 => h9) rfl dX0_peek_181 ?_
            refine va_get (D := (dC, dI)) (ci := 2) (v := .int 0) (C := RX2) (T := TX2) (N := 3) hx hb hts (by decide +kernel) hown hK hP 5 rfl rfl 0 (by decide) (hts (.fieldLink RX0 61 "UnibusMachine$Keyboard" "bits" "I") (by decide +kernel)) (u_same (hts (.sameField "UnibusMachine$Keyboard" "UnibusMachine$Line" "bits" "I") (by decide +kernel))) rfl dX0_peek_184 ?_
            have hP9 := hP.sub (ws' := []) [] rfl
            have hD9 := hD.sub (ws' := []) [] (by decide) rfl
            have hK9 := hK.sub (tys' := []) [] rfl
            exact W.iret (v := 0) hx hb hr (fun t ht hW => ⟨⟨0, (), rfl, (by first | (exact dv_pos (by omega)) | (exact dv_zero (by omega) (by omega)) | (exact dv_neg (by omega) (by omega))), by rw [ht]; exact hP9, va_K.moved hW.alike hK9, hD9⟩, hS.F ht⟩) hS.2.2 dX0_peek_187
          have e57424 : p0.toInt ≠ 57424 := fun h => e57424 (fz_eq.mpr (h.trans (by decide)))
          by_cases e57426 : p0 = 57426
          · subst e57426
            have kk57426 : (57426 : Int32).toInt = 57426 := by decide
            refine lv_lookup (off := 105) (tgt := 188) hx hb dX0_peek_83 (by decide) (by decide) (by decide) ?_
            refine lv_aload_n hx hb dX0_peek_188 rfl (lv_at hl 0 rfl) ?_
            refine va_get (D := (dC, dI)) (ci := 0) (v := .ref oK) (C := RX0) (T := TX0) (N := 6) hx hb hts (by decide +kernel) hown hK hP 0 rfl rfl 3 (by decide) (hts (.fieldLink RX0 30 "UnibusMachine$Bus" "keyboard" "LUnibusMachine$Keyboard;") (by decide +kernel)) (fun _ h9 => h9) rfl dX0_peek_189 ?_
            refine va_get (D := (dC, dI)) (ci := 2) (v := .int 0) (C := RX2) (T := TX2) (N := 3) hx hb hts (by decide +kernel) hown hK hP 5 rfl rfl 2 (by decide) (hts (.fieldLink RX0 64 "UnibusMachine$Keyboard" "character" "I") (by decide +kernel)) (fun _ h9 => h9) rfl dX0_peek_192 ?_
            have hP9 := hP.sub (ws' := []) [] rfl
            have hD9 := hD.sub (ws' := []) [] (by decide) rfl
            have hK9 := hK.sub (tys' := []) [] rfl
            exact W.iret (v := 0) hx hb hr (fun t ht hW => ⟨⟨0, (), rfl, (by first | (exact dv_pos (by omega)) | (exact dv_zero (by omega) (by omega)) | (exact dv_neg (by omega) (by omega))), by rw [ht]; exact hP9, va_K.moved hW.alike hK9, hD9⟩, hS.F ht⟩) hS.2.2 dX0_peek_195
          have e57426 : p0.toInt ≠ 57426 := fun h => e57426 (fz_eq.mpr (h.trans (by decide)))
          by_cases e57428 : p0 = 57428
          · subst e57428
            have kk57428 : (57428 : Int32).toInt = 57428 := by decide
            refine lv_lookup (off := 113) (tgt := 196) hx hb dX0_peek_83 (by decide) (by decide) (by decide) ?_
            refine lv_aload_n hx hb dX0_peek_196 rfl (lv_at hl 0 rfl) ?_
            refine va_get (D := (dC, dI)) (ci := 0) (v := .ref oL) (C := RX0) (T := TX0) (N := 6) hx hb hts (by decide +kernel) hown hK hP 0 rfl rfl 4 (by decide) (hts (.fieldLink RX0 37 "UnibusMachine$Bus" "printer" "LUnibusMachine$Printer;") (by decide +kernel)) (fun _ h9 => h9) rfl dX0_peek_197 ?_
            refine va_get (D := (dC, dI)) (ci := 4) (v := .int 128) (C := RX5) (T := TX5) (N := 7) hx hb hts (by decide +kernel) hown hK hP 6 rfl rfl 0 (by decide) (hts (.fieldLink RX0 67 "UnibusMachine$Printer" "bits" "I") (by decide +kernel)) (u_same (hts (.sameField "UnibusMachine$Printer" "UnibusMachine$Line" "bits" "I") (by decide +kernel))) rfl dX0_peek_200 ?_
            have hP9 := hP.sub (ws' := []) [] rfl
            have hD9 := hD.sub (ws' := []) [] (by decide) rfl
            have hK9 := hK.sub (tys' := []) [] rfl
            exact W.iret (v := 128) hx hb hr (fun t ht hW => ⟨⟨128, (), rfl, (by first | (exact dv_pos (by omega)) | (exact dv_zero (by omega) (by omega)) | (exact dv_neg (by omega) (by omega))), by rw [ht]; exact hP9, va_K.moved hW.alike hK9, hD9⟩, hS.F ht⟩) hS.2.2 dX0_peek_203
          have e57428 : p0.toInt ≠ 57428 := fun h => e57428 (fz_eq.mpr (h.trans (by decide)))
          by_cases e57430 : p0 = 57430
          · subst e57430
            have kk57430 : (57430 : Int32).toInt = 57430 := by decide
            refine lv_lookup (off := 121) (tgt := 204) hx hb dX0_peek_83 (by decide) (by decide) (by decide) ?_
            refine lv_iconst (v := 0) hx hb dX0_peek_204 (by decide) ?_
            have hP9 := hP.sub (ws' := []) [] rfl
            have hD9 := hD.sub (ws' := []) [] (by decide) rfl
            have hK9 := hK.sub (tys' := []) [] rfl
            exact W.iret (v := 0) hx hb hr (fun t ht hW => ⟨⟨0, (), rfl, (by first | (exact dv_pos (by omega)) | (exact dv_zero (by omega) (by omega)) | (exact dv_neg (by omega) (by omega))), by rw [ht]; exact hP9, va_K.moved hW.alike hK9, hD9⟩, hS.F ht⟩) hS.2.2 dX0_peek_205
          have e57430 : p0.toInt ≠ 57430 := fun h => e57430 (fz_eq.mpr (h.trans (by decide)))
          by_cases e57440 : p0 = 57440
          · subst e57440
            have kk57440 : (57440 : Int32).toInt = 57440 := by decide
            refine lv_lookup (off := 123) (tgt := 206) hx hb dX0_peek_83 (by decide) (by decide) (by decide) ?_
            refine lv_aload_n hx hb dX0_peek_206 rfl (lv_at hl 0 rfl) ?_
            refine va_get (D := (dC, dI)) (ci := 0) (v := .ref oD) (C := RX0) (T := TX0) (N := 6) hx hb hts (by decide +kernel) hown hK hP 0 rfl rfl 5 (by decide) (hts (.fieldLink RX0 44 "UnibusMachine$Bus" "drive" "LUnibusMachine$Drive;") (by decide +kernel)) (fun _ h9 => h9) rfl dX0_peek_207 ?_
            refine va_get (D := (dC, dI)) (ci := 1) (v := .int 128) (C := RX1) (T := TX1) (N := 10) hx hb hts (by decide +kernel) hown hK hP 7 rfl rfl 0 (by decide) (hts (.fieldLink RX0 68 "UnibusMachine$Drive" "bits" "I") (by decide +kernel)) (u_same (hts (.sameField "UnibusMachine$Drive" "UnibusMachine$Line" "bits" "I") (by decide +kernel))) rfl dX0_peek_210 ?_
            refine lv_aload_n hx hb dX0_peek_213 rfl (lv_at hl 0 rfl) ?_
            refine va_get (D := (dC, dI)) (ci := 0) (v := .ref oD) (C := RX0) (T := TX0) (N := 6) hx hb hts (by decide +kernel) hown hK hP 0 rfl rfl 5 (by decide) (hts (.fieldLink RX0 44 "UnibusMachine$Bus" "drive" "LUnibusMachine$Drive;") (by decide +kernel)) (fun _ h9 => h9) rfl dX0_peek_214 ?_
            refine va_get (D := (dC, dI)) (ci := 1) (v := .int 0) (C := RX1) (T := TX1) (N := 10) hx hb hts (by decide +kernel) hown hK hP 7 rfl rfl 3 (by decide) (hts (.fieldLink RX0 69 "UnibusMachine$Drive" "writing" "I") (by decide +kernel)) (fun _ h9 => h9) rfl dX0_peek_217 ?_
            refine lv_ior hx hb dX0_peek_220 ?_
            refine lv_topi (fun y5 ey5 => ?_)
            obtain rfl : y5 = 128 := by rw [ey5]; decide
            refine lv_aload_n hx hb dX0_peek_221 rfl (lv_at hl 0 rfl) ?_
            refine va_get (D := (dC, dI)) (ci := 0) (v := .ref oD) (C := RX0) (T := TX0) (N := 6) hx hb hts (by decide +kernel) hown hK hP 0 rfl rfl 5 (by decide) (hts (.fieldLink RX0 44 "UnibusMachine$Bus" "drive" "LUnibusMachine$Drive;") (by decide +kernel)) (fun _ h9 => h9) rfl dX0_peek_222 ?_
            refine va_get (D := (dC, dI)) (ci := 1) (v := .int 0) (C := RX1) (T := TX1) (N := 10) hx hb hts (by decide +kernel) hown hK hP 7 rfl rfl 4 (by decide) (hts (.fieldLink RX0 72 "UnibusMachine$Drive" "wrong" "I") (by decide +kernel)) (fun _ h9 => h9) rfl dX0_peek_225 ?_
            refine lv_ior hx hb dX0_peek_228 ?_
            refine lv_topi (fun y6 ey6 => ?_)
            obtain rfl : y6 = 128 := by rw [ey6]; decide
            have hP9 := hP.sub (ws' := []) [] rfl
            have hD9 := hD.sub (ws' := []) [] (by decide) rfl
            have hK9 := hK.sub (tys' := []) [] rfl
            exact W.iret (v := 128) hx hb hr (fun t ht hW => ⟨⟨128, (), rfl, (by first | (exact dv_pos (by omega)) | (exact dv_zero (by omega) (by omega)) | (exact dv_neg (by omega) (by omega))), by rw [ht]; exact hP9, va_K.moved hW.alike hK9, hD9⟩, hS.F ht⟩) hS.2.2 dX0_peek_229
          have e57440 : p0.toInt ≠ 57440 := fun h => e57440 (fz_eq.mpr (h.trans (by decide)))
          by_cases e57442 : p0 = 57442
          · subst e57442
            have kk57442 : (57442 : Int32).toInt = 57442 := by decide
            refine lv_lookup (off := 147) (tgt := 230) hx hb dX0_peek_83 (by decide) (by decide) (by decide) ?_
            refine lv_aload_n hx hb dX0_peek_230 rfl (lv_at hl 0 rfl) ?_
            refine va_get (D := (dC, dI)) (ci := 0) (v := .ref oD) (C := RX0) (T := TX0) (N := 6) hx hb hts (by decide +kernel) hown hK hP 0 rfl rfl 5 (by decide) (hts (.fieldLink RX0 44 "UnibusMachine$Bus" "drive" "LUnibusMachine$Drive;") (by decide +kernel)) (fun _ h9 => h9) rfl dX0_peek_231 ?_
            refine va_get (D := (dC, dI)) (ci := 1) (v := .int 0) (C := RX1) (T := TX1) (N := 10) hx hb hts (by decide +kernel) hown hK hP 7 rfl rfl 5 (by decide) (hts (.fieldLink RX0 75 "UnibusMachine$Drive" "count" "I") (by decide +kernel)) (fun _ h9 => h9) rfl dX0_peek_234 ?_
            have hP9 := hP.sub (ws' := []) [] rfl
            have hD9 := hD.sub (ws' := []) [] (by decide) rfl
            have hK9 := hK.sub (tys' := []) [] rfl
            exact W.iret (v := 0) hx hb hr (fun t ht hW => ⟨⟨0, (), rfl, (by first | (exact dv_pos (by omega)) | (exact dv_zero (by omega) (by omega)) | (exact dv_neg (by omega) (by omega))), by rw [ht]; exact hP9, va_K.moved hW.alike hK9, hD9⟩, hS.F ht⟩) hS.2.2 dX0_peek_237
          have e57442 : p0.toInt ≠ 57442 := fun h => e57442 (fz_eq.mpr (h.trans (by decide)))
          by_cases e57444 : p0 = 57444
          · subst e57444
            have kk57444 : (57444 : Int32).toInt = 57444 := by decide
            refine lv_lookup (off := 155) (tgt := 238) hx hb dX0_peek_83 (by decide) (by decide) (by decide) ?_
            refine lv_aload_n hx hb dX0_peek_238 rfl (lv_at hl 0 rfl) ?_
            refine va_get (D := (dC, dI)) (ci := 0) (v := .ref oD) (C := RX0) (T := TX0) (N := 6) hx hb hts (by decide +kernel) hown hK hP 0 rfl rfl 5 (by decide) (hts (.fieldLink RX0 44 "UnibusMachine$Bus" "drive" "LUnibusMachine$Drive;") (by decide +kernel)) (fun _ h9 => h9) rfl dX0_peek_239 ?_
            refine va_get (D := (dC, dI)) (ci := 1) (v := .int 0) (C := RX1) (T := TX1) (N := 10) hx hb hts (by decide +kernel) hown hK hP 7 rfl rfl 6 (by decide) (hts (.fieldLink RX0 78 "UnibusMachine$Drive" "address" "I") (by decide +kernel)) (fun _ h9 => h9) rfl dX0_peek_242 ?_
            have hP9 := hP.sub (ws' := []) [] rfl
            have hD9 := hD.sub (ws' := []) [] (by decide) rfl
            have hK9 := hK.sub (tys' := []) [] rfl
            exact W.iret (v := 0) hx hb hr (fun t ht hW => ⟨⟨0, (), rfl, (by first | (exact dv_pos (by omega)) | (exact dv_zero (by omega) (by omega)) | (exact dv_neg (by omega) (by omega))), by rw [ht]; exact hP9, va_K.moved hW.alike hK9, hD9⟩, hS.F ht⟩) hS.2.2 dX0_peek_245
          have e57444 : p0.toInt ≠ 57444 := fun h => e57444 (fz_eq.mpr (h.trans (by decide)))
          by_cases e57446 : p0 = 57446
          · subst e57446
            have kk57446 : (57446 : Int32).toInt = 57446 := by decide
            refine lv_lookup (off := 163) (tgt := 246) hx hb dX0_peek_83 (by decide) (by decide) (by decide) ?_
            refine lv_aload_n hx hb dX0_peek_246 rfl (lv_at hl 0 rfl) ?_
            refine va_get (D := (dC, dI)) (ci := 0) (v := .ref oD) (C := RX0) (T := TX0) (N := 6) hx hb hts (by decide +kernel) hown hK hP 0 rfl rfl 5 (by decide) (hts (.fieldLink RX0 44 "UnibusMachine$Bus" "drive" "LUnibusMachine$Drive;") (by decide +kernel)) (fun _ h9 => h9) rfl dX0_peek_247 ?_
            refine va_get (D := (dC, dI)) (ci := 1) (v := .int 0) (C := RX1) (T := TX1) (N := 10) hx hb hts (by decide +kernel) hown hK hP 7 rfl rfl 7 (by decide) (hts (.fieldLink RX0 81 "UnibusMachine$Drive" "sector" "I") (by decide +kernel)) (fun _ h9 => h9) rfl dX0_peek_250 ?_
            have hP9 := hP.sub (ws' := []) [] rfl
            have hD9 := hD.sub (ws' := []) [] (by decide) rfl
            have hK9 := hK.sub (tys' := []) [] rfl
            exact W.iret (v := 0) hx hb hr (fun t ht hW => ⟨⟨0, (), rfl, (by first | (exact dv_pos (by omega)) | (exact dv_zero (by omega) (by omega)) | (exact dv_neg (by omega) (by omega))), by rw [ht]; exact hP9, va_K.moved hW.alike hK9, hD9⟩, hS.F ht⟩) hS.2.2 dX0_peek_253
          have e57446 : p0.toInt ≠ 57446 := fun h => e57446 (fz_eq.mpr (h.trans (by decide)))
          by_cases e57470 : p0 = 57470
          · subst e57470
            have kk57470 : (57470 : Int32).toInt = 57470 := by decide
            refine lv_lookup (off := 171) (tgt := 254) hx hb dX0_peek_83 (by decide) (by decide) (by decide) ?_
            refine lv_aload_n hx hb dX0_peek_254 rfl (lv_at hl 0 rfl) ?_
            refine va_get (D := (dC, dI)) (ci := 0) (v := .ref oS) (C := RX0) (T := TX0) (N := 6) hx hb hts (by decide +kernel) hown hK hP 0 rfl rfl 2 (by decide) (hts (.fieldLink RX0 23 "UnibusMachine$Bus" "status" "LUnibusMachine$Status;") (by decide +kernel)) (fun _ h9 => h9) rfl dX0_peek_255 ?_
            refine va_get (D := (dC, dI)) (ci := 6) (v := .int 0) (C := RX7) (T := TX7) (N := 2) hx hb hts (by decide +kernel) hown hK hP 4 rfl rfl 0 (by decide) (hts (.fieldLink RX0 84 "UnibusMachine$Status" "now" "I") (by decide +kernel)) (fun _ h9 => h9) rfl dX0_peek_258 ?_
            have hP9 := hP.sub (ws' := []) [] rfl
            have hD9 := hD.sub (ws' := []) [] (by decide) rfl
            have hK9 := hK.sub (tys' := []) [] rfl
            exact W.iret (v := 0) hx hb hr (fun t ht hW => ⟨⟨0, (), rfl, (by first | (exact dv_pos (by omega)) | (exact dv_zero (by omega) (by omega)) | (exact dv_neg (by omega) (by omega))), by rw [ht]; exact hP9, va_K.moved hW.alike hK9, hD9⟩, hS.F ht⟩) hS.2.2 dX0_peek_261
          have e57470 : p0.toInt ≠ 57470 := fun h => e57470 (fz_eq.mpr (h.trans (by decide)))
          refine lv_lookup (off := 179) (tgt := 262) hx hb dX0_peek_83 (by decide) (by simp [Op.lookupswitch.offset, Ne.symm e57408, e57408, Ne.symm e57424, e57424, Ne.symm e57426, e57426, Ne.symm e57428, e57428, Ne.symm e57430, e57430, Ne.symm e57440, e57440, Ne.symm e57442, e57442, Ne.symm e57444, e57444, Ne.symm e57446, e57446, Ne.symm e57470, e57470]) (by decide) ?_
          refine lv_iconst (v := (-1)) hx hb dX0_peek_262 (by decide) ?_
          have hP9 := hP.sub (ws' := []) [] rfl
          have hD9 := hD.sub (ws' := []) [] (by decide) rfl
          have hK9 := hK.sub (tys' := []) [] rfl
          exact W.iret (v := (-1)) hx hb hr (fun t ht hW => ⟨⟨(-1), (), rfl, (by first | (exact dv_pos (by omega)) | (exact dv_zero (by omega) (by omega)) | (exact dv_neg (by omega) (by omega))), by rw [ht]; exact hP9, va_K.moved hW.alike hK9, hD9⟩, hS.F ht⟩) hS.2.2 dX0_peek_263
        · have c4 := fz_nlt.mp c4
          have kk57376 : (57376 : Int32).toInt = 57376 := by decide
          refine lv_iload_n hx hb dX0_peek_61 rfl (lv_at hl 1 rfl) ?_
          refine lv_ldc (v := 57408) hx hb hown (hts (.constant RX0 53 (57408)) (by decide +kernel)) dX0_peek_62 ?_
          refine lv_icmp_ge (tgt := 82) hx hb dX0_peek_64 (by decide) (fun c7 => ?_) (fun c7 => ?_)
          · have c7 := fz_le.mp c7
            have kk57408 : (57408 : Int32).toInt = 57408 := by decide
            refine lv_iload_n hx hb dX0_peek_82 rfl (lv_at hl 1 rfl) ?_
            by_cases e57408 : p0 = 57408
            · subst e57408
              have kk57408 : (57408 : Int32).toInt = 57408 := by decide
              refine lv_lookup (off := 89) (tgt := 172) hx hb dX0_peek_83 (by decide) (by decide) (by decide) ?_
              refine lv_aload_n hx hb dX0_peek_172 rfl (lv_at hl 0 rfl) ?_
              refine va_get (D := (dC, dI)) (ci := 0) (v := .ref oM) (C := RX0) (T := TX0) (N := 6) hx hb hts (by decide +kernel) hown hK hP 0 rfl rfl 1 (by decide) (hts (.fieldLink RX0 16 "UnibusMachine$Bus" "map" "LUnibusMachine$PageMap;") (by decide +kernel)) (fun _ h9 => h9) rfl dX0_peek_173 ?_
              refine va_get (D := (dC, dI)) (ci := 3) (v := .int 0) (C := RX4) (T := TX4) (N := 3) hx hb hts (by decide +kernel) hown hK hP 1 rfl rfl 2 (by decide) (hts (.fieldLink RX0 57 "UnibusMachine$PageMap" "control" "I") (by decide +kernel)) (fun _ h9 => h9) rfl dX0_peek_176 ?_
              have hP9 := hP.sub (ws' := []) [] rfl
              have hD9 := hD.sub (ws' := []) [] (by decide) rfl
              have hK9 := hK.sub (tys' := []) [] rfl
              exact W.iret (v := 0) hx hb hr (fun t ht hW => ⟨⟨0, (), rfl, (by first | (exact dv_pos (by omega)) | (exact dv_zero (by omega) (by omega)) | (exact dv_neg (by omega) (by omega))), by rw [ht]; exact hP9, va_K.moved hW.alike hK9, hD9⟩, hS.F ht⟩) hS.2.2 dX0_peek_179
            have e57408 : p0.toInt ≠ 57408 := fun h => e57408 (fz_eq.mpr (h.trans (by decide)))
            by_cases e57424 : p0 = 57424
            · subst e57424
              have kk57424 : (57424 : Int32).toInt = 57424 := by decide
              refine lv_lookup (off := 97) (tgt := 180) hx hb dX0_peek_83 (by decide) (by decide) (by decide) ?_
              refine lv_aload_n hx hb dX0_peek_180 rfl (lv_at hl 0 rfl) ?_
              refine va_get (D := (dC, dI)) (ci := 0) (v := .ref oK) (C := RX0) (T := TX0) (N := 6) hx hb hts (by decide +kernel) hown hK hP 0 rfl rfl 3 (by decide) (hts (.fieldLink RX0 30 "UnibusMachine$Bus" "keyboard" "LUnibusMachine$Keyboard;") (by decide +kernel)) (fun _ h9 => h9) rfl dX0_peek_181 ?_
              refine va_get (D := (dC, dI)) (ci := 2) (v := .int 0) (C := RX2) (T := TX2) (N := 3) hx hb hts (by decide +kernel) hown hK hP 5 rfl rfl 0 (by decide) (hts (.fieldLink RX0 61 "UnibusMachine$Keyboard" "bits" "I") (by decide +kernel)) (u_same (hts (.sameField "UnibusMachine$Keyboard" "UnibusMachine$Line" "bits" "I") (by decide +kernel))) rfl dX0_peek_184 ?_
              have hP9 := hP.sub (ws' := []) [] rfl
              have hD9 := hD.sub (ws' := []) [] (by decide) rfl
              have hK9 := hK.sub (tys' := []) [] rfl
              exact W.iret (v := 0) hx hb hr (fun t ht hW => ⟨⟨0, (), rfl, (by first | (exact dv_pos (by omega)) | (exact dv_zero (by omega) (by omega)) | (exact dv_neg (by omega) (by omega))), by rw [ht]; exact hP9, va_K.moved hW.alike hK9, hD9⟩, hS.F ht⟩) hS.2.2 dX0_peek_187
            have e57424 : p0.toInt ≠ 57424 := fun h => e57424 (fz_eq.mpr (h.trans (by decide)))
            by_cases e57426 : p0 = 57426
            · subst e57426
              have kk57426 : (57426 : Int32).toInt = 57426 := by decide
              refine lv_lookup (off := 105) (tgt := 188) hx hb dX0_peek_83 (by decide) (by decide) (by decide) ?_
              refine lv_aload_n hx hb dX0_peek_188 rfl (lv_at hl 0 rfl) ?_
              refine va_get (D := (dC, dI)) (ci := 0) (v := .ref oK) (C := RX0) (T := TX0) (N := 6) hx hb hts (by decide +kernel) hown hK hP 0 rfl rfl 3 (by decide) (hts (.fieldLink RX0 30 "UnibusMachine$Bus" "keyboard" "LUnibusMachine$Keyboard;") (by decide +kernel)) (fun _ h9 => h9) rfl dX0_peek_189 ?_
              refine va_get (D := (dC, dI)) (ci := 2) (v := .int 0) (C := RX2) (T := TX2) (N := 3) hx hb hts (by decide +kernel) hown hK hP 5 rfl rfl 2 (by decide) (hts (.fieldLink RX0 64 "UnibusMachine$Keyboard" "character" "I") (by decide +kernel)) (fun _ h9 => h9) rfl dX0_peek_192 ?_
              have hP9 := hP.sub (ws' := []) [] rfl
              have hD9 := hD.sub (ws' := []) [] (by decide) rfl
              have hK9 := hK.sub (tys' := []) [] rfl
              exact W.iret (v := 0) hx hb hr (fun t ht hW => ⟨⟨0, (), rfl, (by first | (exact dv_pos (by omega)) | (exact dv_zero (by omega) (by omega)) | (exact dv_neg (by omega) (by omega))), by rw [ht]; exact hP9, va_K.moved hW.alike hK9, hD9⟩, hS.F ht⟩) hS.2.2 dX0_peek_195
            have e57426 : p0.toInt ≠ 57426 := fun h => e57426 (fz_eq.mpr (h.trans (by decide)))
            by_cases e57428 : p0 = 57428
            · subst e57428
              have kk57428 : (57428 : Int32).toInt = 57428 := by decide
              refine lv_lookup (off := 113) (tgt := 196) hx hb dX0_peek_83 (by decide) (by decide) (by decide) ?_
              refine lv_aload_n hx hb dX0_peek_196 rfl (lv_at hl 0 rfl) ?_
              refine va_get (D := (dC, dI)) (ci := 0) (v := .ref oL) (C := RX0) (T := TX0) (N := 6) hx hb hts (by decide +kernel) hown hK hP 0 rfl rfl 4 (by decide) (hts (.fieldLink RX0 37 "UnibusMachine$Bus" "printer" "LUnibusMachine$Printer;") (by decide +kernel)) (fun _ h9 => h9) rfl dX0_peek_197 ?_
              refine va_get (D := (dC, dI)) (ci := 4) (v := .int 128) (C := RX5) (T := TX5) (N := 7) hx hb hts (by decide +kernel) hown hK hP 6 rfl rfl 0 (by decide) (hts (.fieldLink RX0 67 "UnibusMachine$Printer" "bits" "I") (by decide +kernel)) (u_same (hts (.sameField "UnibusMachine$Printer" "UnibusMachine$Line" "bits" "I") (by decide +kernel))) rfl dX0_peek_200 ?_
              have hP9 := hP.sub (ws' := []) [] rfl
              have hD9 := hD.sub (ws' := []) [] (by decide) rfl
              have hK9 := hK.sub (tys' := []) [] rfl
              exact W.iret (v := 128) hx hb hr (fun t ht hW => ⟨⟨128, (), rfl, (by first | (exact dv_pos (by omega)) | (exact dv_zero (by omega) (by omega)) | (exact dv_neg (by omega) (by omega))), by rw [ht]; exact hP9, va_K.moved hW.alike hK9, hD9⟩, hS.F ht⟩) hS.2.2 dX0_peek_203
            have e57428 : p0.toInt ≠ 57428 := fun h => e57428 (fz_eq.mpr (h.trans (by decide)))
            by_cases e57430 : p0 = 57430
            · subst e57430
              have kk57430 : (57430 : Int32).toInt = 57430 := by decide
              refine lv_lookup (off := 121) (tgt := 204) hx hb dX0_peek_83 (by decide) (by decide) (by decide) ?_
              refine lv_iconst (v := 0) hx hb dX0_peek_204 (by decide) ?_
              have hP9 := hP.sub (ws' := []) [] rfl
              have hD9 := hD.sub (ws' := []) [] (by decide) rfl
              have hK9 := hK.sub (tys' := []) [] rfl
              exact W.iret (v := 0) hx hb hr (fun t ht hW => ⟨⟨0, (), rfl, (by first | (exact dv_pos (by omega)) | (exact dv_zero (by omega) (by omega)) | (exact dv_neg (by omega) (by omega))), by rw [ht]; exact hP9, va_K.moved hW.alike hK9, hD9⟩, hS.F ht⟩) hS.2.2 dX0_peek_205
            have e57430 : p0.toInt ≠ 57430 := fun h => e57430 (fz_eq.mpr (h.trans (by decide)))
            by_cases e57440 : p0 = 57440
            · subst e57440
              have kk57440 : (57440 : Int32).toInt = 57440 := by decide
              refine lv_lookup (off := 123) (tgt := 206) hx hb dX0_peek_83 (by decide) (by decide) (by decide) ?_
              refine lv_aload_n hx hb dX0_peek_206 rfl (lv_at hl 0 rfl) ?_
              refine va_get (D := (dC, dI)) (ci := 0) (v := .ref oD) (C := RX0) (T := TX0) (N := 6) hx hb hts (by decide +kernel) hown hK hP 0 rfl rfl 5 (by decide) (hts (.fieldLink RX0 44 "UnibusMachine$Bus" "drive" "LUnibusMachine$Drive;") (by decide +kernel)) (fun _ h9 => h9) rfl dX0_peek_207 ?_
              refine va_get (D := (dC, dI)) (ci := 1) (v := .int 128) (C := RX1) (T := TX1) (N := 10) hx hb hts (by decide +kernel) hown hK hP 7 rfl rfl 0 (by decide) (hts (.fieldLink RX0 68 "UnibusMachine$Drive" "bits" "I") (by decide +kernel)) (u_same (hts (.sameField "UnibusMachine$Drive" "UnibusMachine$Line" "bits" "I") (by decide +kernel))) rfl dX0_peek_210 ?_
              refine lv_aload_n hx hb dX0_peek_213 rfl (lv_at hl 0 rfl) ?_
              refine va_get (D := (dC, dI)) (ci := 0) (v := .ref oD) (C := RX0) (T := TX0) (N := 6) hx hb hts (by decide +kernel) hown hK hP 0 rfl rfl 5 (by decide) (hts (.fieldLink RX0 44 "UnibusMachine$Bus" "drive" "LUnibusMachine$Drive;") (by decide +kernel)) (fun _ h9 => h9) rfl dX0_peek_214 ?_
              refine va_get (D := (dC, dI)) (ci := 1) (v := .int 0) (C := RX1) (T := TX1) (N := 10) hx hb hts (by decide +kernel) hown hK hP 7 rfl rfl 3 (by decide) (hts (.fieldLink RX0 69 "UnibusMachine$Drive" "writing" "I") (by decide +kernel)) (fun _ h9 => h9) rfl dX0_peek_217 ?_
              refine lv_ior hx hb dX0_peek_220 ?_
              refine lv_topi (fun y8 ey8 => ?_)
              obtain rfl : y8 = 128 := by rw [ey8]; decide
              refine lv_aload_n hx hb dX0_peek_221 rfl (lv_at hl 0 rfl) ?_
              refine va_get (D := (dC, dI)) (ci := 0) (v := .ref oD) (C := RX0) (T := TX0) (N := 6) hx hb hts (by decide +kernel) hown hK hP 0 rfl rfl 5 (by decide) (hts (.fieldLink RX0 44 "UnibusMachine$Bus" "drive" "LUnibusMachine$Drive;") (by decide +kernel)) (fun _ h9 => h9) rfl dX0_peek_222 ?_
              refine va_get (D := (dC, dI)) (ci := 1) (v := .int 0) (C := RX1) (T := TX1) (N := 10) hx hb hts (by decide +kernel) hown hK hP 7 rfl rfl 4 (by decide) (hts (.fieldLink RX0 72 "UnibusMachine$Drive" "wrong" "I") (by decide +kernel)) (fun _ h9 => h9) rfl dX0_peek_225 ?_
              refine lv_ior hx hb dX0_peek_228 ?_
              refine lv_topi (fun y9 ey9 => ?_)
              obtain rfl : y9 = 128 := by rw [ey9]; decide
              have hP9 := hP.sub (ws' := []) [] rfl
              have hD9 := hD.sub (ws' := []) [] (by decide) rfl
              have hK9 := hK.sub (tys' := []) [] rfl
              exact W.iret (v := 128) hx hb hr (fun t ht hW => ⟨⟨128, (), rfl, (by first | (exact dv_pos (by omega)) | (exact dv_zero (by omega) (by omega)) | (exact dv_neg (by omega) (by omega))), by rw [ht]; exact hP9, va_K.moved hW.alike hK9, hD9⟩, hS.F ht⟩) hS.2.2 dX0_peek_229
            have e57440 : p0.toInt ≠ 57440 := fun h => e57440 (fz_eq.mpr (h.trans (by decide)))
            by_cases e57442 : p0 = 57442
            · subst e57442
              have kk57442 : (57442 : Int32).toInt = 57442 := by decide
              refine lv_lookup (off := 147) (tgt := 230) hx hb dX0_peek_83 (by decide) (by decide) (by decide) ?_
              refine lv_aload_n hx hb dX0_peek_230 rfl (lv_at hl 0 rfl) ?_
              refine va_get (D := (dC, dI)) (ci := 0) (v := .ref oD) (C := RX0) (T := TX0) (N := 6) hx hb hts (by decide +kernel) hown hK hP 0 rfl rfl 5 (by decide) (hts (.fieldLink RX0 44 "UnibusMachine$Bus" "drive" "LUnibusMachine$Drive;") (by decide +kernel)) (fun _ h9 => h9) rfl dX0_peek_231 ?_
              refine va_get (D := (dC, dI)) (ci := 1) (v := .int 0) (C := RX1) (T := TX1) (N := 10) hx hb hts (by decide +kernel) hown hK hP 7 rfl rfl 5 (by decide) (hts (.fieldLink RX0 75 "UnibusMachine$Drive" "count" "I") (by decide +kernel)) (fun _ h9 => h9) rfl dX0_peek_234 ?_
              have hP9 := hP.sub (ws' := []) [] rfl
              have hD9 := hD.sub (ws' := []) [] (by decide) rfl
              have hK9 := hK.sub (tys' := []) [] rfl
              exact W.iret (v := 0) hx hb hr (fun t ht hW => ⟨⟨0, (), rfl, (by first | (exact dv_pos (by omega)) | (exact dv_zero (by omega) (by omega)) | (exact dv_neg (by omega) (by omega))), by rw [ht]; exact hP9, va_K.moved hW.alike hK9, hD9⟩, hS.F ht⟩) hS.2.2 dX0_peek_237
            have e57442 : p0.toInt ≠ 57442 := fun h => e57442 (fz_eq.mpr (h.trans (by decide)))
            by_cases e57444 : p0 = 57444
            · subst e57444
              have kk57444 : (57444 : Int32).toInt = 57444 := by decide
              refine lv_lookup (off := 155) (tgt := 238) hx hb dX0_peek_83 (by decide) (by decide) (by decide) ?_
              refine lv_aload_n hx hb dX0_peek_238 rfl (lv_at hl 0 rfl) ?_
              refine va_get (D := (dC, dI)) (ci := 0) (v := .ref oD) (C := RX0) (T := TX0) (N := 6) hx hb hts (by decide +kernel) hown hK hP 0 rfl rfl 5 (by decide) (hts (.fieldLink RX0 44 "UnibusMachine$Bus" "drive" "LUnibusMachine$Drive;") (by decide +kernel)) (fun _ h9 => h9) rfl dX0_peek_239 ?_
              refine va_get (D := (dC, dI)) (ci := 1) (v := .int 0) (C := RX1) (T := TX1) (N := 10) hx hb hts (by decide +kernel) hown hK hP 7 rfl rfl 6 (by decide) (hts (.fieldLink RX0 78 "UnibusMachine$Drive" "address" "I") (by decide +kernel)) (fun _ h9 => h9) rfl dX0_peek_242 ?_
              have hP9 := hP.sub (ws' := []) [] rfl
              have hD9 := hD.sub (ws' := []) [] (by decide) rfl
              have hK9 := hK.sub (tys' := []) [] rfl
              exact W.iret (v := 0) hx hb hr (fun t ht hW => ⟨⟨0, (), rfl, (by first | (exact dv_pos (by omega)) | (exact dv_zero (by omega) (by omega)) | (exact dv_neg (by omega) (by omega))), by rw [ht]; exact hP9, va_K.moved hW.alike hK9, hD9⟩, hS.F ht⟩) hS.2.2 dX0_peek_245
            have e57444 : p0.toInt ≠ 57444 := fun h => e57444 (fz_eq.mpr (h.trans (by decide)))
            by_cases e57446 : p0 = 57446
            · subst e57446
              have kk57446 : (57446 : Int32).toInt = 57446 := by decide
              refine lv_lookup (off := 163) (tgt := 246) hx hb dX0_peek_83 (by decide) (by decide) (by decide) ?_
              refine lv_aload_n hx hb dX0_peek_246 rfl (lv_at hl 0 rfl) ?_
              refine va_get (D := (dC, dI)) (ci := 0) (v := .ref oD) (C := RX0) (T := TX0) (N := 6) hx hb hts (by decide +kernel) hown hK hP 0 rfl rfl 5 (by decide) (hts (.fieldLink RX0 44 "UnibusMachine$Bus" "drive" "LUnibusMachine$Drive;") (by decide +kernel)) (fun _ h9 => h9) rfl dX0_peek_247 ?_
              refine va_get (D := (dC, dI)) (ci := 1) (v := .int 0) (C := RX1) (T := TX1) (N := 10) hx hb hts (by decide +kernel) hown hK hP 7 rfl rfl 7 (by decide) (hts (.fieldLink RX0 81 "UnibusMachine$Drive" "sector" "I") (by decide +kernel)) (fun _ h9 => h9) rfl dX0_peek_250 ?_
              have hP9 := hP.sub (ws' := []) [] rfl
              have hD9 := hD.sub (ws' := []) [] (by decide) rfl
              have hK9 := hK.sub (tys' := []) [] rfl
              exact W.iret (v := 0) hx hb hr (fun t ht hW => ⟨⟨0, (), rfl, (by first | (exact dv_pos (by omega)) | (exact dv_zero (by omega) (by omega)) | (exact dv_neg (by omega) (by omega))), by rw [ht]; exact hP9, va_K.moved hW.alike hK9, hD9⟩, hS.F ht⟩) hS.2.2 dX0_peek_253
            have e57446 : p0.toInt ≠ 57446 := fun h => e57446 (fz_eq.mpr (h.trans (by decide)))
            by_cases e57470 : p0 = 57470
            · subst e57470
              have kk57470 : (57470 : Int32).toInt = 57470 := by decide
              refine lv_lookup (off := 171) (tgt := 254) hx hb dX0_peek_83 (by decide) (by decide) (by decide) ?_
              refine lv_aload_n hx hb dX0_peek_254 rfl (lv_at hl 0 rfl) ?_
              refine va_get (D := (dC, dI)) (ci := 0) (v := .ref oS) (C := RX0) (T := TX0) (N := 6) hx hb hts (by decide +kernel) hown hK hP 0 rfl rfl 2 (by decide) (hts (.fieldLink RX0 23 "UnibusMachine$Bus" "status" "LUnibusMachine$Status;") (by decide +kernel)) (fun _ h9 => h9) rfl dX0_peek_255 ?_
              refine va_get (D := (dC, dI)) (ci := 6) (v := .int 0) (C := RX7) (T := TX7) (N := 2) hx hb hts (by decide +kernel) hown hK hP 4 rfl rfl 0 (by decide) (hts (.fieldLink RX0 84 "UnibusMachine$Status" "now" "I") (by decide +kernel)) (fun _ h9 => h9) rfl dX0_peek_258 ?_
              have hP9 := hP.sub (ws' := []) [] rfl
              have hD9 := hD.sub (ws' := []) [] (by decide) rfl
              have hK9 := hK.sub (tys' := []) [] rfl
              exact W.iret (v := 0) hx hb hr (fun t ht hW => ⟨⟨0, (), rfl, (by first | (exact dv_pos (by omega)) | (exact dv_zero (by omega) (by omega)) | (exact dv_neg (by omega) (by omega))), by rw [ht]; exact hP9, va_K.moved hW.alike hK9, hD9⟩, hS.F ht⟩) hS.2.2 dX0_peek_261
            have e57470 : p0.toInt ≠ 57470 := fun h => e57470 (fz_eq.mpr (h.trans (by decide)))
            refine lv_lookup (off := 179) (tgt := 262) hx hb dX0_peek_83 (by decide) (by simp [Op.lookupswitch.offset, Ne.symm e57408, e57408, Ne.symm e57424, e57424, Ne.symm e57426, e57426, Ne.symm e57428, e57428, Ne.symm e57430, e57430, Ne.symm e57440, e57440, Ne.symm e57442, e57442, Ne.symm e57444, e57444, Ne.symm e57446, e57446, Ne.symm e57470, e57470]) (by decide) ?_
            refine lv_iconst (v := (-1)) hx hb dX0_peek_262 (by decide) ?_
            have hP9 := hP.sub (ws' := []) [] rfl
            have hD9 := hD.sub (ws' := []) [] (by decide) rfl
            have hK9 := hK.sub (tys' := []) [] rfl
            exact W.iret (v := (-1)) hx hb hr (fun t ht hW => ⟨⟨(-1), (), rfl, (by first | (exact dv_pos (by omega)) | (exact dv_zero (by omega) (by omega)) | (exact dv_neg (by omega) (by omega))), by rw [ht]; exact hP9, va_K.moved hW.alike hK9, hD9⟩, hS.F ht⟩) hS.2.2 dX0_peek_263
          · have c7 := fz_nle.mp c7
            have kk57408 : (57408 : Int32).toInt = 57408 := by decide
            refine lv_aload_n hx hb dX0_peek_67 rfl (lv_at hl 0 rfl) ?_
            refine va_get (D := (dC, dI)) (ci := 0) (v := .ref oM) (C := RX0) (T := TX0) (N := 6) hx hb hts (by decide +kernel) hown hK hP 0 rfl rfl 1 (by decide) (hts (.fieldLink RX0 16 "UnibusMachine$Bus" "map" "LUnibusMachine$PageMap;") (by decide +kernel)) (fun _ h9 => h9) rfl dX0_peek_68 ?_
            refine va_get (D := (dC, dI)) (ci := 3) (v := .ref ab) (C := RX4) (T := TX4) (N := 3) hx hb hts (by decide +kernel) hown hK hP 1 rfl rfl 1 (by decide) (hts (.fieldLink RX0 54 "UnibusMachine$PageMap" "bases" "[I") (by decide +kernel)) (fun _ h9 => h9) rfl dX0_peek_71 ?_
            refine lv_iload_n hx hb dX0_peek_74 rfl (lv_at hl 1 rfl) ?_
            refine lv_ldc (v := 57376) hx hb hown (hts (.constant RX0 49 (57376)) (by decide +kernel)) dX0_peek_75 ?_
            refine lv_isub hx hb dX0_peek_77 ?_
            have f2 := fz_sub p0 57376 (by omega) (by omega)
            refine lv_iconst (v := 1) hx hb dX0_peek_78 (by decide) ?_
            refine lv_ishr hx hb dX0_peek_79 ?_
            have f3 := fz_shr1 (p0 - 57376) (by omega)
            refine va_iald (D := (dC, dI)) hx hb hK hP 3 1 rfl rfl (vp_in_iff.mpr (by constructor <;> omega)) dX0_peek_80 ?_
            have hP9 := hP.sub (ws' := []) [] rfl
            have hD9 := hD.sub (ws' := []) [] (by decide) rfl
            have hK9 := hK.sub (tys' := []) [] rfl
            exact W.iret (v := 0) hx hb hr (fun t ht hW => ⟨⟨0, (), rfl, (by first | (exact dv_pos (by omega)) | (exact dv_zero (by omega) (by omega)) | (exact dv_neg (by omega) (by omega))), by rw [ht]; exact hP9, va_K.moved hW.alike hK9, hD9⟩, hS.F ht⟩) hS.2.2 dX0_peek_81
      · have c3 := fz_nlt.mp c3
        have kk57344 : (57344 : Int32).toInt = 57344 := by decide
        refine lv_iload_n hx hb dX0_peek_34 rfl (lv_at hl 1 rfl) ?_
        refine lv_ldc (v := 57376) hx hb hown (hts (.constant RX0 49 (57376)) (by decide +kernel)) dX0_peek_35 ?_
        refine lv_icmp_ge (tgt := 55) hx hb dX0_peek_37 (by decide) (fun c10 => ?_) (fun c10 => ?_)
        · have c10 := fz_le.mp c10
          have kk57376 : (57376 : Int32).toInt = 57376 := by decide
          refine lv_iload_n hx hb dX0_peek_55 rfl (lv_at hl 1 rfl) ?_
          refine lv_ldc (v := 57376) hx hb hown (hts (.constant RX0 49 (57376)) (by decide +kernel)) dX0_peek_56 ?_
          refine lv_icmp_lt (tgt := 82) hx hb dX0_peek_58 (by decide) (fun c11 => ?_) (fun c11 => ?_)
          · have c11 := fz_lt.mp c11
            have kk57376 : (57376 : Int32).toInt = 57376 := by decide
            refine lv_iload_n hx hb dX0_peek_82 rfl (lv_at hl 1 rfl) ?_
            by_cases e57408 : p0 = 57408
            · subst e57408
              have kk57408 : (57408 : Int32).toInt = 57408 := by decide
              refine lv_lookup (off := 89) (tgt := 172) hx hb dX0_peek_83 (by decide) (by decide) (by decide) ?_
              refine lv_aload_n hx hb dX0_peek_172 rfl (lv_at hl 0 rfl) ?_
              refine va_get (D := (dC, dI)) (ci := 0) (v := .ref oM) (C := RX0) (T := TX0) (N := 6) hx hb hts (by decide +kernel) hown hK hP 0 rfl rfl 1 (by decide) (hts (.fieldLink RX0 16 "UnibusMachine$Bus" "map" "LUnibusMachine$PageMap;") (by decide +kernel)) (fun _ h9 => h9) rfl dX0_peek_173 ?_
              refine va_get (D := (dC, dI)) (ci := 3) (v := .int 0) (C := RX4) (T := TX4) (N := 3) hx hb hts (by decide +kernel) hown hK hP 1 rfl rfl 2 (by decide) (hts (.fieldLink RX0 57 "UnibusMachine$PageMap" "control" "I") (by decide +kernel)) (fun _ h9 => h9) rfl dX0_peek_176 ?_
              have hP9 := hP.sub (ws' := []) [] rfl
              have hD9 := hD.sub (ws' := []) [] (by decide) rfl
              have hK9 := hK.sub (tys' := []) [] rfl
              exact W.iret (v := 0) hx hb hr (fun t ht hW => ⟨⟨0, (), rfl, (by first | (exact dv_pos (by omega)) | (exact dv_zero (by omega) (by omega)) | (exact dv_neg (by omega) (by omega))), by rw [ht]; exact hP9, va_K.moved hW.alike hK9, hD9⟩, hS.F ht⟩) hS.2.2 dX0_peek_179
            have e57408 : p0.toInt ≠ 57408 := fun h => e57408 (fz_eq.mpr (h.trans (by decide)))
            by_cases e57424 : p0 = 57424
            · subst e57424
              have kk57424 : (57424 : Int32).toInt = 57424 := by decide
              refine lv_lookup (off := 97) (tgt := 180) hx hb dX0_peek_83 (by decide) (by decide) (by decide) ?_
              refine lv_aload_n hx hb dX0_peek_180 rfl (lv_at hl 0 rfl) ?_
              refine va_get (D := (dC, dI)) (ci := 0) (v := .ref oK) (C := RX0) (T := TX0) (N := 6) hx hb hts (by decide +kernel) hown hK hP 0 rfl rfl 3 (by decide) (hts (.fieldLink RX0 30 "UnibusMachine$Bus" "keyboard" "LUnibusMachine$Keyboard;") (by decide +kernel)) (fun _ h9 => h9) rfl dX0_peek_181 ?_
              refine va_get (D := (dC, dI)) (ci := 2) (v := .int 0) (C := RX2) (T := TX2) (N := 3) hx hb hts (by decide +kernel) hown hK hP 5 rfl rfl 0 (by decide) (hts (.fieldLink RX0 61 "UnibusMachine$Keyboard" "bits" "I") (by decide +kernel)) (u_same (hts (.sameField "UnibusMachine$Keyboard" "UnibusMachine$Line" "bits" "I") (by decide +kernel))) rfl dX0_peek_184 ?_
              have hP9 := hP.sub (ws' := []) [] rfl
              have hD9 := hD.sub (ws' := []) [] (by decide) rfl
              have hK9 := hK.sub (tys' := []) [] rfl
              exact W.iret (v := 0) hx hb hr (fun t ht hW => ⟨⟨0, (), rfl, (by first | (exact dv_pos (by omega)) | (exact dv_zero (by omega) (by omega)) | (exact dv_neg (by omega) (by omega))), by rw [ht]; exact hP9, va_K.moved hW.alike hK9, hD9⟩, hS.F ht⟩) hS.2.2 dX0_peek_187
            have e57424 : p0.toInt ≠ 57424 := fun h => e57424 (fz_eq.mpr (h.trans (by decide)))
            by_cases e57426 : p0 = 57426
            · subst e57426
              have kk57426 : (57426 : Int32).toInt = 57426 := by decide
              refine lv_lookup (off := 105) (tgt := 188) hx hb dX0_peek_83 (by decide) (by decide) (by decide) ?_
              refine lv_aload_n hx hb dX0_peek_188 rfl (lv_at hl 0 rfl) ?_
              refine va_get (D := (dC, dI)) (ci := 0) (v := .ref oK) (C := RX0) (T := TX0) (N := 6) hx hb hts (by decide +kernel) hown hK hP 0 rfl rfl 3 (by decide) (hts (.fieldLink RX0 30 "UnibusMachine$Bus" "keyboard" "LUnibusMachine$Keyboard;") (by decide +kernel)) (fun _ h9 => h9) rfl dX0_peek_189 ?_
              refine va_get (D := (dC, dI)) (ci := 2) (v := .int 0) (C := RX2) (T := TX2) (N := 3) hx hb hts (by decide +kernel) hown hK hP 5 rfl rfl 2 (by decide) (hts (.fieldLink RX0 64 "UnibusMachine$Keyboard" "character" "I") (by decide +kernel)) (fun _ h9 => h9) rfl dX0_peek_192 ?_
              have hP9 := hP.sub (ws' := []) [] rfl
              have hD9 := hD.sub (ws' := []) [] (by decide) rfl
              have hK9 := hK.sub (tys' := []) [] rfl
              exact W.iret (v := 0) hx hb hr (fun t ht hW => ⟨⟨0, (), rfl, (by first | (exact dv_pos (by omega)) | (exact dv_zero (by omega) (by omega)) | (exact dv_neg (by omega) (by omega))), by rw [ht]; exact hP9, va_K.moved hW.alike hK9, hD9⟩, hS.F ht⟩) hS.2.2 dX0_peek_195
            have e57426 : p0.toInt ≠ 57426 := fun h => e57426 (fz_eq.mpr (h.trans (by decide)))
            by_cases e57428 : p0 = 57428
            · subst e57428
              have kk57428 : (57428 : Int32).toInt = 57428 := by decide
              refine lv_lookup (off := 113) (tgt := 196) hx hb dX0_peek_83 (by decide) (by decide) (by decide) ?_
              refine lv_aload_n hx hb dX0_peek_196 rfl (lv_at hl 0 rfl) ?_
              refine va_get (D := (dC, dI)) (ci := 0) (v := .ref oL) (C := RX0) (T := TX0) (N := 6) hx hb hts (by decide +kernel) hown hK hP 0 rfl rfl 4 (by decide) (hts (.fieldLink RX0 37 "UnibusMachine$Bus" "printer" "LUnibusMachine$Printer;") (by decide +kernel)) (fun _ h9 => h9) rfl dX0_peek_197 ?_
              refine va_get (D := (dC, dI)) (ci := 4) (v := .int 128) (C := RX5) (T := TX5) (N := 7) hx hb hts (by decide +kernel) hown hK hP 6 rfl rfl 0 (by decide) (hts (.fieldLink RX0 67 "UnibusMachine$Printer" "bits" "I") (by decide +kernel)) (u_same (hts (.sameField "UnibusMachine$Printer" "UnibusMachine$Line" "bits" "I") (by decide +kernel))) rfl dX0_peek_200 ?_
              have hP9 := hP.sub (ws' := []) [] rfl
              have hD9 := hD.sub (ws' := []) [] (by decide) rfl
              have hK9 := hK.sub (tys' := []) [] rfl
              exact W.iret (v := 128) hx hb hr (fun t ht hW => ⟨⟨128, (), rfl, (by first | (exact dv_pos (by omega)) | (exact dv_zero (by omega) (by omega)) | (exact dv_neg (by omega) (by omega))), by rw [ht]; exact hP9, va_K.moved hW.alike hK9, hD9⟩, hS.F ht⟩) hS.2.2 dX0_peek_203
            have e57428 : p0.toInt ≠ 57428 := fun h => e57428 (fz_eq.mpr (h.trans (by decide)))
            by_cases e57430 : p0 = 57430
            · subst e57430
              have kk57430 : (57430 : Int32).toInt = 57430 := by decide
              refine lv_lookup (off := 121) (tgt := 204) hx hb dX0_peek_83 (by decide) (by decide) (by decide) ?_
              refine lv_iconst (v := 0) hx hb dX0_peek_204 (by decide) ?_
              have hP9 := hP.sub (ws' := []) [] rfl
              have hD9 := hD.sub (ws' := []) [] (by decide) rfl
              have hK9 := hK.sub (tys' := []) [] rfl
              exact W.iret (v := 0) hx hb hr (fun t ht hW => ⟨⟨0, (), rfl, (by first | (exact dv_pos (by omega)) | (exact dv_zero (by omega) (by omega)) | (exact dv_neg (by omega) (by omega))), by rw [ht]; exact hP9, va_K.moved hW.alike hK9, hD9⟩, hS.F ht⟩) hS.2.2 dX0_peek_205
            have e57430 : p0.toInt ≠ 57430 := fun h => e57430 (fz_eq.mpr (h.trans (by decide)))
            by_cases e57440 : p0 = 57440
            · subst e57440
              have kk57440 : (57440 : Int32).toInt = 57440 := by decide
              refine lv_lookup (off := 123) (tgt := 206) hx hb dX0_peek_83 (by decide) (by decide) (by decide) ?_
              refine lv_aload_n hx hb dX0_peek_206 rfl (lv_at hl 0 rfl) ?_
              refine va_get (D := (dC, dI)) (ci := 0) (v := .ref oD) (C := RX0) (T := TX0) (N := 6) hx hb hts (by decide +kernel) hown hK hP 0 rfl rfl 5 (by decide) (hts (.fieldLink RX0 44 "UnibusMachine$Bus" "drive" "LUnibusMachine$Drive;") (by decide +kernel)) (fun _ h9 => h9) rfl dX0_peek_207 ?_
              refine va_get (D := (dC, dI)) (ci := 1) (v := .int 128) (C := RX1) (T := TX1) (N := 10) hx hb hts (by decide +kernel) hown hK hP 7 rfl rfl 0 (by decide) (hts (.fieldLink RX0 68 "UnibusMachine$Drive" "bits" "I") (by decide +kernel)) (u_same (hts (.sameField "UnibusMachine$Drive" "UnibusMachine$Line" "bits" "I") (by decide +kernel))) rfl dX0_peek_210 ?_
              refine lv_aload_n hx hb dX0_peek_213 rfl (lv_at hl 0 rfl) ?_
              refine va_get (D := (dC, dI)) (ci := 0) (v := .ref oD) (C := RX0) (T := TX0) (N := 6) hx hb hts (by decide +kernel) hown hK hP 0 rfl rfl 5 (by decide) (hts (.fieldLink RX0 44 "UnibusMachine$Bus" "drive" "LUnibusMachine$Drive;") (by decide +kernel)) (fun _ h9 => h9) rfl dX0_peek_214 ?_
              refine va_get (D := (dC, dI)) (ci := 1) (v := .int 0) (C := RX1) (T := TX1) (N := 10) hx hb hts (by decide +kernel) hown hK hP 7 rfl rfl 3 (by decide) (hts (.fieldLink RX0 69 "UnibusMachine$Drive" "writing" "I") (by decide +kernel)) (fun _ h9 => h9) rfl dX0_peek_217 ?_
              refine lv_ior hx hb dX0_peek_220 ?_
              refine lv_topi (fun y12 ey12 => ?_)
              obtain rfl : y12 = 128 := by rw [ey12]; decide
              refine lv_aload_n hx hb dX0_peek_221 rfl (lv_at hl 0 rfl) ?_
              refine va_get (D := (dC, dI)) (ci := 0) (v := .ref oD) (C := RX0) (T := TX0) (N := 6) hx hb hts (by decide +kernel) hown hK hP 0 rfl rfl 5 (by decide) (hts (.fieldLink RX0 44 "UnibusMachine$Bus" "drive" "LUnibusMachine$Drive;") (by decide +kernel)) (fun _ h9 => h9) rfl dX0_peek_222 ?_
              refine va_get (D := (dC, dI)) (ci := 1) (v := .int 0) (C := RX1) (T := TX1) (N := 10) hx hb hts (by decide +kernel) hown hK hP 7 rfl rfl 4 (by decide) (hts (.fieldLink RX0 72 "UnibusMachine$Drive" "wrong" "I") (by decide +kernel)) (fun _ h9 => h9) rfl dX0_peek_225 ?_
              refine lv_ior hx hb dX0_peek_228 ?_
              refine lv_topi (fun y13 ey13 => ?_)
              obtain rfl : y13 = 128 := by rw [ey13]; decide
              have hP9 := hP.sub (ws' := []) [] rfl
              have hD9 := hD.sub (ws' := []) [] (by decide) rfl
              have hK9 := hK.sub (tys' := []) [] rfl
              exact W.iret (v := 128) hx hb hr (fun t ht hW => ⟨⟨128, (), rfl, (by first | (exact dv_pos (by omega)) | (exact dv_zero (by omega) (by omega)) | (exact dv_neg (by omega) (by omega))), by rw [ht]; exact hP9, va_K.moved hW.alike hK9, hD9⟩, hS.F ht⟩) hS.2.2 dX0_peek_229
            have e57440 : p0.toInt ≠ 57440 := fun h => e57440 (fz_eq.mpr (h.trans (by decide)))
            by_cases e57442 : p0 = 57442
            · subst e57442
              have kk57442 : (57442 : Int32).toInt = 57442 := by decide
              refine lv_lookup (off := 147) (tgt := 230) hx hb dX0_peek_83 (by decide) (by decide) (by decide) ?_
              refine lv_aload_n hx hb dX0_peek_230 rfl (lv_at hl 0 rfl) ?_
              refine va_get (D := (dC, dI)) (ci := 0) (v := .ref oD) (C := RX0) (T := TX0) (N := 6) hx hb hts (by decide +kernel) hown hK hP 0 rfl rfl 5 (by decide) (hts (.fieldLink RX0 44 "UnibusMachine$Bus" "drive" "LUnibusMachine$Drive;") (by decide +kernel)) (fun _ h9 => h9) rfl dX0_peek_231 ?_
              refine va_get (D := (dC, dI)) (ci := 1) (v := .int 0) (C := RX1) (T := TX1) (N := 10) hx hb hts (by decide +kernel) hown hK hP 7 rfl rfl 5 (by decide) (hts (.fieldLink RX0 75 "UnibusMachine$Drive" "count" "I") (by decide +kernel)) (fun _ h9 => h9) rfl dX0_peek_234 ?_
              have hP9 := hP.sub (ws' := []) [] rfl
              have hD9 := hD.sub (ws' := []) [] (by decide) rfl
              have hK9 := hK.sub (tys' := []) [] rfl
              exact W.iret (v := 0) hx hb hr (fun t ht hW => ⟨⟨0, (), rfl, (by first | (exact dv_pos (by omega)) | (exact dv_zero (by omega) (by omega)) | (exact dv_neg (by omega) (by omega))), by rw [ht]; exact hP9, va_K.moved hW.alike hK9, hD9⟩, hS.F ht⟩) hS.2.2 dX0_peek_237
            have e57442 : p0.toInt ≠ 57442 := fun h => e57442 (fz_eq.mpr (h.trans (by decide)))
            by_cases e57444 : p0 = 57444
            · subst e57444
              have kk57444 : (57444 : Int32).toInt = 57444 := by decide
              refine lv_lookup (off := 155) (tgt := 238) hx hb dX0_peek_83 (by decide) (by decide) (by decide) ?_
              refine lv_aload_n hx hb dX0_peek_238 rfl (lv_at hl 0 rfl) ?_
              refine va_get (D := (dC, dI)) (ci := 0) (v := .ref oD) (C := RX0) (T := TX0) (N := 6) hx hb hts (by decide +kernel) hown hK hP 0 rfl rfl 5 (by decide) (hts (.fieldLink RX0 44 "UnibusMachine$Bus" "drive" "LUnibusMachine$Drive;") (by decide +kernel)) (fun _ h9 => h9) rfl dX0_peek_239 ?_
              refine va_get (D := (dC, dI)) (ci := 1) (v := .int 0) (C := RX1) (T := TX1) (N := 10) hx hb hts (by decide +kernel) hown hK hP 7 rfl rfl 6 (by decide) (hts (.fieldLink RX0 78 "UnibusMachine$Drive" "address" "I") (by decide +kernel)) (fun _ h9 => h9) rfl dX0_peek_242 ?_
              have hP9 := hP.sub (ws' := []) [] rfl
              have hD9 := hD.sub (ws' := []) [] (by decide) rfl
              have hK9 := hK.sub (tys' := []) [] rfl
              exact W.iret (v := 0) hx hb hr (fun t ht hW => ⟨⟨0, (), rfl, (by first | (exact dv_pos (by omega)) | (exact dv_zero (by omega) (by omega)) | (exact dv_neg (by omega) (by omega))), by rw [ht]; exact hP9, va_K.moved hW.alike hK9, hD9⟩, hS.F ht⟩) hS.2.2 dX0_peek_245
            have e57444 : p0.toInt ≠ 57444 := fun h => e57444 (fz_eq.mpr (h.trans (by decide)))
            by_cases e57446 : p0 = 57446
            · subst e57446
              have kk57446 : (57446 : Int32).toInt = 57446 := by decide
              refine lv_lookup (off := 163) (tgt := 246) hx hb dX0_peek_83 (by decide) (by decide) (by decide) ?_
              refine lv_aload_n hx hb dX0_peek_246 rfl (lv_at hl 0 rfl) ?_
              refine va_get (D := (dC, dI)) (ci := 0) (v := .ref oD) (C := RX0) (T := TX0) (N := 6) hx hb hts (by decide +kernel) hown hK hP 0 rfl rfl 5 (by decide) (hts (.fieldLink RX0 44 "UnibusMachine$Bus" "drive" "LUnibusMachine$Drive;") (by decide +kernel)) (fun _ h9 => h9) rfl dX0_peek_247 ?_
              refine va_get (D := (dC, dI)) (ci := 1) (v := .int 0) (C := RX1) (T := TX1) (N := 10) hx hb hts (by decide +kernel) hown hK hP 7 rfl rfl 7 (by decide) (hts (.fieldLink RX0 81 "UnibusMachine$Drive" "sector" "I") (by decide +kernel)) (fun _ h9 => h9) rfl dX0_peek_250 ?_
              have hP9 := hP.sub (ws' := []) [] rfl
              have hD9 := hD.sub (ws' := []) [] (by decide) rfl
              have hK9 := hK.sub (tys' := []) [] rfl
              exact W.iret (v := 0) hx hb hr (fun t ht hW => ⟨⟨0, (), rfl, (by first | (exact dv_pos (by omega)) | (exact dv_zero (by omega) (by omega)) | (exact dv_neg (by omega) (by omega))), by rw [ht]; exact hP9, va_K.moved hW.alike hK9, hD9⟩, hS.F ht⟩) hS.2.2 dX0_peek_253
            have e57446 : p0.toInt ≠ 57446 := fun h => e57446 (fz_eq.mpr (h.trans (by decide)))
            by_cases e57470 : p0 = 57470
            · subst e57470
              have kk57470 : (57470 : Int32).toInt = 57470 := by decide
              refine lv_lookup (off := 171) (tgt := 254) hx hb dX0_peek_83 (by decide) (by decide) (by decide) ?_
              refine lv_aload_n hx hb dX0_peek_254 rfl (lv_at hl 0 rfl) ?_
              refine va_get (D := (dC, dI)) (ci := 0) (v := .ref oS) (C := RX0) (T := TX0) (N := 6) hx hb hts (by decide +kernel) hown hK hP 0 rfl rfl 2 (by decide) (hts (.fieldLink RX0 23 "UnibusMachine$Bus" "status" "LUnibusMachine$Status;") (by decide +kernel)) (fun _ h9 => h9) rfl dX0_peek_255 ?_
              refine va_get (D := (dC, dI)) (ci := 6) (v := .int 0) (C := RX7) (T := TX7) (N := 2) hx hb hts (by decide +kernel) hown hK hP 4 rfl rfl 0 (by decide) (hts (.fieldLink RX0 84 "UnibusMachine$Status" "now" "I") (by decide +kernel)) (fun _ h9 => h9) rfl dX0_peek_258 ?_
              have hP9 := hP.sub (ws' := []) [] rfl
              have hD9 := hD.sub (ws' := []) [] (by decide) rfl
              have hK9 := hK.sub (tys' := []) [] rfl
              exact W.iret (v := 0) hx hb hr (fun t ht hW => ⟨⟨0, (), rfl, (by first | (exact dv_pos (by omega)) | (exact dv_zero (by omega) (by omega)) | (exact dv_neg (by omega) (by omega))), by rw [ht]; exact hP9, va_K.moved hW.alike hK9, hD9⟩, hS.F ht⟩) hS.2.2 dX0_peek_261
            have e57470 : p0.toInt ≠ 57470 := fun h => e57470 (fz_eq.mpr (h.trans (by decide)))
            refine lv_lookup (off := 179) (tgt := 262) hx hb dX0_peek_83 (by decide) (by simp [Op.lookupswitch.offset, Ne.symm e57408, e57408, Ne.symm e57424, e57424, Ne.symm e57426, e57426, Ne.symm e57428, e57428, Ne.symm e57430, e57430, Ne.symm e57440, e57440, Ne.symm e57442, e57442, Ne.symm e57444, e57444, Ne.symm e57446, e57446, Ne.symm e57470, e57470]) (by decide) ?_
            refine lv_iconst (v := (-1)) hx hb dX0_peek_262 (by decide) ?_
            have hP9 := hP.sub (ws' := []) [] rfl
            have hD9 := hD.sub (ws' := []) [] (by decide) rfl
            have hK9 := hK.sub (tys' := []) [] rfl
            exact W.iret (v := (-1)) hx hb hr (fun t ht hW => ⟨⟨(-1), (), rfl, (by first | (exact dv_pos (by omega)) | (exact dv_zero (by omega) (by omega)) | (exact dv_neg (by omega) (by omega))), by rw [ht]; exact hP9, va_K.moved hW.alike hK9, hD9⟩, hS.F ht⟩) hS.2.2 dX0_peek_263
          · have c11 := fz_nlt.mp c11
            have kk57376 : (57376 : Int32).toInt = 57376 := by decide
            refine lv_iload_n hx hb dX0_peek_61 rfl (lv_at hl 1 rfl) ?_
            refine lv_ldc (v := 57408) hx hb hown (hts (.constant RX0 53 (57408)) (by decide +kernel)) dX0_peek_62 ?_
            refine lv_icmp_ge (tgt := 82) hx hb dX0_peek_64 (by decide) (fun c14 => ?_) (fun c14 => ?_)
            · have c14 := fz_le.mp c14
              have kk57408 : (57408 : Int32).toInt = 57408 := by decide
              refine lv_iload_n hx hb dX0_peek_82 rfl (lv_at hl 1 rfl) ?_
              by_cases e57408 : p0 = 57408
              · subst e57408
                have kk57408 : (57408 : Int32).toInt = 57408 := by decide
                refine lv_lookup (off := 89) (tgt := 172) hx hb dX0_peek_83 (by decide) (by decide) (by decide) ?_
                refine lv_aload_n hx hb dX0_peek_172 rfl (lv_at hl 0 rfl) ?_
                refine va_get (D := (dC, dI)) (ci := 0) (v := .ref oM) (C := RX0) (T := TX0) (N := 6) hx hb hts (by decide +kernel) hown hK hP 0 rfl rfl 1 (by decide) (hts (.fieldLink RX0 16 "UnibusMachine$Bus" "map" "LUnibusMachine$PageMap;") (by decide +kernel)) (fun _ h9 => h9) rfl dX0_peek_173 ?_
                refine va_get (D := (dC, dI)) (ci := 3) (v := .int 0) (C := RX4) (T := TX4) (N := 3) hx hb hts (by decide +kernel) hown hK hP 1 rfl rfl 2 (by decide) (hts (.fieldLink RX0 57 "UnibusMachine$PageMap" "control" "I") (by decide +kernel)) (fun _ h9 => h9) rfl dX0_peek_176 ?_
                have hP9 := hP.sub (ws' := []) [] rfl
                have hD9 := hD.sub (ws' := []) [] (by decide) rfl
                have hK9 := hK.sub (tys' := []) [] rfl
                exact W.iret (v := 0) hx hb hr (fun t ht hW => ⟨⟨0, (), rfl, (by first | (exact dv_pos (by omega)) | (exact dv_zero (by omega) (by omega)) | (exact dv_neg (by omega) (by omega))), by rw [ht]; exact hP9, va_K.moved hW.alike hK9, hD9⟩, hS.F ht⟩) hS.2.2 dX0_peek_179
              have e57408 : p0.toInt ≠ 57408 := fun h => e57408 (fz_eq.mpr (h.trans (by decide)))
              by_cases e57424 : p0 = 57424
              · subst e57424
                have kk57424 : (57424 : Int32).toInt = 57424 := by decide
                refine lv_lookup (off := 97) (tgt := 180) hx hb dX0_peek_83 (by decide) (by decide) (by decide) ?_
                refine lv_aload_n hx hb dX0_peek_180 rfl (lv_at hl 0 rfl) ?_
                refine va_get (D := (dC, dI)) (ci := 0) (v := .ref oK) (C := RX0) (T := TX0) (N := 6) hx hb hts (by decide +kernel) hown hK hP 0 rfl rfl 3 (by decide) (hts (.fieldLink RX0 30 "UnibusMachine$Bus" "keyboard" "LUnibusMachine$Keyboard;") (by decide +kernel)) (fun _ h9 => h9) rfl dX0_peek_181 ?_
                refine va_get (D := (dC, dI)) (ci := 2) (v := .int 0) (C := RX2) (T := TX2) (N := 3) hx hb hts (by decide +kernel) hown hK hP 5 rfl rfl 0 (by decide) (hts (.fieldLink RX0 61 "UnibusMachine$Keyboard" "bits" "I") (by decide +kernel)) (u_same (hts (.sameField "UnibusMachine$Keyboard" "UnibusMachine$Line" "bits" "I") (by decide +kernel))) rfl dX0_peek_184 ?_
                have hP9 := hP.sub (ws' := []) [] rfl
                have hD9 := hD.sub (ws' := []) [] (by decide) rfl
                have hK9 := hK.sub (tys' := []) [] rfl
                exact W.iret (v := 0) hx hb hr (fun t ht hW => ⟨⟨0, (), rfl, (by first | (exact dv_pos (by omega)) | (exact dv_zero (by omega) (by omega)) | (exact dv_neg (by omega) (by omega))), by rw [ht]; exact hP9, va_K.moved hW.alike hK9, hD9⟩, hS.F ht⟩) hS.2.2 dX0_peek_187
              have e57424 : p0.toInt ≠ 57424 := fun h => e57424 (fz_eq.mpr (h.trans (by decide)))
              by_cases e57426 : p0 = 57426
              · subst e57426
                have kk57426 : (57426 : Int32).toInt = 57426 := by decide
                refine lv_lookup (off := 105) (tgt := 188) hx hb dX0_peek_83 (by decide) (by decide) (by decide) ?_
                refine lv_aload_n hx hb dX0_peek_188 rfl (lv_at hl 0 rfl) ?_
                refine va_get (D := (dC, dI)) (ci := 0) (v := .ref oK) (C := RX0) (T := TX0) (N := 6) hx hb hts (by decide +kernel) hown hK hP 0 rfl rfl 3 (by decide) (hts (.fieldLink RX0 30 "UnibusMachine$Bus" "keyboard" "LUnibusMachine$Keyboard;") (by decide +kernel)) (fun _ h9 => h9) rfl dX0_peek_189 ?_
                refine va_get (D := (dC, dI)) (ci := 2) (v := .int 0) (C := RX2) (T := TX2) (N := 3) hx hb hts (by decide +kernel) hown hK hP 5 rfl rfl 2 (by decide) (hts (.fieldLink RX0 64 "UnibusMachine$Keyboard" "character" "I") (by decide +kernel)) (fun _ h9 => h9) rfl dX0_peek_192 ?_
                have hP9 := hP.sub (ws' := []) [] rfl
                have hD9 := hD.sub (ws' := []) [] (by decide) rfl
                have hK9 := hK.sub (tys' := []) [] rfl
                exact W.iret (v := 0) hx hb hr (fun t ht hW => ⟨⟨0, (), rfl, (by first | (exact dv_pos (by omega)) | (exact dv_zero (by omega) (by omega)) | (exact dv_neg (by omega) (by omega))), by rw [ht]; exact hP9, va_K.moved hW.alike hK9, hD9⟩, hS.F ht⟩) hS.2.2 dX0_peek_195
              have e57426 : p0.toInt ≠ 57426 := fun h => e57426 (fz_eq.mpr (h.trans (by decide)))
              by_cases e57428 : p0 = 57428
              · subst e57428
                have kk57428 : (57428 : Int32).toInt = 57428 := by decide
                refine lv_lookup (off := 113) (tgt := 196) hx hb dX0_peek_83 (by decide) (by decide) (by decide) ?_
                refine lv_aload_n hx hb dX0_peek_196 rfl (lv_at hl 0 rfl) ?_
                refine va_get (D := (dC, dI)) (ci := 0) (v := .ref oL) (C := RX0) (T := TX0) (N := 6) hx hb hts (by decide +kernel) hown hK hP 0 rfl rfl 4 (by decide) (hts (.fieldLink RX0 37 "UnibusMachine$Bus" "printer" "LUnibusMachine$Printer;") (by decide +kernel)) (fun _ h9 => h9) rfl dX0_peek_197 ?_
                refine va_get (D := (dC, dI)) (ci := 4) (v := .int 128) (C := RX5) (T := TX5) (N := 7) hx hb hts (by decide +kernel) hown hK hP 6 rfl rfl 0 (by decide) (hts (.fieldLink RX0 67 "UnibusMachine$Printer" "bits" "I") (by decide +kernel)) (u_same (hts (.sameField "UnibusMachine$Printer" "UnibusMachine$Line" "bits" "I") (by decide +kernel))) rfl dX0_peek_200 ?_
                have hP9 := hP.sub (ws' := []) [] rfl
                have hD9 := hD.sub (ws' := []) [] (by decide) rfl
                have hK9 := hK.sub (tys' := []) [] rfl
                exact W.iret (v := 128) hx hb hr (fun t ht hW => ⟨⟨128, (), rfl, (by first | (exact dv_pos (by omega)) | (exact dv_zero (by omega) (by omega)) | (exact dv_neg (by omega) (by omega))), by rw [ht]; exact hP9, va_K.moved hW.alike hK9, hD9⟩, hS.F ht⟩) hS.2.2 dX0_peek_203
              have e57428 : p0.toInt ≠ 57428 := fun h => e57428 (fz_eq.mpr (h.trans (by decide)))
              by_cases e57430 : p0 = 57430
              · subst e57430
                have kk57430 : (57430 : Int32).toInt = 57430 := by decide
                refine lv_lookup (off := 121) (tgt := 204) hx hb dX0_peek_83 (by decide) (by decide) (by decide) ?_
                refine lv_iconst (v := 0) hx hb dX0_peek_204 (by decide) ?_
                have hP9 := hP.sub (ws' := []) [] rfl
                have hD9 := hD.sub (ws' := []) [] (by decide) rfl
                have hK9 := hK.sub (tys' := []) [] rfl
                exact W.iret (v := 0) hx hb hr (fun t ht hW => ⟨⟨0, (), rfl, (by first | (exact dv_pos (by omega)) | (exact dv_zero (by omega) (by omega)) | (exact dv_neg (by omega) (by omega))), by rw [ht]; exact hP9, va_K.moved hW.alike hK9, hD9⟩, hS.F ht⟩) hS.2.2 dX0_peek_205
              have e57430 : p0.toInt ≠ 57430 := fun h => e57430 (fz_eq.mpr (h.trans (by decide)))
              by_cases e57440 : p0 = 57440
              · subst e57440
                have kk57440 : (57440 : Int32).toInt = 57440 := by decide
                refine lv_lookup (off := 123) (tgt := 206) hx hb dX0_peek_83 (by decide) (by decide) (by decide) ?_
                refine lv_aload_n hx hb dX0_peek_206 rfl (lv_at hl 0 rfl) ?_
                refine va_get (D := (dC, dI)) (ci := 0) (v := .ref oD) (C := RX0) (T := TX0) (N := 6) hx hb hts (by decide +kernel) hown hK hP 0 rfl rfl 5 (by decide) (hts (.fieldLink RX0 44 "UnibusMachine$Bus" "drive" "LUnibusMachine$Drive;") (by decide +kernel)) (fun _ h9 => h9) rfl dX0_peek_207 ?_
                refine va_get (D := (dC, dI)) (ci := 1) (v := .int 128) (C := RX1) (T := TX1) (N := 10) hx hb hts (by decide +kernel) hown hK hP 7 rfl rfl 0 (by decide) (hts (.fieldLink RX0 68 "UnibusMachine$Drive" "bits" "I") (by decide +kernel)) (u_same (hts (.sameField "UnibusMachine$Drive" "UnibusMachine$Line" "bits" "I") (by decide +kernel))) rfl dX0_peek_210 ?_
                refine lv_aload_n hx hb dX0_peek_213 rfl (lv_at hl 0 rfl) ?_
                refine va_get (D := (dC, dI)) (ci := 0) (v := .ref oD) (C := RX0) (T := TX0) (N := 6) hx hb hts (by decide +kernel) hown hK hP 0 rfl rfl 5 (by decide) (hts (.fieldLink RX0 44 "UnibusMachine$Bus" "drive" "LUnibusMachine$Drive;") (by decide +kernel)) (fun _ h9 => h9) rfl dX0_peek_214 ?_
                refine va_get (D := (dC, dI)) (ci := 1) (v := .int 0) (C := RX1) (T := TX1) (N := 10) hx hb hts (by decide +kernel) hown hK hP 7 rfl rfl 3 (by decide) (hts (.fieldLink RX0 69 "UnibusMachine$Drive" "writing" "I") (by decide +kernel)) (fun _ h9 => h9) rfl dX0_peek_217 ?_
                refine lv_ior hx hb dX0_peek_220 ?_
                refine lv_topi (fun y15 ey15 => ?_)
                obtain rfl : y15 = 128 := by rw [ey15]; decide
                refine lv_aload_n hx hb dX0_peek_221 rfl (lv_at hl 0 rfl) ?_
                refine va_get (D := (dC, dI)) (ci := 0) (v := .ref oD) (C := RX0) (T := TX0) (N := 6) hx hb hts (by decide +kernel) hown hK hP 0 rfl rfl 5 (by decide) (hts (.fieldLink RX0 44 "UnibusMachine$Bus" "drive" "LUnibusMachine$Drive;") (by decide +kernel)) (fun _ h9 => h9) rfl dX0_peek_222 ?_
                refine va_get (D := (dC, dI)) (ci := 1) (v := .int 0) (C := RX1) (T := TX1) (N := 10) hx hb hts (by decide +kernel) hown hK hP 7 rfl rfl 4 (by decide) (hts (.fieldLink RX0 72 "UnibusMachine$Drive" "wrong" "I") (by decide +kernel)) (fun _ h9 => h9) rfl dX0_peek_225 ?_
                refine lv_ior hx hb dX0_peek_228 ?_
                refine lv_topi (fun y16 ey16 => ?_)
                obtain rfl : y16 = 128 := by rw [ey16]; decide
                have hP9 := hP.sub (ws' := []) [] rfl
                have hD9 := hD.sub (ws' := []) [] (by decide) rfl
                have hK9 := hK.sub (tys' := []) [] rfl
                exact W.iret (v := 128) hx hb hr (fun t ht hW => ⟨⟨128, (), rfl, (by first | (exact dv_pos (by omega)) | (exact dv_zero (by omega) (by omega)) | (exact dv_neg (by omega) (by omega))), by rw [ht]; exact hP9, va_K.moved hW.alike hK9, hD9⟩, hS.F ht⟩) hS.2.2 dX0_peek_229
              have e57440 : p0.toInt ≠ 57440 := fun h => e57440 (fz_eq.mpr (h.trans (by decide)))
              by_cases e57442 : p0 = 57442
              · subst e57442
                have kk57442 : (57442 : Int32).toInt = 57442 := by decide
                refine lv_lookup (off := 147) (tgt := 230) hx hb dX0_peek_83 (by decide) (by decide) (by decide) ?_
                refine lv_aload_n hx hb dX0_peek_230 rfl (lv_at hl 0 rfl) ?_
                refine va_get (D := (dC, dI)) (ci := 0) (v := .ref oD) (C := RX0) (T := TX0) (N := 6) hx hb hts (by decide +kernel) hown hK hP 0 rfl rfl 5 (by decide) (hts (.fieldLink RX0 44 "UnibusMachine$Bus" "drive" "LUnibusMachine$Drive;") (by decide +kernel)) (fun _ h9 => h9) rfl dX0_peek_231 ?_
                refine va_get (D := (dC, dI)) (ci := 1) (v := .int 0) (C := RX1) (T := TX1) (N := 10) hx hb hts (by decide +kernel) hown hK hP 7 rfl rfl 5 (by decide) (hts (.fieldLink RX0 75 "UnibusMachine$Drive" "count" "I") (by decide +kernel)) (fun _ h9 => h9) rfl dX0_peek_234 ?_
                have hP9 := hP.sub (ws' := []) [] rfl
                have hD9 := hD.sub (ws' := []) [] (by decide) rfl
                have hK9 := hK.sub (tys' := []) [] rfl
                exact W.iret (v := 0) hx hb hr (fun t ht hW => ⟨⟨0, (), rfl, (by first | (exact dv_pos (by omega)) | (exact dv_zero (by omega) (by omega)) | (exact dv_neg (by omega) (by omega))), by rw [ht]; exact hP9, va_K.moved hW.alike hK9, hD9⟩, hS.F ht⟩) hS.2.2 dX0_peek_237
              have e57442 : p0.toInt ≠ 57442 := fun h => e57442 (fz_eq.mpr (h.trans (by decide)))
              by_cases e57444 : p0 = 57444
              · subst e57444
                have kk57444 : (57444 : Int32).toInt = 57444 := by decide
                refine lv_lookup (off := 155) (tgt := 238) hx hb dX0_peek_83 (by decide) (by decide) (by decide) ?_
                refine lv_aload_n hx hb dX0_peek_238 rfl (lv_at hl 0 rfl) ?_
                refine va_get (D := (dC, dI)) (ci := 0) (v := .ref oD) (C := RX0) (T := TX0) (N := 6) hx hb hts (by decide +kernel) hown hK hP 0 rfl rfl 5 (by decide) (hts (.fieldLink RX0 44 "UnibusMachine$Bus" "drive" "LUnibusMachine$Drive;") (by decide +kernel)) (fun _ h9 => h9) rfl dX0_peek_239 ?_
                refine va_get (D := (dC, dI)) (ci := 1) (v := .int 0) (C := RX1) (T := TX1) (N := 10) hx hb hts (by decide +kernel) hown hK hP 7 rfl rfl 6 (by decide) (hts (.fieldLink RX0 78 "UnibusMachine$Drive" "address" "I") (by decide +kernel)) (fun _ h9 => h9) rfl dX0_peek_242 ?_
                have hP9 := hP.sub (ws' := []) [] rfl
                have hD9 := hD.sub (ws' := []) [] (by decide) rfl
                have hK9 := hK.sub (tys' := []) [] rfl
                exact W.iret (v := 0) hx hb hr (fun t ht hW => ⟨⟨0, (), rfl, (by first | (exact dv_pos (by omega)) | (exact dv_zero (by omega) (by omega)) | (exact dv_neg (by omega) (by omega))), by rw [ht]; exact hP9, va_K.moved hW.alike hK9, hD9⟩, hS.F ht⟩) hS.2.2 dX0_peek_245
              have e57444 : p0.toInt ≠ 57444 := fun h => e57444 (fz_eq.mpr (h.trans (by decide)))
              by_cases e57446 : p0 = 57446
              · subst e57446
                have kk57446 : (57446 : Int32).toInt = 57446 := by decide
                refine lv_lookup (off := 163) (tgt := 246) hx hb dX0_peek_83 (by decide) (by decide) (by decide) ?_
                refine lv_aload_n hx hb dX0_peek_246 rfl (lv_at hl 0 rfl) ?_
                refine va_get (D := (dC, dI)) (ci := 0) (v := .ref oD) (C := RX0) (T := TX0) (N := 6) hx hb hts (by decide +kernel) hown hK hP 0 rfl rfl 5 (by decide) (hts (.fieldLink RX0 44 "UnibusMachine$Bus" "drive" "LUnibusMachine$Drive;") (by decide +kernel)) (fun _ h9 => h9) rfl dX0_peek_247 ?_
                refine va_get (D := (dC, dI)) (ci := 1) (v := .int 0) (C := RX1) (T := TX1) (N := 10) hx hb hts (by decide +kernel) hown hK hP 7 rfl rfl 7 (by decide) (hts (.fieldLink RX0 81 "UnibusMachine$Drive" "sector" "I") (by decide +kernel)) (fun _ h9 => h9) rfl dX0_peek_250 ?_
                have hP9 := hP.sub (ws' := []) [] rfl
                have hD9 := hD.sub (ws' := []) [] (by decide) rfl
                have hK9 := hK.sub (tys' := []) [] rfl
                exact W.iret (v := 0) hx hb hr (fun t ht hW => ⟨⟨0, (), rfl, (by first | (exact dv_pos (by omega)) | (exact dv_zero (by omega) (by omega)) | (exact dv_neg (by omega) (by omega))), by rw [ht]; exact hP9, va_K.moved hW.alike hK9, hD9⟩, hS.F ht⟩) hS.2.2 dX0_peek_253
              have e57446 : p0.toInt ≠ 57446 := fun h => e57446 (fz_eq.mpr (h.trans (by decide)))
              by_cases e57470 : p0 = 57470
              · subst e57470
                have kk57470 : (57470 : Int32).toInt = 57470 := by decide
                refine lv_lookup (off := 171) (tgt := 254) hx hb dX0_peek_83 (by decide) (by decide) (by decide) ?_
                refine lv_aload_n hx hb dX0_peek_254 rfl (lv_at hl 0 rfl) ?_
                refine va_get (D := (dC, dI)) (ci := 0) (v := .ref oS) (C := RX0) (T := TX0) (N := 6) hx hb hts (by decide +kernel) hown hK hP 0 rfl rfl 2 (by decide) (hts (.fieldLink RX0 23 "UnibusMachine$Bus" "status" "LUnibusMachine$Status;") (by decide +kernel)) (fun _ h9 => h9) rfl dX0_peek_255 ?_
                refine va_get (D := (dC, dI)) (ci := 6) (v := .int 0) (C := RX7) (T := TX7) (N := 2) hx hb hts (by decide +kernel) hown hK hP 4 rfl rfl 0 (by decide) (hts (.fieldLink RX0 84 "UnibusMachine$Status" "now" "I") (by decide +kernel)) (fun _ h9 => h9) rfl dX0_peek_258 ?_
                have hP9 := hP.sub (ws' := []) [] rfl
                have hD9 := hD.sub (ws' := []) [] (by decide) rfl
                have hK9 := hK.sub (tys' := []) [] rfl
                exact W.iret (v := 0) hx hb hr (fun t ht hW => ⟨⟨0, (), rfl, (by first | (exact dv_pos (by omega)) | (exact dv_zero (by omega) (by omega)) | (exact dv_neg (by omega) (by omega))), by rw [ht]; exact hP9, va_K.moved hW.alike hK9, hD9⟩, hS.F ht⟩) hS.2.2 dX0_peek_261
              have e57470 : p0.toInt ≠ 57470 := fun h => e57470 (fz_eq.mpr (h.trans (by decide)))
              refine lv_lookup (off := 179) (tgt := 262) hx hb dX0_peek_83 (by decide) (by simp [Op.lookupswitch.offset, Ne.symm e57408, e57408, Ne.symm e57424, e57424, Ne.symm e57426, e57426, Ne.symm e57428, e57428, Ne.symm e57430, e57430, Ne.symm e57440, e57440, Ne.symm e57442, e57442, Ne.symm e57444, e57444, Ne.symm e57446, e57446, Ne.symm e57470, e57470]) (by decide) ?_
              refine lv_iconst (v := (-1)) hx hb dX0_peek_262 (by decide) ?_
              have hP9 := hP.sub (ws' := []) [] rfl
              have hD9 := hD.sub (ws' := []) [] (by decide) rfl
              have hK9 := hK.sub (tys' := []) [] rfl
              exact W.iret (v := (-1)) hx hb hr (fun t ht hW => ⟨⟨(-1), (), rfl, (by first | (exact dv_pos (by omega)) | (exact dv_zero (by omega) (by omega)) | (exact dv_neg (by omega) (by omega))), by rw [ht]; exact hP9, va_K.moved hW.alike hK9, hD9⟩, hS.F ht⟩) hS.2.2 dX0_peek_263
            · have c14 := fz_nle.mp c14
              have kk57408 : (57408 : Int32).toInt = 57408 := by decide
              refine lv_aload_n hx hb dX0_peek_67 rfl (lv_at hl 0 rfl) ?_
              refine va_get (D := (dC, dI)) (ci := 0) (v := .ref oM) (C := RX0) (T := TX0) (N := 6) hx hb hts (by decide +kernel) hown hK hP 0 rfl rfl 1 (by decide) (hts (.fieldLink RX0 16 "UnibusMachine$Bus" "map" "LUnibusMachine$PageMap;") (by decide +kernel)) (fun _ h9 => h9) rfl dX0_peek_68 ?_
              refine va_get (D := (dC, dI)) (ci := 3) (v := .ref ab) (C := RX4) (T := TX4) (N := 3) hx hb hts (by decide +kernel) hown hK hP 1 rfl rfl 1 (by decide) (hts (.fieldLink RX0 54 "UnibusMachine$PageMap" "bases" "[I") (by decide +kernel)) (fun _ h9 => h9) rfl dX0_peek_71 ?_
              refine lv_iload_n hx hb dX0_peek_74 rfl (lv_at hl 1 rfl) ?_
              refine lv_ldc (v := 57376) hx hb hown (hts (.constant RX0 49 (57376)) (by decide +kernel)) dX0_peek_75 ?_
              refine lv_isub hx hb dX0_peek_77 ?_
              have f2 := fz_sub p0 57376 (by omega) (by omega)
              refine lv_iconst (v := 1) hx hb dX0_peek_78 (by decide) ?_
              refine lv_ishr hx hb dX0_peek_79 ?_
              have f3 := fz_shr1 (p0 - 57376) (by omega)
              refine va_iald (D := (dC, dI)) hx hb hK hP 3 1 rfl rfl (vp_in_iff.mpr (by constructor <;> omega)) dX0_peek_80 ?_
              have hP9 := hP.sub (ws' := []) [] rfl
              have hD9 := hD.sub (ws' := []) [] (by decide) rfl
              have hK9 := hK.sub (tys' := []) [] rfl
              exact W.iret (v := 0) hx hb hr (fun t ht hW => ⟨⟨0, (), rfl, (by first | (exact dv_pos (by omega)) | (exact dv_zero (by omega) (by omega)) | (exact dv_neg (by omega) (by omega))), by rw [ht]; exact hP9, va_K.moved hW.alike hK9, hD9⟩, hS.F ht⟩) hS.2.2 dX0_peek_81
        · have c10 := fz_nle.mp c10
          have kk57376 : (57376 : Int32).toInt = 57376 := by decide
          refine lv_aload_n hx hb dX0_peek_40 rfl (lv_at hl 0 rfl) ?_
          refine va_get (D := (dC, dI)) (ci := 0) (v := .ref oM) (C := RX0) (T := TX0) (N := 6) hx hb hts (by decide +kernel) hown hK hP 0 rfl rfl 1 (by decide) (hts (.fieldLink RX0 16 "UnibusMachine$Bus" "map" "LUnibusMachine$PageMap;") (by decide +kernel)) (fun _ h9 => h9) rfl dX0_peek_41 ?_
          refine va_get (D := (dC, dI)) (ci := 3) (v := .ref ad) (C := RX4) (T := TX4) (N := 3) hx hb hts (by decide +kernel) hown hK hP 1 rfl rfl 0 (by decide) (hts (.fieldLink RX0 50 "UnibusMachine$PageMap" "descriptors" "[I") (by decide +kernel)) (fun _ h9 => h9) rfl dX0_peek_44 ?_
          refine lv_iload_n hx hb dX0_peek_47 rfl (lv_at hl 1 rfl) ?_
          refine lv_ldc (v := 57344) hx hb hown (hts (.constant RX0 48 (57344)) (by decide +kernel)) dX0_peek_48 ?_
          refine lv_isub hx hb dX0_peek_50 ?_
          have f2 := fz_sub p0 57344 (by omega) (by omega)
          refine lv_iconst (v := 1) hx hb dX0_peek_51 (by decide) ?_
          refine lv_ishr hx hb dX0_peek_52 ?_
          have f3 := fz_shr1 (p0 - 57344) (by omega)
          refine va_iald (D := (dC, dI)) hx hb hK hP 2 0 rfl rfl (vp_in_iff.mpr (by constructor <;> omega)) dX0_peek_53 ?_
          have hP9 := hP.sub (ws' := []) [] rfl
          have hD9 := hD.sub (ws' := []) [] (by decide) rfl
          have hK9 := hK.sub (tys' := []) [] rfl
          exact W.iret (v := 0) hx hb hr (fun t ht hW => ⟨⟨0, (), rfl, (by first | (exact dv_pos (by omega)) | (exact dv_zero (by omega) (by omega)) | (exact dv_neg (by omega) (by omega))), by rw [ht]; exact hP9, va_K.moved hW.alike hK9, hD9⟩, hS.F ht⟩) hS.2.2 dX0_peek_54
    · have c2 := fz_nlt.mp c2
      have kk0 : (0 : Int32).toInt = 0 := by decide
      refine lv_iload_n hx hb dX0_peek_12 rfl (lv_at hl 1 rfl) ?_
      refine lv_sipush (v := 1024) hx hb dX0_peek_13 (by decide) ?_
      refine lv_icmp_ge (tgt := 28) hx hb dX0_peek_16 (by decide) (fun c17 => ?_) (fun c17 => ?_)
      · have c17 := fz_le.mp c17
        have kk1024 : (1024 : Int32).toInt = 1024 := by decide
        refine lv_iload_n hx hb dX0_peek_28 rfl (lv_at hl 1 rfl) ?_
        refine lv_ldc (v := 57344) hx hb hown (hts (.constant RX0 48 (57344)) (by decide +kernel)) dX0_peek_29 ?_
        refine lv_icmp_lt (tgt := 55) hx hb dX0_peek_31 (by decide) (fun c18 => ?_) (fun c18 => ?_)
        · have c18 := fz_lt.mp c18
          have kk57344 : (57344 : Int32).toInt = 57344 := by decide
          refine lv_iload_n hx hb dX0_peek_55 rfl (lv_at hl 1 rfl) ?_
          refine lv_ldc (v := 57376) hx hb hown (hts (.constant RX0 49 (57376)) (by decide +kernel)) dX0_peek_56 ?_
          refine lv_icmp_lt (tgt := 82) hx hb dX0_peek_58 (by decide) (fun c19 => ?_) (fun c19 => ?_)
          · have c19 := fz_lt.mp c19
            have kk57376 : (57376 : Int32).toInt = 57376 := by decide
            refine lv_iload_n hx hb dX0_peek_82 rfl (lv_at hl 1 rfl) ?_
            by_cases e57408 : p0 = 57408
            · subst e57408
              have kk57408 : (57408 : Int32).toInt = 57408 := by decide
              refine lv_lookup (off := 89) (tgt := 172) hx hb dX0_peek_83 (by decide) (by decide) (by decide) ?_
              refine lv_aload_n hx hb dX0_peek_172 rfl (lv_at hl 0 rfl) ?_
              refine va_get (D := (dC, dI)) (ci := 0) (v := .ref oM) (C := RX0) (T := TX0) (N := 6) hx hb hts (by decide +kernel) hown hK hP 0 rfl rfl 1 (by decide) (hts (.fieldLink RX0 16 "UnibusMachine$Bus" "map" "LUnibusMachine$PageMap;") (by decide +kernel)) (fun _ h9 => h9) rfl dX0_peek_173 ?_
              refine va_get (D := (dC, dI)) (ci := 3) (v := .int 0) (C := RX4) (T := TX4) (N := 3) hx hb hts (by decide +kernel) hown hK hP 1 rfl rfl 2 (by decide) (hts (.fieldLink RX0 57 "UnibusMachine$PageMap" "control" "I") (by decide +kernel)) (fun _ h9 => h9) rfl dX0_peek_176 ?_
              have hP9 := hP.sub (ws' := []) [] rfl
              have hD9 := hD.sub (ws' := []) [] (by decide) rfl
              have hK9 := hK.sub (tys' := []) [] rfl
              exact W.iret (v := 0) hx hb hr (fun t ht hW => ⟨⟨0, (), rfl, (by first | (exact dv_pos (by omega)) | (exact dv_zero (by omega) (by omega)) | (exact dv_neg (by omega) (by omega))), by rw [ht]; exact hP9, va_K.moved hW.alike hK9, hD9⟩, hS.F ht⟩) hS.2.2 dX0_peek_179
            have e57408 : p0.toInt ≠ 57408 := fun h => e57408 (fz_eq.mpr (h.trans (by decide)))
            by_cases e57424 : p0 = 57424
            · subst e57424
              have kk57424 : (57424 : Int32).toInt = 57424 := by decide
              refine lv_lookup (off := 97) (tgt := 180) hx hb dX0_peek_83 (by decide) (by decide) (by decide) ?_
              refine lv_aload_n hx hb dX0_peek_180 rfl (lv_at hl 0 rfl) ?_
              refine va_get (D := (dC, dI)) (ci := 0) (v := .ref oK) (C := RX0) (T := TX0) (N := 6) hx hb hts (by decide +kernel) hown hK hP 0 rfl rfl 3 (by decide) (hts (.fieldLink RX0 30 "UnibusMachine$Bus" "keyboard" "LUnibusMachine$Keyboard;") (by decide +kernel)) (fun _ h9 => h9) rfl dX0_peek_181 ?_
              refine va_get (D := (dC, dI)) (ci := 2) (v := .int 0) (C := RX2) (T := TX2) (N := 3) hx hb hts (by decide +kernel) hown hK hP 5 rfl rfl 0 (by decide) (hts (.fieldLink RX0 61 "UnibusMachine$Keyboard" "bits" "I") (by decide +kernel)) (u_same (hts (.sameField "UnibusMachine$Keyboard" "UnibusMachine$Line" "bits" "I") (by decide +kernel))) rfl dX0_peek_184 ?_
              have hP9 := hP.sub (ws' := []) [] rfl
              have hD9 := hD.sub (ws' := []) [] (by decide) rfl
              have hK9 := hK.sub (tys' := []) [] rfl
              exact W.iret (v := 0) hx hb hr (fun t ht hW => ⟨⟨0, (), rfl, (by first | (exact dv_pos (by omega)) | (exact dv_zero (by omega) (by omega)) | (exact dv_neg (by omega) (by omega))), by rw [ht]; exact hP9, va_K.moved hW.alike hK9, hD9⟩, hS.F ht⟩) hS.2.2 dX0_peek_187
            have e57424 : p0.toInt ≠ 57424 := fun h => e57424 (fz_eq.mpr (h.trans (by decide)))
            by_cases e57426 : p0 = 57426
            · subst e57426
              have kk57426 : (57426 : Int32).toInt = 57426 := by decide
              refine lv_lookup (off := 105) (tgt := 188) hx hb dX0_peek_83 (by decide) (by decide) (by decide) ?_
              refine lv_aload_n hx hb dX0_peek_188 rfl (lv_at hl 0 rfl) ?_
              refine va_get (D := (dC, dI)) (ci := 0) (v := .ref oK) (C := RX0) (T := TX0) (N := 6) hx hb hts (by decide +kernel) hown hK hP 0 rfl rfl 3 (by decide) (hts (.fieldLink RX0 30 "UnibusMachine$Bus" "keyboard" "LUnibusMachine$Keyboard;") (by decide +kernel)) (fun _ h9 => h9) rfl dX0_peek_189 ?_
              refine va_get (D := (dC, dI)) (ci := 2) (v := .int 0) (C := RX2) (T := TX2) (N := 3) hx hb hts (by decide +kernel) hown hK hP 5 rfl rfl 2 (by decide) (hts (.fieldLink RX0 64 "UnibusMachine$Keyboard" "character" "I") (by decide +kernel)) (fun _ h9 => h9) rfl dX0_peek_192 ?_
              have hP9 := hP.sub (ws' := []) [] rfl
              have hD9 := hD.sub (ws' := []) [] (by decide) rfl
              have hK9 := hK.sub (tys' := []) [] rfl
              exact W.iret (v := 0) hx hb hr (fun t ht hW => ⟨⟨0, (), rfl, (by first | (exact dv_pos (by omega)) | (exact dv_zero (by omega) (by omega)) | (exact dv_neg (by omega) (by omega))), by rw [ht]; exact hP9, va_K.moved hW.alike hK9, hD9⟩, hS.F ht⟩) hS.2.2 dX0_peek_195
            have e57426 : p0.toInt ≠ 57426 := fun h => e57426 (fz_eq.mpr (h.trans (by decide)))
            by_cases e57428 : p0 = 57428
            · subst e57428
              have kk57428 : (57428 : Int32).toInt = 57428 := by decide
              refine lv_lookup (off := 113) (tgt := 196) hx hb dX0_peek_83 (by decide) (by decide) (by decide) ?_
              refine lv_aload_n hx hb dX0_peek_196 rfl (lv_at hl 0 rfl) ?_
              refine va_get (D := (dC, dI)) (ci := 0) (v := .ref oL) (C := RX0) (T := TX0) (N := 6) hx hb hts (by decide +kernel) hown hK hP 0 rfl rfl 4 (by decide) (hts (.fieldLink RX0 37 "UnibusMachine$Bus" "printer" "LUnibusMachine$Printer;") (by decide +kernel)) (fun _ h9 => h9) rfl dX0_peek_197 ?_
              refine va_get (D := (dC, dI)) (ci := 4) (v := .int 128) (C := RX5) (T := TX5) (N := 7) hx hb hts (by decide +kernel) hown hK hP 6 rfl rfl 0 (by decide) (hts (.fieldLink RX0 67 "UnibusMachine$Printer" "bits" "I") (by decide +kernel)) (u_same (hts (.sameField "UnibusMachine$Printer" "UnibusMachine$Line" "bits" "I") (by decide +kernel))) rfl dX0_peek_200 ?_
              have hP9 := hP.sub (ws' := []) [] rfl
              have hD9 := hD.sub (ws' := []) [] (by decide) rfl
              have hK9 := hK.sub (tys' := []) [] rfl
              exact W.iret (v := 128) hx hb hr (fun t ht hW => ⟨⟨128, (), rfl, (by first | (exact dv_pos (by omega)) | (exact dv_zero (by omega) (by omega)) | (exact dv_neg (by omega) (by omega))), by rw [ht]; exact hP9, va_K.moved hW.alike hK9, hD9⟩, hS.F ht⟩) hS.2.2 dX0_peek_203
            have e57428 : p0.toInt ≠ 57428 := fun h => e57428 (fz_eq.mpr (h.trans (by decide)))
            by_cases e57430 : p0 = 57430
            · subst e57430
              have kk57430 : (57430 : Int32).toInt = 57430 := by decide
              refine lv_lookup (off := 121) (tgt := 204) hx hb dX0_peek_83 (by decide) (by decide) (by decide) ?_
              refine lv_iconst (v := 0) hx hb dX0_peek_204 (by decide) ?_
              have hP9 := hP.sub (ws' := []) [] rfl
              have hD9 := hD.sub (ws' := []) [] (by decide) rfl
              have hK9 := hK.sub (tys' := []) [] rfl
              exact W.iret (v := 0) hx hb hr (fun t ht hW => ⟨⟨0, (), rfl, (by first | (exact dv_pos (by omega)) | (exact dv_zero (by omega) (by omega)) | (exact dv_neg (by omega) (by omega))), by rw [ht]; exact hP9, va_K.moved hW.alike hK9, hD9⟩, hS.F ht⟩) hS.2.2 dX0_peek_205
            have e57430 : p0.toInt ≠ 57430 := fun h => e57430 (fz_eq.mpr (h.trans (by decide)))
            by_cases e57440 : p0 = 57440
            · subst e57440
              have kk57440 : (57440 : Int32).toInt = 57440 := by decide
              refine lv_lookup (off := 123) (tgt := 206) hx hb dX0_peek_83 (by decide) (by decide) (by decide) ?_
              refine lv_aload_n hx hb dX0_peek_206 rfl (lv_at hl 0 rfl) ?_
              refine va_get (D := (dC, dI)) (ci := 0) (v := .ref oD) (C := RX0) (T := TX0) (N := 6) hx hb hts (by decide +kernel) hown hK hP 0 rfl rfl 5 (by decide) (hts (.fieldLink RX0 44 "UnibusMachine$Bus" "drive" "LUnibusMachine$Drive;") (by decide +kernel)) (fun _ h9 => h9) rfl dX0_peek_207 ?_
              refine va_get (D := (dC, dI)) (ci := 1) (v := .int 128) (C := RX1) (T := TX1) (N := 10) hx hb hts (by decide +kernel) hown hK hP 7 rfl rfl 0 (by decide) (hts (.fieldLink RX0 68 "UnibusMachine$Drive" "bits" "I") (by decide +kernel)) (u_same (hts (.sameField "UnibusMachine$Drive" "UnibusMachine$Line" "bits" "I") (by decide +kernel))) rfl dX0_peek_210 ?_
              refine lv_aload_n hx hb dX0_peek_213 rfl (lv_at hl 0 rfl) ?_
              refine va_get (D := (dC, dI)) (ci := 0) (v := .ref oD) (C := RX0) (T := TX0) (N := 6) hx hb hts (by decide +kernel) hown hK hP 0 rfl rfl 5 (by decide) (hts (.fieldLink RX0 44 "UnibusMachine$Bus" "drive" "LUnibusMachine$Drive;") (by decide +kernel)) (fun _ h9 => h9) rfl dX0_peek_214 ?_
              refine va_get (D := (dC, dI)) (ci := 1) (v := .int 0) (C := RX1) (T := TX1) (N := 10) hx hb hts (by decide +kernel) hown hK hP 7 rfl rfl 3 (by decide) (hts (.fieldLink RX0 69 "UnibusMachine$Drive" "writing" "I") (by decide +kernel)) (fun _ h9 => h9) rfl dX0_peek_217 ?_
              refine lv_ior hx hb dX0_peek_220 ?_
              refine lv_topi (fun y20 ey20 => ?_)
              obtain rfl : y20 = 128 := by rw [ey20]; decide
              refine lv_aload_n hx hb dX0_peek_221 rfl (lv_at hl 0 rfl) ?_
              refine va_get (D := (dC, dI)) (ci := 0) (v := .ref oD) (C := RX0) (T := TX0) (N := 6) hx hb hts (by decide +kernel) hown hK hP 0 rfl rfl 5 (by decide) (hts (.fieldLink RX0 44 "UnibusMachine$Bus" "drive" "LUnibusMachine$Drive;") (by decide +kernel)) (fun _ h9 => h9) rfl dX0_peek_222 ?_
              refine va_get (D := (dC, dI)) (ci := 1) (v := .int 0) (C := RX1) (T := TX1) (N := 10) hx hb hts (by decide +kernel) hown hK hP 7 rfl rfl 4 (by decide) (hts (.fieldLink RX0 72 "UnibusMachine$Drive" "wrong" "I") (by decide +kernel)) (fun _ h9 => h9) rfl dX0_peek_225 ?_
              refine lv_ior hx hb dX0_peek_228 ?_
              refine lv_topi (fun y21 ey21 => ?_)
              obtain rfl : y21 = 128 := by rw [ey21]; decide
              have hP9 := hP.sub (ws' := []) [] rfl
              have hD9 := hD.sub (ws' := []) [] (by decide) rfl
              have hK9 := hK.sub (tys' := []) [] rfl
              exact W.iret (v := 128) hx hb hr (fun t ht hW => ⟨⟨128, (), rfl, (by first | (exact dv_pos (by omega)) | (exact dv_zero (by omega) (by omega)) | (exact dv_neg (by omega) (by omega))), by rw [ht]; exact hP9, va_K.moved hW.alike hK9, hD9⟩, hS.F ht⟩) hS.2.2 dX0_peek_229
            have e57440 : p0.toInt ≠ 57440 := fun h => e57440 (fz_eq.mpr (h.trans (by decide)))
            by_cases e57442 : p0 = 57442
            · subst e57442
              have kk57442 : (57442 : Int32).toInt = 57442 := by decide
              refine lv_lookup (off := 147) (tgt := 230) hx hb dX0_peek_83 (by decide) (by decide) (by decide) ?_
              refine lv_aload_n hx hb dX0_peek_230 rfl (lv_at hl 0 rfl) ?_
              refine va_get (D := (dC, dI)) (ci := 0) (v := .ref oD) (C := RX0) (T := TX0) (N := 6) hx hb hts (by decide +kernel) hown hK hP 0 rfl rfl 5 (by decide) (hts (.fieldLink RX0 44 "UnibusMachine$Bus" "drive" "LUnibusMachine$Drive;") (by decide +kernel)) (fun _ h9 => h9) rfl dX0_peek_231 ?_
              refine va_get (D := (dC, dI)) (ci := 1) (v := .int 0) (C := RX1) (T := TX1) (N := 10) hx hb hts (by decide +kernel) hown hK hP 7 rfl rfl 5 (by decide) (hts (.fieldLink RX0 75 "UnibusMachine$Drive" "count" "I") (by decide +kernel)) (fun _ h9 => h9) rfl dX0_peek_234 ?_
              have hP9 := hP.sub (ws' := []) [] rfl
              have hD9 := hD.sub (ws' := []) [] (by decide) rfl
              have hK9 := hK.sub (tys' := []) [] rfl
              exact W.iret (v := 0) hx hb hr (fun t ht hW => ⟨⟨0, (), rfl, (by first | (exact dv_pos (by omega)) | (exact dv_zero (by omega) (by omega)) | (exact dv_neg (by omega) (by omega))), by rw [ht]; exact hP9, va_K.moved hW.alike hK9, hD9⟩, hS.F ht⟩) hS.2.2 dX0_peek_237
            have e57442 : p0.toInt ≠ 57442 := fun h => e57442 (fz_eq.mpr (h.trans (by decide)))
            by_cases e57444 : p0 = 57444
            · subst e57444
              have kk57444 : (57444 : Int32).toInt = 57444 := by decide
              refine lv_lookup (off := 155) (tgt := 238) hx hb dX0_peek_83 (by decide) (by decide) (by decide) ?_
              refine lv_aload_n hx hb dX0_peek_238 rfl (lv_at hl 0 rfl) ?_
              refine va_get (D := (dC, dI)) (ci := 0) (v := .ref oD) (C := RX0) (T := TX0) (N := 6) hx hb hts (by decide +kernel) hown hK hP 0 rfl rfl 5 (by decide) (hts (.fieldLink RX0 44 "UnibusMachine$Bus" "drive" "LUnibusMachine$Drive;") (by decide +kernel)) (fun _ h9 => h9) rfl dX0_peek_239 ?_
              refine va_get (D := (dC, dI)) (ci := 1) (v := .int 0) (C := RX1) (T := TX1) (N := 10) hx hb hts (by decide +kernel) hown hK hP 7 rfl rfl 6 (by decide) (hts (.fieldLink RX0 78 "UnibusMachine$Drive" "address" "I") (by decide +kernel)) (fun _ h9 => h9) rfl dX0_peek_242 ?_
              have hP9 := hP.sub (ws' := []) [] rfl
              have hD9 := hD.sub (ws' := []) [] (by decide) rfl
              have hK9 := hK.sub (tys' := []) [] rfl
              exact W.iret (v := 0) hx hb hr (fun t ht hW => ⟨⟨0, (), rfl, (by first | (exact dv_pos (by omega)) | (exact dv_zero (by omega) (by omega)) | (exact dv_neg (by omega) (by omega))), by rw [ht]; exact hP9, va_K.moved hW.alike hK9, hD9⟩, hS.F ht⟩) hS.2.2 dX0_peek_245
            have e57444 : p0.toInt ≠ 57444 := fun h => e57444 (fz_eq.mpr (h.trans (by decide)))
            by_cases e57446 : p0 = 57446
            · subst e57446
              have kk57446 : (57446 : Int32).toInt = 57446 := by decide
              refine lv_lookup (off := 163) (tgt := 246) hx hb dX0_peek_83 (by decide) (by decide) (by decide) ?_
              refine lv_aload_n hx hb dX0_peek_246 rfl (lv_at hl 0 rfl) ?_
              refine va_get (D := (dC, dI)) (ci := 0) (v := .ref oD) (C := RX0) (T := TX0) (N := 6) hx hb hts (by decide +kernel) hown hK hP 0 rfl rfl 5 (by decide) (hts (.fieldLink RX0 44 "UnibusMachine$Bus" "drive" "LUnibusMachine$Drive;") (by decide +kernel)) (fun _ h9 => h9) rfl dX0_peek_247 ?_
              refine va_get (D := (dC, dI)) (ci := 1) (v := .int 0) (C := RX1) (T := TX1) (N := 10) hx hb hts (by decide +kernel) hown hK hP 7 rfl rfl 7 (by decide) (hts (.fieldLink RX0 81 "UnibusMachine$Drive" "sector" "I") (by decide +kernel)) (fun _ h9 => h9) rfl dX0_peek_250 ?_
              have hP9 := hP.sub (ws' := []) [] rfl
              have hD9 := hD.sub (ws' := []) [] (by decide) rfl
              have hK9 := hK.sub (tys' := []) [] rfl
              exact W.iret (v := 0) hx hb hr (fun t ht hW => ⟨⟨0, (), rfl, (by first | (exact dv_pos (by omega)) | (exact dv_zero (by omega) (by omega)) | (exact dv_neg (by omega) (by omega))), by rw [ht]; exact hP9, va_K.moved hW.alike hK9, hD9⟩, hS.F ht⟩) hS.2.2 dX0_peek_253
            have e57446 : p0.toInt ≠ 57446 := fun h => e57446 (fz_eq.mpr (h.trans (by decide)))
            by_cases e57470 : p0 = 57470
            · subst e57470
              have kk57470 : (57470 : Int32).toInt = 57470 := by decide
              refine lv_lookup (off := 171) (tgt := 254) hx hb dX0_peek_83 (by decide) (by decide) (by decide) ?_
              refine lv_aload_n hx hb dX0_peek_254 rfl (lv_at hl 0 rfl) ?_
              refine va_get (D := (dC, dI)) (ci := 0) (v := .ref oS) (C := RX0) (T := TX0) (N := 6) hx hb hts (by decide +kernel) hown hK hP 0 rfl rfl 2 (by decide) (hts (.fieldLink RX0 23 "UnibusMachine$Bus" "status" "LUnibusMachine$Status;") (by decide +kernel)) (fun _ h9 => h9) rfl dX0_peek_255 ?_
              refine va_get (D := (dC, dI)) (ci := 6) (v := .int 0) (C := RX7) (T := TX7) (N := 2) hx hb hts (by decide +kernel) hown hK hP 4 rfl rfl 0 (by decide) (hts (.fieldLink RX0 84 "UnibusMachine$Status" "now" "I") (by decide +kernel)) (fun _ h9 => h9) rfl dX0_peek_258 ?_
              have hP9 := hP.sub (ws' := []) [] rfl
              have hD9 := hD.sub (ws' := []) [] (by decide) rfl
              have hK9 := hK.sub (tys' := []) [] rfl
              exact W.iret (v := 0) hx hb hr (fun t ht hW => ⟨⟨0, (), rfl, (by first | (exact dv_pos (by omega)) | (exact dv_zero (by omega) (by omega)) | (exact dv_neg (by omega) (by omega))), by rw [ht]; exact hP9, va_K.moved hW.alike hK9, hD9⟩, hS.F ht⟩) hS.2.2 dX0_peek_261
            have e57470 : p0.toInt ≠ 57470 := fun h => e57470 (fz_eq.mpr (h.trans (by decide)))
            refine lv_lookup (off := 179) (tgt := 262) hx hb dX0_peek_83 (by decide) (by simp [Op.lookupswitch.offset, Ne.symm e57408, e57408, Ne.symm e57424, e57424, Ne.symm e57426, e57426, Ne.symm e57428, e57428, Ne.symm e57430, e57430, Ne.symm e57440, e57440, Ne.symm e57442, e57442, Ne.symm e57444, e57444, Ne.symm e57446, e57446, Ne.symm e57470, e57470]) (by decide) ?_
            refine lv_iconst (v := (-1)) hx hb dX0_peek_262 (by decide) ?_
            have hP9 := hP.sub (ws' := []) [] rfl
            have hD9 := hD.sub (ws' := []) [] (by decide) rfl
            have hK9 := hK.sub (tys' := []) [] rfl
            exact W.iret (v := (-1)) hx hb hr (fun t ht hW => ⟨⟨(-1), (), rfl, (by first | (exact dv_pos (by omega)) | (exact dv_zero (by omega) (by omega)) | (exact dv_neg (by omega) (by omega))), by rw [ht]; exact hP9, va_K.moved hW.alike hK9, hD9⟩, hS.F ht⟩) hS.2.2 dX0_peek_263
          · have c19 := fz_nlt.mp c19
            have kk57376 : (57376 : Int32).toInt = 57376 := by decide
            refine lv_iload_n hx hb dX0_peek_61 rfl (lv_at hl 1 rfl) ?_
            refine lv_ldc (v := 57408) hx hb hown (hts (.constant RX0 53 (57408)) (by decide +kernel)) dX0_peek_62 ?_
            refine lv_icmp_ge (tgt := 82) hx hb dX0_peek_64 (by decide) (fun c22 => ?_) (fun c22 => ?_)
            · have c22 := fz_le.mp c22
              have kk57408 : (57408 : Int32).toInt = 57408 := by decide
              refine lv_iload_n hx hb dX0_peek_82 rfl (lv_at hl 1 rfl) ?_
              by_cases e57408 : p0 = 57408
              · subst e57408
                have kk57408 : (57408 : Int32).toInt = 57408 := by decide
                refine lv_lookup (off := 89) (tgt := 172) hx hb dX0_peek_83 (by decide) (by decide) (by decide) ?_
                refine lv_aload_n hx hb dX0_peek_172 rfl (lv_at hl 0 rfl) ?_
                refine va_get (D := (dC, dI)) (ci := 0) (v := .ref oM) (C := RX0) (T := TX0) (N := 6) hx hb hts (by decide +kernel) hown hK hP 0 rfl rfl 1 (by decide) (hts (.fieldLink RX0 16 "UnibusMachine$Bus" "map" "LUnibusMachine$PageMap;") (by decide +kernel)) (fun _ h9 => h9) rfl dX0_peek_173 ?_
                refine va_get (D := (dC, dI)) (ci := 3) (v := .int 0) (C := RX4) (T := TX4) (N := 3) hx hb hts (by decide +kernel) hown hK hP 1 rfl rfl 2 (by decide) (hts (.fieldLink RX0 57 "UnibusMachine$PageMap" "control" "I") (by decide +kernel)) (fun _ h9 => h9) rfl dX0_peek_176 ?_
                have hP9 := hP.sub (ws' := []) [] rfl
                have hD9 := hD.sub (ws' := []) [] (by decide) rfl
                have hK9 := hK.sub (tys' := []) [] rfl
                exact W.iret (v := 0) hx hb hr (fun t ht hW => ⟨⟨0, (), rfl, (by first | (exact dv_pos (by omega)) | (exact dv_zero (by omega) (by omega)) | (exact dv_neg (by omega) (by omega))), by rw [ht]; exact hP9, va_K.moved hW.alike hK9, hD9⟩, hS.F ht⟩) hS.2.2 dX0_peek_179
              have e57408 : p0.toInt ≠ 57408 := fun h => e57408 (fz_eq.mpr (h.trans (by decide)))
              by_cases e57424 : p0 = 57424
              · subst e57424
                have kk57424 : (57424 : Int32).toInt = 57424 := by decide
                refine lv_lookup (off := 97) (tgt := 180) hx hb dX0_peek_83 (by decide) (by decide) (by decide) ?_
                refine lv_aload_n hx hb dX0_peek_180 rfl (lv_at hl 0 rfl) ?_
                refine va_get (D := (dC, dI)) (ci := 0) (v := .ref oK) (C := RX0) (T := TX0) (N := 6) hx hb hts (by decide +kernel) hown hK hP 0 rfl rfl 3 (by decide) (hts (.fieldLink RX0 30 "UnibusMachine$Bus" "keyboard" "LUnibusMachine$Keyboard;") (by decide +kernel)) (fun _ h9 => h9) rfl dX0_peek_181 ?_
                refine va_get (D := (dC, dI)) (ci := 2) (v := .int 0) (C := RX2) (T := TX2) (N := 3) hx hb hts (by decide +kernel) hown hK hP 5 rfl rfl 0 (by decide) (hts (.fieldLink RX0 61 "UnibusMachine$Keyboard" "bits" "I") (by decide +kernel)) (u_same (hts (.sameField "UnibusMachine$Keyboard" "UnibusMachine$Line" "bits" "I") (by decide +kernel))) rfl dX0_peek_184 ?_
                have hP9 := hP.sub (ws' := []) [] rfl
                have hD9 := hD.sub (ws' := []) [] (by decide) rfl
                have hK9 := hK.sub (tys' := []) [] rfl
                exact W.iret (v := 0) hx hb hr (fun t ht hW => ⟨⟨0, (), rfl, (by first | (exact dv_pos (by omega)) | (exact dv_zero (by omega) (by omega)) | (exact dv_neg (by omega) (by omega))), by rw [ht]; exact hP9, va_K.moved hW.alike hK9, hD9⟩, hS.F ht⟩) hS.2.2 dX0_peek_187
              have e57424 : p0.toInt ≠ 57424 := fun h => e57424 (fz_eq.mpr (h.trans (by decide)))
              by_cases e57426 : p0 = 57426
              · subst e57426
                have kk57426 : (57426 : Int32).toInt = 57426 := by decide
                refine lv_lookup (off := 105) (tgt := 188) hx hb dX0_peek_83 (by decide) (by decide) (by decide) ?_
                refine lv_aload_n hx hb dX0_peek_188 rfl (lv_at hl 0 rfl) ?_
                refine va_get (D := (dC, dI)) (ci := 0) (v := .ref oK) (C := RX0) (T := TX0) (N := 6) hx hb hts (by decide +kernel) hown hK hP 0 rfl rfl 3 (by decide) (hts (.fieldLink RX0 30 "UnibusMachine$Bus" "keyboard" "LUnibusMachine$Keyboard;") (by decide +kernel)) (fun _ h9 => h9) rfl dX0_peek_189 ?_
                refine va_get (D := (dC, dI)) (ci := 2) (v := .int 0) (C := RX2) (T := TX2) (N := 3) hx hb hts (by decide +kernel) hown hK hP 5 rfl rfl 2 (by decide) (hts (.fieldLink RX0 64 "UnibusMachine$Keyboard" "character" "I") (by decide +kernel)) (fun _ h9 => h9) rfl dX0_peek_192 ?_
                have hP9 := hP.sub (ws' := []) [] rfl
                have hD9 := hD.sub (ws' := []) [] (by decide) rfl
                have hK9 := hK.sub (tys' := []) [] rfl
                exact W.iret (v := 0) hx hb hr (fun t ht hW => ⟨⟨0, (), rfl, (by first | (exact dv_pos (by omega)) | (exact dv_zero (by omega) (by omega)) | (exact dv_neg (by omega) (by omega))), by rw [ht]; exact hP9, va_K.moved hW.alike hK9, hD9⟩, hS.F ht⟩) hS.2.2 dX0_peek_195
              have e57426 : p0.toInt ≠ 57426 := fun h => e57426 (fz_eq.mpr (h.trans (by decide)))
              by_cases e57428 : p0 = 57428
              · subst e57428
                have kk57428 : (57428 : Int32).toInt = 57428 := by decide
                refine lv_lookup (off := 113) (tgt := 196) hx hb dX0_peek_83 (by decide) (by decide) (by decide) ?_
                refine lv_aload_n hx hb dX0_peek_196 rfl (lv_at hl 0 rfl) ?_
                refine va_get (D := (dC, dI)) (ci := 0) (v := .ref oL) (C := RX0) (T := TX0) (N := 6) hx hb hts (by decide +kernel) hown hK hP 0 rfl rfl 4 (by decide) (hts (.fieldLink RX0 37 "UnibusMachine$Bus" "printer" "LUnibusMachine$Printer;") (by decide +kernel)) (fun _ h9 => h9) rfl dX0_peek_197 ?_
                refine va_get (D := (dC, dI)) (ci := 4) (v := .int 128) (C := RX5) (T := TX5) (N := 7) hx hb hts (by decide +kernel) hown hK hP 6 rfl rfl 0 (by decide) (hts (.fieldLink RX0 67 "UnibusMachine$Printer" "bits" "I") (by decide +kernel)) (u_same (hts (.sameField "UnibusMachine$Printer" "UnibusMachine$Line" "bits" "I") (by decide +kernel))) rfl dX0_peek_200 ?_
                have hP9 := hP.sub (ws' := []) [] rfl
                have hD9 := hD.sub (ws' := []) [] (by decide) rfl
                have hK9 := hK.sub (tys' := []) [] rfl
                exact W.iret (v := 128) hx hb hr (fun t ht hW => ⟨⟨128, (), rfl, (by first | (exact dv_pos (by omega)) | (exact dv_zero (by omega) (by omega)) | (exact dv_neg (by omega) (by omega))), by rw [ht]; exact hP9, va_K.moved hW.alike hK9, hD9⟩, hS.F ht⟩) hS.2.2 dX0_peek_203
              have e57428 : p0.toInt ≠ 57428 := fun h => e57428 (fz_eq.mpr (h.trans (by decide)))
              by_cases e57430 : p0 = 57430
              · subst e57430
                have kk57430 : (57430 : Int32).toInt = 57430 := by decide
                refine lv_lookup (off := 121) (tgt := 204) hx hb dX0_peek_83 (by decide) (by decide) (by decide) ?_
                refine lv_iconst (v := 0) hx hb dX0_peek_204 (by decide) ?_
                have hP9 := hP.sub (ws' := []) [] rfl
                have hD9 := hD.sub (ws' := []) [] (by decide) rfl
                have hK9 := hK.sub (tys' := []) [] rfl
                exact W.iret (v := 0) hx hb hr (fun t ht hW => ⟨⟨0, (), rfl, (by first | (exact dv_pos (by omega)) | (exact dv_zero (by omega) (by omega)) | (exact dv_neg (by omega) (by omega))), by rw [ht]; exact hP9, va_K.moved hW.alike hK9, hD9⟩, hS.F ht⟩) hS.2.2 dX0_peek_205
              have e57430 : p0.toInt ≠ 57430 := fun h => e57430 (fz_eq.mpr (h.trans (by decide)))
              by_cases e57440 : p0 = 57440
              · subst e57440
                have kk57440 : (57440 : Int32).toInt = 57440 := by decide
                refine lv_lookup (off := 123) (tgt := 206) hx hb dX0_peek_83 (by decide) (by decide) (by decide) ?_
                refine lv_aload_n hx hb dX0_peek_206 rfl (lv_at hl 0 rfl) ?_
                refine va_get (D := (dC, dI)) (ci := 0) (v := .ref oD) (C := RX0) (T := TX0) (N := 6) hx hb hts (by decide +kernel) hown hK hP 0 rfl rfl 5 (by decide) (hts (.fieldLink RX0 44 "UnibusMachine$Bus" "drive" "LUnibusMachine$Drive;") (by decide +kernel)) (fun _ h9 => h9) rfl dX0_peek_207 ?_
                refine va_get (D := (dC, dI)) (ci := 1) (v := .int 128) (C := RX1) (T := TX1) (N := 10) hx hb hts (by decide +kernel) hown hK hP 7 rfl rfl 0 (by decide) (hts (.fieldLink RX0 68 "UnibusMachine$Drive" "bits" "I") (by decide +kernel)) (u_same (hts (.sameField "UnibusMachine$Drive" "UnibusMachine$Line" "bits" "I") (by decide +kernel))) rfl dX0_peek_210 ?_
                refine lv_aload_n hx hb dX0_peek_213 rfl (lv_at hl 0 rfl) ?_
                refine va_get (D := (dC, dI)) (ci := 0) (v := .ref oD) (C := RX0) (T := TX0) (N := 6) hx hb hts (by decide +kernel) hown hK hP 0 rfl rfl 5 (by decide) (hts (.fieldLink RX0 44 "UnibusMachine$Bus" "drive" "LUnibusMachine$Drive;") (by decide +kernel)) (fun _ h9 => h9) rfl dX0_peek_214 ?_
                refine va_get (D := (dC, dI)) (ci := 1) (v := .int 0) (C := RX1) (T := TX1) (N := 10) hx hb hts (by decide +kernel) hown hK hP 7 rfl rfl 3 (by decide) (hts (.fieldLink RX0 69 "UnibusMachine$Drive" "writing" "I") (by decide +kernel)) (fun _ h9 => h9) rfl dX0_peek_217 ?_
                refine lv_ior hx hb dX0_peek_220 ?_
                refine lv_topi (fun y23 ey23 => ?_)
                obtain rfl : y23 = 128 := by rw [ey23]; decide
                refine lv_aload_n hx hb dX0_peek_221 rfl (lv_at hl 0 rfl) ?_
                refine va_get (D := (dC, dI)) (ci := 0) (v := .ref oD) (C := RX0) (T := TX0) (N := 6) hx hb hts (by decide +kernel) hown hK hP 0 rfl rfl 5 (by decide) (hts (.fieldLink RX0 44 "UnibusMachine$Bus" "drive" "LUnibusMachine$Drive;") (by decide +kernel)) (fun _ h9 => h9) rfl dX0_peek_222 ?_
                refine va_get (D := (dC, dI)) (ci := 1) (v := .int 0) (C := RX1) (T := TX1) (N := 10) hx hb hts (by decide +kernel) hown hK hP 7 rfl rfl 4 (by decide) (hts (.fieldLink RX0 72 "UnibusMachine$Drive" "wrong" "I") (by decide +kernel)) (fun _ h9 => h9) rfl dX0_peek_225 ?_
                refine lv_ior hx hb dX0_peek_228 ?_
                refine lv_topi (fun y24 ey24 => ?_)
                obtain rfl : y24 = 128 := by rw [ey24]; decide
                have hP9 := hP.sub (ws' := []) [] rfl
                have hD9 := hD.sub (ws' := []) [] (by decide) rfl
                have hK9 := hK.sub (tys' := []) [] rfl
                exact W.iret (v := 128) hx hb hr (fun t ht hW => ⟨⟨128, (), rfl, (by first | (exact dv_pos (by omega)) | (exact dv_zero (by omega) (by omega)) | (exact dv_neg (by omega) (by omega))), by rw [ht]; exact hP9, va_K.moved hW.alike hK9, hD9⟩, hS.F ht⟩) hS.2.2 dX0_peek_229
              have e57440 : p0.toInt ≠ 57440 := fun h => e57440 (fz_eq.mpr (h.trans (by decide)))
              by_cases e57442 : p0 = 57442
              · subst e57442
                have kk57442 : (57442 : Int32).toInt = 57442 := by decide
                refine lv_lookup (off := 147) (tgt := 230) hx hb dX0_peek_83 (by decide) (by decide) (by decide) ?_
                refine lv_aload_n hx hb dX0_peek_230 rfl (lv_at hl 0 rfl) ?_
                refine va_get (D := (dC, dI)) (ci := 0) (v := .ref oD) (C := RX0) (T := TX0) (N := 6) hx hb hts (by decide +kernel) hown hK hP 0 rfl rfl 5 (by decide) (hts (.fieldLink RX0 44 "UnibusMachine$Bus" "drive" "LUnibusMachine$Drive;") (by decide +kernel)) (fun _ h9 => h9) rfl dX0_peek_231 ?_
                refine va_get (D := (dC, dI)) (ci := 1) (v := .int 0) (C := RX1) (T := TX1) (N := 10) hx hb hts (by decide +kernel) hown hK hP 7 rfl rfl 5 (by decide) (hts (.fieldLink RX0 75 "UnibusMachine$Drive" "count" "I") (by decide +kernel)) (fun _ h9 => h9) rfl dX0_peek_234 ?_
                have hP9 := hP.sub (ws' := []) [] rfl
                have hD9 := hD.sub (ws' := []) [] (by decide) rfl
                have hK9 := hK.sub (tys' := []) [] rfl
                exact W.iret (v := 0) hx hb hr (fun t ht hW => ⟨⟨0, (), rfl, (by first | (exact dv_pos (by omega)) | (exact dv_zero (by omega) (by omega)) | (exact dv_neg (by omega) (by omega))), by rw [ht]; exact hP9, va_K.moved hW.alike hK9, hD9⟩, hS.F ht⟩) hS.2.2 dX0_peek_237
              have e57442 : p0.toInt ≠ 57442 := fun h => e57442 (fz_eq.mpr (h.trans (by decide)))
              by_cases e57444 : p0 = 57444
              · subst e57444
                have kk57444 : (57444 : Int32).toInt = 57444 := by decide
                refine lv_lookup (off := 155) (tgt := 238) hx hb dX0_peek_83 (by decide) (by decide) (by decide) ?_
                refine lv_aload_n hx hb dX0_peek_238 rfl (lv_at hl 0 rfl) ?_
                refine va_get (D := (dC, dI)) (ci := 0) (v := .ref oD) (C := RX0) (T := TX0) (N := 6) hx hb hts (by decide +kernel) hown hK hP 0 rfl rfl 5 (by decide) (hts (.fieldLink RX0 44 "UnibusMachine$Bus" "drive" "LUnibusMachine$Drive;") (by decide +kernel)) (fun _ h9 => h9) rfl dX0_peek_239 ?_
                refine va_get (D := (dC, dI)) (ci := 1) (v := .int 0) (C := RX1) (T := TX1) (N := 10) hx hb hts (by decide +kernel) hown hK hP 7 rfl rfl 6 (by decide) (hts (.fieldLink RX0 78 "UnibusMachine$Drive" "address" "I") (by decide +kernel)) (fun _ h9 => h9) rfl dX0_peek_242 ?_
                have hP9 := hP.sub (ws' := []) [] rfl
                have hD9 := hD.sub (ws' := []) [] (by decide) rfl
                have hK9 := hK.sub (tys' := []) [] rfl
                exact W.iret (v := 0) hx hb hr (fun t ht hW => ⟨⟨0, (), rfl, (by first | (exact dv_pos (by omega)) | (exact dv_zero (by omega) (by omega)) | (exact dv_neg (by omega) (by omega))), by rw [ht]; exact hP9, va_K.moved hW.alike hK9, hD9⟩, hS.F ht⟩) hS.2.2 dX0_peek_245
              have e57444 : p0.toInt ≠ 57444 := fun h => e57444 (fz_eq.mpr (h.trans (by decide)))
              by_cases e57446 : p0 = 57446
              · subst e57446
                have kk57446 : (57446 : Int32).toInt = 57446 := by decide
                refine lv_lookup (off := 163) (tgt := 246) hx hb dX0_peek_83 (by decide) (by decide) (by decide) ?_
                refine lv_aload_n hx hb dX0_peek_246 rfl (lv_at hl 0 rfl) ?_
                refine va_get (D := (dC, dI)) (ci := 0) (v := .ref oD) (C := RX0) (T := TX0) (N := 6) hx hb hts (by decide +kernel) hown hK hP 0 rfl rfl 5 (by decide) (hts (.fieldLink RX0 44 "UnibusMachine$Bus" "drive" "LUnibusMachine$Drive;") (by decide +kernel)) (fun _ h9 => h9) rfl dX0_peek_247 ?_
                refine va_get (D := (dC, dI)) (ci := 1) (v := .int 0) (C := RX1) (T := TX1) (N := 10) hx hb hts (by decide +kernel) hown hK hP 7 rfl rfl 7 (by decide) (hts (.fieldLink RX0 81 "UnibusMachine$Drive" "sector" "I") (by decide +kernel)) (fun _ h9 => h9) rfl dX0_peek_250 ?_
                have hP9 := hP.sub (ws' := []) [] rfl
                have hD9 := hD.sub (ws' := []) [] (by decide) rfl
                have hK9 := hK.sub (tys' := []) [] rfl
                exact W.iret (v := 0) hx hb hr (fun t ht hW => ⟨⟨0, (), rfl, (by first | (exact dv_pos (by omega)) | (exact dv_zero (by omega) (by omega)) | (exact dv_neg (by omega) (by omega))), by rw [ht]; exact hP9, va_K.moved hW.alike hK9, hD9⟩, hS.F ht⟩) hS.2.2 dX0_peek_253
              have e57446 : p0.toInt ≠ 57446 := fun h => e57446 (fz_eq.mpr (h.trans (by decide)))
              by_cases e57470 : p0 = 57470
              · subst e57470
                have kk57470 : (57470 : Int32).toInt = 57470 := by decide
                refine lv_lookup (off := 171) (tgt := 254) hx hb dX0_peek_83 (by decide) (by decide) (by decide) ?_
                refine lv_aload_n hx hb dX0_peek_254 rfl (lv_at hl 0 rfl) ?_
                refine va_get (D := (dC, dI)) (ci := 0) (v := .ref oS) (C := RX0) (T := TX0) (N := 6) hx hb hts (by decide +kernel) hown hK hP 0 rfl rfl 2 (by decide) (hts (.fieldLink RX0 23 "UnibusMachine$Bus" "status" "LUnibusMachine$Status;") (by decide +kernel)) (fun _ h9 => h9) rfl dX0_peek_255 ?_
                refine va_get (D := (dC, dI)) (ci := 6) (v := .int 0) (C := RX7) (T := TX7) (N := 2) hx hb hts (by decide +kernel) hown hK hP 4 rfl rfl 0 (by decide) (hts (.fieldLink RX0 84 "UnibusMachine$Status" "now" "I") (by decide +kernel)) (fun _ h9 => h9) rfl dX0_peek_258 ?_
                have hP9 := hP.sub (ws' := []) [] rfl
                have hD9 := hD.sub (ws' := []) [] (by decide) rfl
                have hK9 := hK.sub (tys' := []) [] rfl
                exact W.iret (v := 0) hx hb hr (fun t ht hW => ⟨⟨0, (), rfl, (by first | (exact dv_pos (by omega)) | (exact dv_zero (by omega) (by omega)) | (exact dv_neg (by omega) (by omega))), by rw [ht]; exact hP9, va_K.moved hW.alike hK9, hD9⟩, hS.F ht⟩) hS.2.2 dX0_peek_261
              have e57470 : p0.toInt ≠ 57470 := fun h => e57470 (fz_eq.mpr (h.trans (by decide)))
              refine lv_lookup (off := 179) (tgt := 262) hx hb dX0_peek_83 (by decide) (by simp [Op.lookupswitch.offset, Ne.symm e57408, e57408, Ne.symm e57424, e57424, Ne.symm e57426, e57426, Ne.symm e57428, e57428, Ne.symm e57430, e57430, Ne.symm e57440, e57440, Ne.symm e57442, e57442, Ne.symm e57444, e57444, Ne.symm e57446, e57446, Ne.symm e57470, e57470]) (by decide) ?_
              refine lv_iconst (v := (-1)) hx hb dX0_peek_262 (by decide) ?_
              have hP9 := hP.sub (ws' := []) [] rfl
              have hD9 := hD.sub (ws' := []) [] (by decide) rfl
              have hK9 := hK.sub (tys' := []) [] rfl
              exact W.iret (v := (-1)) hx hb hr (fun t ht hW => ⟨⟨(-1), (), rfl, (by first | (exact dv_pos (by omega)) | (exact dv_zero (by omega) (by omega)) | (exact dv_neg (by omega) (by omega))), by rw [ht]; exact hP9, va_K.moved hW.alike hK9, hD9⟩, hS.F ht⟩) hS.2.2 dX0_peek_263
            · have c22 := fz_nle.mp c22
              have kk57408 : (57408 : Int32).toInt = 57408 := by decide
              refine lv_aload_n hx hb dX0_peek_67 rfl (lv_at hl 0 rfl) ?_
              refine va_get (D := (dC, dI)) (ci := 0) (v := .ref oM) (C := RX0) (T := TX0) (N := 6) hx hb hts (by decide +kernel) hown hK hP 0 rfl rfl 1 (by decide) (hts (.fieldLink RX0 16 "UnibusMachine$Bus" "map" "LUnibusMachine$PageMap;") (by decide +kernel)) (fun _ h9 => h9) rfl dX0_peek_68 ?_
              refine va_get (D := (dC, dI)) (ci := 3) (v := .ref ab) (C := RX4) (T := TX4) (N := 3) hx hb hts (by decide +kernel) hown hK hP 1 rfl rfl 1 (by decide) (hts (.fieldLink RX0 54 "UnibusMachine$PageMap" "bases" "[I") (by decide +kernel)) (fun _ h9 => h9) rfl dX0_peek_71 ?_
              refine lv_iload_n hx hb dX0_peek_74 rfl (lv_at hl 1 rfl) ?_
              refine lv_ldc (v := 57376) hx hb hown (hts (.constant RX0 49 (57376)) (by decide +kernel)) dX0_peek_75 ?_
              refine lv_isub hx hb dX0_peek_77 ?_
              have f2 := fz_sub p0 57376 (by omega) (by omega)
              refine lv_iconst (v := 1) hx hb dX0_peek_78 (by decide) ?_
              refine lv_ishr hx hb dX0_peek_79 ?_
              have f3 := fz_shr1 (p0 - 57376) (by omega)
              refine va_iald (D := (dC, dI)) hx hb hK hP 3 1 rfl rfl (vp_in_iff.mpr (by constructor <;> omega)) dX0_peek_80 ?_
              have hP9 := hP.sub (ws' := []) [] rfl
              have hD9 := hD.sub (ws' := []) [] (by decide) rfl
              have hK9 := hK.sub (tys' := []) [] rfl
              exact W.iret (v := 0) hx hb hr (fun t ht hW => ⟨⟨0, (), rfl, (by first | (exact dv_pos (by omega)) | (exact dv_zero (by omega) (by omega)) | (exact dv_neg (by omega) (by omega))), by rw [ht]; exact hP9, va_K.moved hW.alike hK9, hD9⟩, hS.F ht⟩) hS.2.2 dX0_peek_81
        · have c18 := fz_nlt.mp c18
          have kk57344 : (57344 : Int32).toInt = 57344 := by decide
          refine lv_iload_n hx hb dX0_peek_34 rfl (lv_at hl 1 rfl) ?_
          refine lv_ldc (v := 57376) hx hb hown (hts (.constant RX0 49 (57376)) (by decide +kernel)) dX0_peek_35 ?_
          refine lv_icmp_ge (tgt := 55) hx hb dX0_peek_37 (by decide) (fun c25 => ?_) (fun c25 => ?_)
          · have c25 := fz_le.mp c25
            have kk57376 : (57376 : Int32).toInt = 57376 := by decide
            refine lv_iload_n hx hb dX0_peek_55 rfl (lv_at hl 1 rfl) ?_
            refine lv_ldc (v := 57376) hx hb hown (hts (.constant RX0 49 (57376)) (by decide +kernel)) dX0_peek_56 ?_
            refine lv_icmp_lt (tgt := 82) hx hb dX0_peek_58 (by decide) (fun c26 => ?_) (fun c26 => ?_)
            · have c26 := fz_lt.mp c26
              have kk57376 : (57376 : Int32).toInt = 57376 := by decide
              refine lv_iload_n hx hb dX0_peek_82 rfl (lv_at hl 1 rfl) ?_
              by_cases e57408 : p0 = 57408
              · subst e57408
                have kk57408 : (57408 : Int32).toInt = 57408 := by decide
                refine lv_lookup (off := 89) (tgt := 172) hx hb dX0_peek_83 (by decide) (by decide) (by decide) ?_
                refine lv_aload_n hx hb dX0_peek_172 rfl (lv_at hl 0 rfl) ?_
                refine va_get (D := (dC, dI)) (ci := 0) (v := .ref oM) (C := RX0) (T := TX0) (N := 6) hx hb hts (by decide +kernel) hown hK hP 0 rfl rfl 1 (by decide) (hts (.fieldLink RX0 16 "UnibusMachine$Bus" "map" "LUnibusMachine$PageMap;") (by decide +kernel)) (fun _ h9 => h9) rfl dX0_peek_173 ?_
                refine va_get (D := (dC, dI)) (ci := 3) (v := .int 0) (C := RX4) (T := TX4) (N := 3) hx hb hts (by decide +kernel) hown hK hP 1 rfl rfl 2 (by decide) (hts (.fieldLink RX0 57 "UnibusMachine$PageMap" "control" "I") (by decide +kernel)) (fun _ h9 => h9) rfl dX0_peek_176 ?_
                have hP9 := hP.sub (ws' := []) [] rfl
                have hD9 := hD.sub (ws' := []) [] (by decide) rfl
                have hK9 := hK.sub (tys' := []) [] rfl
                exact W.iret (v := 0) hx hb hr (fun t ht hW => ⟨⟨0, (), rfl, (by first | (exact dv_pos (by omega)) | (exact dv_zero (by omega) (by omega)) | (exact dv_neg (by omega) (by omega))), by rw [ht]; exact hP9, va_K.moved hW.alike hK9, hD9⟩, hS.F ht⟩) hS.2.2 dX0_peek_179
              have e57408 : p0.toInt ≠ 57408 := fun h => e57408 (fz_eq.mpr (h.trans (by decide)))
              by_cases e57424 : p0 = 57424
              · subst e57424
                have kk57424 : (57424 : Int32).toInt = 57424 := by decide
                refine lv_lookup (off := 97) (tgt := 180) hx hb dX0_peek_83 (by decide) (by decide) (by decide) ?_
                refine lv_aload_n hx hb dX0_peek_180 rfl (lv_at hl 0 rfl) ?_
                refine va_get (D := (dC, dI)) (ci := 0) (v := .ref oK) (C := RX0) (T := TX0) (N := 6) hx hb hts (by decide +kernel) hown hK hP 0 rfl rfl 3 (by decide) (hts (.fieldLink RX0 30 "UnibusMachine$Bus" "keyboard" "LUnibusMachine$Keyboard;") (by decide +kernel)) (fun _ h9 => h9) rfl dX0_peek_181 ?_
                refine va_get (D := (dC, dI)) (ci := 2) (v := .int 0) (C := RX2) (T := TX2) (N := 3) hx hb hts (by decide +kernel) hown hK hP 5 rfl rfl 0 (by decide) (hts (.fieldLink RX0 61 "UnibusMachine$Keyboard" "bits" "I") (by decide +kernel)) (u_same (hts (.sameField "UnibusMachine$Keyboard" "UnibusMachine$Line" "bits" "I") (by decide +kernel))) rfl dX0_peek_184 ?_
                have hP9 := hP.sub (ws' := []) [] rfl
                have hD9 := hD.sub (ws' := []) [] (by decide) rfl
                have hK9 := hK.sub (tys' := []) [] rfl
                exact W.iret (v := 0) hx hb hr (fun t ht hW => ⟨⟨0, (), rfl, (by first | (exact dv_pos (by omega)) | (exact dv_zero (by omega) (by omega)) | (exact dv_neg (by omega) (by omega))), by rw [ht]; exact hP9, va_K.moved hW.alike hK9, hD9⟩, hS.F ht⟩) hS.2.2 dX0_peek_187
              have e57424 : p0.toInt ≠ 57424 := fun h => e57424 (fz_eq.mpr (h.trans (by decide)))
              by_cases e57426 : p0 = 57426
              · subst e57426
                have kk57426 : (57426 : Int32).toInt = 57426 := by decide
                refine lv_lookup (off := 105) (tgt := 188) hx hb dX0_peek_83 (by decide) (by decide) (by decide) ?_
                refine lv_aload_n hx hb dX0_peek_188 rfl (lv_at hl 0 rfl) ?_
                refine va_get (D := (dC, dI)) (ci := 0) (v := .ref oK) (C := RX0) (T := TX0) (N := 6) hx hb hts (by decide +kernel) hown hK hP 0 rfl rfl 3 (by decide) (hts (.fieldLink RX0 30 "UnibusMachine$Bus" "keyboard" "LUnibusMachine$Keyboard;") (by decide +kernel)) (fun _ h9 => h9) rfl dX0_peek_189 ?_
                refine va_get (D := (dC, dI)) (ci := 2) (v := .int 0) (C := RX2) (T := TX2) (N := 3) hx hb hts (by decide +kernel) hown hK hP 5 rfl rfl 2 (by decide) (hts (.fieldLink RX0 64 "UnibusMachine$Keyboard" "character" "I") (by decide +kernel)) (fun _ h9 => h9) rfl dX0_peek_192 ?_
                have hP9 := hP.sub (ws' := []) [] rfl
                have hD9 := hD.sub (ws' := []) [] (by decide) rfl
                have hK9 := hK.sub (tys' := []) [] rfl
                exact W.iret (v := 0) hx hb hr (fun t ht hW => ⟨⟨0, (), rfl, (by first | (exact dv_pos (by omega)) | (exact dv_zero (by omega) (by omega)) | (exact dv_neg (by omega) (by omega))), by rw [ht]; exact hP9, va_K.moved hW.alike hK9, hD9⟩, hS.F ht⟩) hS.2.2 dX0_peek_195
              have e57426 : p0.toInt ≠ 57426 := fun h => e57426 (fz_eq.mpr (h.trans (by decide)))
              by_cases e57428 : p0 = 57428
              · subst e57428
                have kk57428 : (57428 : Int32).toInt = 57428 := by decide
                refine lv_lookup (off := 113) (tgt := 196) hx hb dX0_peek_83 (by decide) (by decide) (by decide) ?_
                refine lv_aload_n hx hb dX0_peek_196 rfl (lv_at hl 0 rfl) ?_
                refine va_get (D := (dC, dI)) (ci := 0) (v := .ref oL) (C := RX0) (T := TX0) (N := 6) hx hb hts (by decide +kernel) hown hK hP 0 rfl rfl 4 (by decide) (hts (.fieldLink RX0 37 "UnibusMachine$Bus" "printer" "LUnibusMachine$Printer;") (by decide +kernel)) (fun _ h9 => h9) rfl dX0_peek_197 ?_
                refine va_get (D := (dC, dI)) (ci := 4) (v := .int 128) (C := RX5) (T := TX5) (N := 7) hx hb hts (by decide +kernel) hown hK hP 6 rfl rfl 0 (by decide) (hts (.fieldLink RX0 67 "UnibusMachine$Printer" "bits" "I") (by decide +kernel)) (u_same (hts (.sameField "UnibusMachine$Printer" "UnibusMachine$Line" "bits" "I") (by decide +kernel))) rfl dX0_peek_200 ?_
                have hP9 := hP.sub (ws' := []) [] rfl
                have hD9 := hD.sub (ws' := []) [] (by decide) rfl
                have hK9 := hK.sub (tys' := []) [] rfl
                exact W.iret (v := 128) hx hb hr (fun t ht hW => ⟨⟨128, (), rfl, (by first | (exact dv_pos (by omega)) | (exact dv_zero (by omega) (by omega)) | (exact dv_neg (by omega) (by omega))), by rw [ht]; exact hP9, va_K.moved hW.alike hK9, hD9⟩, hS.F ht⟩) hS.2.2 dX0_peek_203
              have e57428 : p0.toInt ≠ 57428 := fun h => e57428 (fz_eq.mpr (h.trans (by decide)))
              by_cases e57430 : p0 = 57430
              · subst e57430
                have kk57430 : (57430 : Int32).toInt = 57430 := by decide
                refine lv_lookup (off := 121) (tgt := 204) hx hb dX0_peek_83 (by decide) (by decide) (by decide) ?_
                refine lv_iconst (v := 0) hx hb dX0_peek_204 (by decide) ?_
                have hP9 := hP.sub (ws' := []) [] rfl
                have hD9 := hD.sub (ws' := []) [] (by decide) rfl
                have hK9 := hK.sub (tys' := []) [] rfl
                exact W.iret (v := 0) hx hb hr (fun t ht hW => ⟨⟨0, (), rfl, (by first | (exact dv_pos (by omega)) | (exact dv_zero (by omega) (by omega)) | (exact dv_neg (by omega) (by omega))), by rw [ht]; exact hP9, va_K.moved hW.alike hK9, hD9⟩, hS.F ht⟩) hS.2.2 dX0_peek_205
              have e57430 : p0.toInt ≠ 57430 := fun h => e57430 (fz_eq.mpr (h.trans (by decide)))
              by_cases e57440 : p0 = 57440
              · subst e57440
                have kk57440 : (57440 : Int32).toInt = 57440 := by decide
                refine lv_lookup (off := 123) (tgt := 206) hx hb dX0_peek_83 (by decide) (by decide) (by decide) ?_
                refine lv_aload_n hx hb dX0_peek_206 rfl (lv_at hl 0 rfl) ?_
                refine va_get (D := (dC, dI)) (ci := 0) (v := .ref oD) (C := RX0) (T := TX0) (N := 6) hx hb hts (by decide +kernel) hown hK hP 0 rfl rfl 5 (by decide) (hts (.fieldLink RX0 44 "UnibusMachine$Bus" "drive" "LUnibusMachine$Drive;") (by decide +kernel)) (fun _ h9 => h9) rfl dX0_peek_207 ?_
                refine va_get (D := (dC, dI)) (ci := 1) (v := .int 128) (C := RX1) (T := TX1) (N := 10) hx hb hts (by decide +kernel) hown hK hP 7 rfl rfl 0 (by decide) (hts (.fieldLink RX0 68 "UnibusMachine$Drive" "bits" "I") (by decide +kernel)) (u_same (hts (.sameField "UnibusMachine$Drive" "UnibusMachine$Line" "bits" "I") (by decide +kernel))) rfl dX0_peek_210 ?_
                refine lv_aload_n hx hb dX0_peek_213 rfl (lv_at hl 0 rfl) ?_
                refine va_get (D := (dC, dI)) (ci := 0) (v := .ref oD) (C := RX0) (T := TX0) (N := 6) hx hb hts (by decide +kernel) hown hK hP 0 rfl rfl 5 (by decide) (hts (.fieldLink RX0 44 "UnibusMachine$Bus" "drive" "LUnibusMachine$Drive;") (by decide +kernel)) (fun _ h9 => h9) rfl dX0_peek_214 ?_
                refine va_get (D := (dC, dI)) (ci := 1) (v := .int 0) (C := RX1) (T := TX1) (N := 10) hx hb hts (by decide +kernel) hown hK hP 7 rfl rfl 3 (by decide) (hts (.fieldLink RX0 69 "UnibusMachine$Drive" "writing" "I") (by decide +kernel)) (fun _ h9 => h9) rfl dX0_peek_217 ?_
                refine lv_ior hx hb dX0_peek_220 ?_
                refine lv_topi (fun y27 ey27 => ?_)
                obtain rfl : y27 = 128 := by rw [ey27]; decide
                refine lv_aload_n hx hb dX0_peek_221 rfl (lv_at hl 0 rfl) ?_
                refine va_get (D := (dC, dI)) (ci := 0) (v := .ref oD) (C := RX0) (T := TX0) (N := 6) hx hb hts (by decide +kernel) hown hK hP 0 rfl rfl 5 (by decide) (hts (.fieldLink RX0 44 "UnibusMachine$Bus" "drive" "LUnibusMachine$Drive;") (by decide +kernel)) (fun _ h9 => h9) rfl dX0_peek_222 ?_
                refine va_get (D := (dC, dI)) (ci := 1) (v := .int 0) (C := RX1) (T := TX1) (N := 10) hx hb hts (by decide +kernel) hown hK hP 7 rfl rfl 4 (by decide) (hts (.fieldLink RX0 72 "UnibusMachine$Drive" "wrong" "I") (by decide +kernel)) (fun _ h9 => h9) rfl dX0_peek_225 ?_
                refine lv_ior hx hb dX0_peek_228 ?_
                refine lv_topi (fun y28 ey28 => ?_)
                obtain rfl : y28 = 128 := by rw [ey28]; decide
                have hP9 := hP.sub (ws' := []) [] rfl
                have hD9 := hD.sub (ws' := []) [] (by decide) rfl
                have hK9 := hK.sub (tys' := []) [] rfl
                exact W.iret (v := 128) hx hb hr (fun t ht hW => ⟨⟨128, (), rfl, (by first | (exact dv_pos (by omega)) | (exact dv_zero (by omega) (by omega)) | (exact dv_neg (by omega) (by omega))), by rw [ht]; exact hP9, va_K.moved hW.alike hK9, hD9⟩, hS.F ht⟩) hS.2.2 dX0_peek_229
              have e57440 : p0.toInt ≠ 57440 := fun h => e57440 (fz_eq.mpr (h.trans (by decide)))
              by_cases e57442 : p0 = 57442
              · subst e57442
                have kk57442 : (57442 : Int32).toInt = 57442 := by decide
                refine lv_lookup (off := 147) (tgt := 230) hx hb dX0_peek_83 (by decide) (by decide) (by decide) ?_
                refine lv_aload_n hx hb dX0_peek_230 rfl (lv_at hl 0 rfl) ?_
                refine va_get (D := (dC, dI)) (ci := 0) (v := .ref oD) (C := RX0) (T := TX0) (N := 6) hx hb hts (by decide +kernel) hown hK hP 0 rfl rfl 5 (by decide) (hts (.fieldLink RX0 44 "UnibusMachine$Bus" "drive" "LUnibusMachine$Drive;") (by decide +kernel)) (fun _ h9 => h9) rfl dX0_peek_231 ?_
                refine va_get (D := (dC, dI)) (ci := 1) (v := .int 0) (C := RX1) (T := TX1) (N := 10) hx hb hts (by decide +kernel) hown hK hP 7 rfl rfl 5 (by decide) (hts (.fieldLink RX0 75 "UnibusMachine$Drive" "count" "I") (by decide +kernel)) (fun _ h9 => h9) rfl dX0_peek_234 ?_
                have hP9 := hP.sub (ws' := []) [] rfl
                have hD9 := hD.sub (ws' := []) [] (by decide) rfl
                have hK9 := hK.sub (tys' := []) [] rfl
                exact W.iret (v := 0) hx hb hr (fun t ht hW => ⟨⟨0, (), rfl, (by first | (exact dv_pos (by omega)) | (exact dv_zero (by omega) (by omega)) | (exact dv_neg (by omega) (by omega))), by rw [ht]; exact hP9, va_K.moved hW.alike hK9, hD9⟩, hS.F ht⟩) hS.2.2 dX0_peek_237
              have e57442 : p0.toInt ≠ 57442 := fun h => e57442 (fz_eq.mpr (h.trans (by decide)))
              by_cases e57444 : p0 = 57444
              · subst e57444
                have kk57444 : (57444 : Int32).toInt = 57444 := by decide
                refine lv_lookup (off := 155) (tgt := 238) hx hb dX0_peek_83 (by decide) (by decide) (by decide) ?_
                refine lv_aload_n hx hb dX0_peek_238 rfl (lv_at hl 0 rfl) ?_
                refine va_get (D := (dC, dI)) (ci := 0) (v := .ref oD) (C := RX0) (T := TX0) (N := 6) hx hb hts (by decide +kernel) hown hK hP 0 rfl rfl 5 (by decide) (hts (.fieldLink RX0 44 "UnibusMachine$Bus" "drive" "LUnibusMachine$Drive;") (by decide +kernel)) (fun _ h9 => h9) rfl dX0_peek_239 ?_
                refine va_get (D := (dC, dI)) (ci := 1) (v := .int 0) (C := RX1) (T := TX1) (N := 10) hx hb hts (by decide +kernel) hown hK hP 7 rfl rfl 6 (by decide) (hts (.fieldLink RX0 78 "UnibusMachine$Drive" "address" "I") (by decide +kernel)) (fun _ h9 => h9) rfl dX0_peek_242 ?_
                have hP9 := hP.sub (ws' := []) [] rfl
                have hD9 := hD.sub (ws' := []) [] (by decide) rfl
                have hK9 := hK.sub (tys' := []) [] rfl
                exact W.iret (v := 0) hx hb hr (fun t ht hW => ⟨⟨0, (), rfl, (by first | (exact dv_pos (by omega)) | (exact dv_zero (by omega) (by omega)) | (exact dv_neg (by omega) (by omega))), by rw [ht]; exact hP9, va_K.moved hW.alike hK9, hD9⟩, hS.F ht⟩) hS.2.2 dX0_peek_245
              have e57444 : p0.toInt ≠ 57444 := fun h => e57444 (fz_eq.mpr (h.trans (by decide)))
              by_cases e57446 : p0 = 57446
              · subst e57446
                have kk57446 : (57446 : Int32).toInt = 57446 := by decide
                refine lv_lookup (off := 163) (tgt := 246) hx hb dX0_peek_83 (by decide) (by decide) (by decide) ?_
                refine lv_aload_n hx hb dX0_peek_246 rfl (lv_at hl 0 rfl) ?_
                refine va_get (D := (dC, dI)) (ci := 0) (v := .ref oD) (C := RX0) (T := TX0) (N := 6) hx hb hts (by decide +kernel) hown hK hP 0 rfl rfl 5 (by decide) (hts (.fieldLink RX0 44 "UnibusMachine$Bus" "drive" "LUnibusMachine$Drive;") (by decide +kernel)) (fun _ h9 => h9) rfl dX0_peek_247 ?_
                refine va_get (D := (dC, dI)) (ci := 1) (v := .int 0) (C := RX1) (T := TX1) (N := 10) hx hb hts (by decide +kernel) hown hK hP 7 rfl rfl 7 (by decide) (hts (.fieldLink RX0 81 "UnibusMachine$Drive" "sector" "I") (by decide +kernel)) (fun _ h9 => h9) rfl dX0_peek_250 ?_
                have hP9 := hP.sub (ws' := []) [] rfl
                have hD9 := hD.sub (ws' := []) [] (by decide) rfl
                have hK9 := hK.sub (tys' := []) [] rfl
                exact W.iret (v := 0) hx hb hr (fun t ht hW => ⟨⟨0, (), rfl, (by first | (exact dv_pos (by omega)) | (exact dv_zero (by omega) (by omega)) | (exact dv_neg (by omega) (by omega))), by rw [ht]; exact hP9, va_K.moved hW.alike hK9, hD9⟩, hS.F ht⟩) hS.2.2 dX0_peek_253
              have e57446 : p0.toInt ≠ 57446 := fun h => e57446 (fz_eq.mpr (h.trans (by decide)))
              by_cases e57470 : p0 = 57470
              · subst e57470
                have kk57470 : (57470 : Int32).toInt = 57470 := by decide
                refine lv_lookup (off := 171) (tgt := 254) hx hb dX0_peek_83 (by decide) (by decide) (by decide) ?_
                refine lv_aload_n hx hb dX0_peek_254 rfl (lv_at hl 0 rfl) ?_
                refine va_get (D := (dC, dI)) (ci := 0) (v := .ref oS) (C := RX0) (T := TX0) (N := 6) hx hb hts (by decide +kernel) hown hK hP 0 rfl rfl 2 (by decide) (hts (.fieldLink RX0 23 "UnibusMachine$Bus" "status" "LUnibusMachine$Status;") (by decide +kernel)) (fun _ h9 => h9) rfl dX0_peek_255 ?_
                refine va_get (D := (dC, dI)) (ci := 6) (v := .int 0) (C := RX7) (T := TX7) (N := 2) hx hb hts (by decide +kernel) hown hK hP 4 rfl rfl 0 (by decide) (hts (.fieldLink RX0 84 "UnibusMachine$Status" "now" "I") (by decide +kernel)) (fun _ h9 => h9) rfl dX0_peek_258 ?_
                have hP9 := hP.sub (ws' := []) [] rfl
                have hD9 := hD.sub (ws' := []) [] (by decide) rfl
                have hK9 := hK.sub (tys' := []) [] rfl
                exact W.iret (v := 0) hx hb hr (fun t ht hW => ⟨⟨0, (), rfl, (by first | (exact dv_pos (by omega)) | (exact dv_zero (by omega) (by omega)) | (exact dv_neg (by omega) (by omega))), by rw [ht]; exact hP9, va_K.moved hW.alike hK9, hD9⟩, hS.F ht⟩) hS.2.2 dX0_peek_261
              have e57470 : p0.toInt ≠ 57470 := fun h => e57470 (fz_eq.mpr (h.trans (by decide)))
              refine lv_lookup (off := 179) (tgt := 262) hx hb dX0_peek_83 (by decide) (by simp [Op.lookupswitch.offset, Ne.symm e57408, e57408, Ne.symm e57424, e57424, Ne.symm e57426, e57426, Ne.symm e57428, e57428, Ne.symm e57430, e57430, Ne.symm e57440, e57440, Ne.symm e57442, e57442, Ne.symm e57444, e57444, Ne.symm e57446, e57446, Ne.symm e57470, e57470]) (by decide) ?_
              refine lv_iconst (v := (-1)) hx hb dX0_peek_262 (by decide) ?_
              have hP9 := hP.sub (ws' := []) [] rfl
              have hD9 := hD.sub (ws' := []) [] (by decide) rfl
              have hK9 := hK.sub (tys' := []) [] rfl
              exact W.iret (v := (-1)) hx hb hr (fun t ht hW => ⟨⟨(-1), (), rfl, (by first | (exact dv_pos (by omega)) | (exact dv_zero (by omega) (by omega)) | (exact dv_neg (by omega) (by omega))), by rw [ht]; exact hP9, va_K.moved hW.alike hK9, hD9⟩, hS.F ht⟩) hS.2.2 dX0_peek_263
            · have c26 := fz_nlt.mp c26
              have kk57376 : (57376 : Int32).toInt = 57376 := by decide
              refine lv_iload_n hx hb dX0_peek_61 rfl (lv_at hl 1 rfl) ?_
              refine lv_ldc (v := 57408) hx hb hown (hts (.constant RX0 53 (57408)) (by decide +kernel)) dX0_peek_62 ?_
              refine lv_icmp_ge (tgt := 82) hx hb dX0_peek_64 (by decide) (fun c29 => ?_) (fun c29 => ?_)
              · have c29 := fz_le.mp c29
                have kk57408 : (57408 : Int32).toInt = 57408 := by decide
                refine lv_iload_n hx hb dX0_peek_82 rfl (lv_at hl 1 rfl) ?_
                by_cases e57408 : p0 = 57408
                · subst e57408
                  have kk57408 : (57408 : Int32).toInt = 57408 := by decide
                  refine lv_lookup (off := 89) (tgt := 172) hx hb dX0_peek_83 (by decide) (by decide) (by decide) ?_
                  refine lv_aload_n hx hb dX0_peek_172 rfl (lv_at hl 0 rfl) ?_
                  refine va_get (D := (dC, dI)) (ci := 0) (v := .ref oM) (C := RX0) (T := TX0) (N := 6) hx hb hts (by decide +kernel) hown hK hP 0 rfl rfl 1 (by decide) (hts (.fieldLink RX0 16 "UnibusMachine$Bus" "map" "LUnibusMachine$PageMap;") (by decide +kernel)) (fun _ h9 => h9) rfl dX0_peek_173 ?_
                  refine va_get (D := (dC, dI)) (ci := 3) (v := .int 0) (C := RX4) (T := TX4) (N := 3) hx hb hts (by decide +kernel) hown hK hP 1 rfl rfl 2 (by decide) (hts (.fieldLink RX0 57 "UnibusMachine$PageMap" "control" "I") (by decide +kernel)) (fun _ h9 => h9) rfl dX0_peek_176 ?_
                  have hP9 := hP.sub (ws' := []) [] rfl
                  have hD9 := hD.sub (ws' := []) [] (by decide) rfl
                  have hK9 := hK.sub (tys' := []) [] rfl
                  exact W.iret (v := 0) hx hb hr (fun t ht hW => ⟨⟨0, (), rfl, (by first | (exact dv_pos (by omega)) | (exact dv_zero (by omega) (by omega)) | (exact dv_neg (by omega) (by omega))), by rw [ht]; exact hP9, va_K.moved hW.alike hK9, hD9⟩, hS.F ht⟩) hS.2.2 dX0_peek_179
                have e57408 : p0.toInt ≠ 57408 := fun h => e57408 (fz_eq.mpr (h.trans (by decide)))
                by_cases e57424 : p0 = 57424
                · subst e57424
                  have kk57424 : (57424 : Int32).toInt = 57424 := by decide
                  refine lv_lookup (off := 97) (tgt := 180) hx hb dX0_peek_83 (by decide) (by decide) (by decide) ?_
                  refine lv_aload_n hx hb dX0_peek_180 rfl (lv_at hl 0 rfl) ?_
                  refine va_get (D := (dC, dI)) (ci := 0) (v := .ref oK) (C := RX0) (T := TX0) (N := 6) hx hb hts (by decide +kernel) hown hK hP 0 rfl rfl 3 (by decide) (hts (.fieldLink RX0 30 "UnibusMachine$Bus" "keyboard" "LUnibusMachine$Keyboard;") (by decide +kernel)) (fun _ h9 => h9) rfl dX0_peek_181 ?_
                  refine va_get (D := (dC, dI)) (ci := 2) (v := .int 0) (C := RX2) (T := TX2) (N := 3) hx hb hts (by decide +kernel) hown hK hP 5 rfl rfl 0 (by decide) (hts (.fieldLink RX0 61 "UnibusMachine$Keyboard" "bits" "I") (by decide +kernel)) (u_same (hts (.sameField "UnibusMachine$Keyboard" "UnibusMachine$Line" "bits" "I") (by decide +kernel))) rfl dX0_peek_184 ?_
                  have hP9 := hP.sub (ws' := []) [] rfl
                  have hD9 := hD.sub (ws' := []) [] (by decide) rfl
                  have hK9 := hK.sub (tys' := []) [] rfl
                  exact W.iret (v := 0) hx hb hr (fun t ht hW => ⟨⟨0, (), rfl, (by first | (exact dv_pos (by omega)) | (exact dv_zero (by omega) (by omega)) | (exact dv_neg (by omega) (by omega))), by rw [ht]; exact hP9, va_K.moved hW.alike hK9, hD9⟩, hS.F ht⟩) hS.2.2 dX0_peek_187
                have e57424 : p0.toInt ≠ 57424 := fun h => e57424 (fz_eq.mpr (h.trans (by decide)))
                by_cases e57426 : p0 = 57426
                · subst e57426
                  have kk57426 : (57426 : Int32).toInt = 57426 := by decide
                  refine lv_lookup (off := 105) (tgt := 188) hx hb dX0_peek_83 (by decide) (by decide) (by decide) ?_
                  refine lv_aload_n hx hb dX0_peek_188 rfl (lv_at hl 0 rfl) ?_
                  refine va_get (D := (dC, dI)) (ci := 0) (v := .ref oK) (C := RX0) (T := TX0) (N := 6) hx hb hts (by decide +kernel) hown hK hP 0 rfl rfl 3 (by decide) (hts (.fieldLink RX0 30 "UnibusMachine$Bus" "keyboard" "LUnibusMachine$Keyboard;") (by decide +kernel)) (fun _ h9 => h9) rfl dX0_peek_189 ?_
                  refine va_get (D := (dC, dI)) (ci := 2) (v := .int 0) (C := RX2) (T := TX2) (N := 3) hx hb hts (by decide +kernel) hown hK hP 5 rfl rfl 2 (by decide) (hts (.fieldLink RX0 64 "UnibusMachine$Keyboard" "character" "I") (by decide +kernel)) (fun _ h9 => h9) rfl dX0_peek_192 ?_
                  have hP9 := hP.sub (ws' := []) [] rfl
                  have hD9 := hD.sub (ws' := []) [] (by decide) rfl
                  have hK9 := hK.sub (tys' := []) [] rfl
                  exact W.iret (v := 0) hx hb hr (fun t ht hW => ⟨⟨0, (), rfl, (by first | (exact dv_pos (by omega)) | (exact dv_zero (by omega) (by omega)) | (exact dv_neg (by omega) (by omega))), by rw [ht]; exact hP9, va_K.moved hW.alike hK9, hD9⟩, hS.F ht⟩) hS.2.2 dX0_peek_195
                have e57426 : p0.toInt ≠ 57426 := fun h => e57426 (fz_eq.mpr (h.trans (by decide)))
                by_cases e57428 : p0 = 57428
                · subst e57428
                  have kk57428 : (57428 : Int32).toInt = 57428 := by decide
                  refine lv_lookup (off := 113) (tgt := 196) hx hb dX0_peek_83 (by decide) (by decide) (by decide) ?_
                  refine lv_aload_n hx hb dX0_peek_196 rfl (lv_at hl 0 rfl) ?_
                  refine va_get (D := (dC, dI)) (ci := 0) (v := .ref oL) (C := RX0) (T := TX0) (N := 6) hx hb hts (by decide +kernel) hown hK hP 0 rfl rfl 4 (by decide) (hts (.fieldLink RX0 37 "UnibusMachine$Bus" "printer" "LUnibusMachine$Printer;") (by decide +kernel)) (fun _ h9 => h9) rfl dX0_peek_197 ?_
                  refine va_get (D := (dC, dI)) (ci := 4) (v := .int 128) (C := RX5) (T := TX5) (N := 7) hx hb hts (by decide +kernel) hown hK hP 6 rfl rfl 0 (by decide) (hts (.fieldLink RX0 67 "UnibusMachine$Printer" "bits" "I") (by decide +kernel)) (u_same (hts (.sameField "UnibusMachine$Printer" "UnibusMachine$Line" "bits" "I") (by decide +kernel))) rfl dX0_peek_200 ?_
                  have hP9 := hP.sub (ws' := []) [] rfl
                  have hD9 := hD.sub (ws' := []) [] (by decide) rfl
                  have hK9 := hK.sub (tys' := []) [] rfl
                  exact W.iret (v := 128) hx hb hr (fun t ht hW => ⟨⟨128, (), rfl, (by first | (exact dv_pos (by omega)) | (exact dv_zero (by omega) (by omega)) | (exact dv_neg (by omega) (by omega))), by rw [ht]; exact hP9, va_K.moved hW.alike hK9, hD9⟩, hS.F ht⟩) hS.2.2 dX0_peek_203
                have e57428 : p0.toInt ≠ 57428 := fun h => e57428 (fz_eq.mpr (h.trans (by decide)))
                by_cases e57430 : p0 = 57430
                · subst e57430
                  have kk57430 : (57430 : Int32).toInt = 57430 := by decide
                  refine lv_lookup (off := 121) (tgt := 204) hx hb dX0_peek_83 (by decide) (by decide) (by decide) ?_
                  refine lv_iconst (v := 0) hx hb dX0_peek_204 (by decide) ?_
                  have hP9 := hP.sub (ws' := []) [] rfl
                  have hD9 := hD.sub (ws' := []) [] (by decide) rfl
                  have hK9 := hK.sub (tys' := []) [] rfl
                  exact W.iret (v := 0) hx hb hr (fun t ht hW => ⟨⟨0, (), rfl, (by first | (exact dv_pos (by omega)) | (exact dv_zero (by omega) (by omega)) | (exact dv_neg (by omega) (by omega))), by rw [ht]; exact hP9, va_K.moved hW.alike hK9, hD9⟩, hS.F ht⟩) hS.2.2 dX0_peek_205
                have e57430 : p0.toInt ≠ 57430 := fun h => e57430 (fz_eq.mpr (h.trans (by decide)))
                by_cases e57440 : p0 = 57440
                · subst e57440
                  have kk57440 : (57440 : Int32).toInt = 57440 := by decide
                  refine lv_lookup (off := 123) (tgt := 206) hx hb dX0_peek_83 (by decide) (by decide) (by decide) ?_
                  refine lv_aload_n hx hb dX0_peek_206 rfl (lv_at hl 0 rfl) ?_
                  refine va_get (D := (dC, dI)) (ci := 0) (v := .ref oD) (C := RX0) (T := TX0) (N := 6) hx hb hts (by decide +kernel) hown hK hP 0 rfl rfl 5 (by decide) (hts (.fieldLink RX0 44 "UnibusMachine$Bus" "drive" "LUnibusMachine$Drive;") (by decide +kernel)) (fun _ h9 => h9) rfl dX0_peek_207 ?_
                  refine va_get (D := (dC, dI)) (ci := 1) (v := .int 128) (C := RX1) (T := TX1) (N := 10) hx hb hts (by decide +kernel) hown hK hP 7 rfl rfl 0 (by decide) (hts (.fieldLink RX0 68 "UnibusMachine$Drive" "bits" "I") (by decide +kernel)) (u_same (hts (.sameField "UnibusMachine$Drive" "UnibusMachine$Line" "bits" "I") (by decide +kernel))) rfl dX0_peek_210 ?_
                  refine lv_aload_n hx hb dX0_peek_213 rfl (lv_at hl 0 rfl) ?_
                  refine va_get (D := (dC, dI)) (ci := 0) (v := .ref oD) (C := RX0) (T := TX0) (N := 6) hx hb hts (by decide +kernel) hown hK hP 0 rfl rfl 5 (by decide) (hts (.fieldLink RX0 44 "UnibusMachine$Bus" "drive" "LUnibusMachine$Drive;") (by decide +kernel)) (fun _ h9 => h9) rfl dX0_peek_214 ?_
                  refine va_get (D := (dC, dI)) (ci := 1) (v := .int 0) (C := RX1) (T := TX1) (N := 10) hx hb hts (by decide +kernel) hown hK hP 7 rfl rfl 3 (by decide) (hts (.fieldLink RX0 69 "UnibusMachine$Drive" "writing" "I") (by decide +kernel)) (fun _ h9 => h9) rfl dX0_peek_217 ?_
                  refine lv_ior hx hb dX0_peek_220 ?_
                  refine lv_topi (fun y30 ey30 => ?_)
                  obtain rfl : y30 = 128 := by rw [ey30]; decide
                  refine lv_aload_n hx hb dX0_peek_221 rfl (lv_at hl 0 rfl) ?_
                  refine va_get (D := (dC, dI)) (ci := 0) (v := .ref oD) (C := RX0) (T := TX0) (N := 6) hx hb hts (by decide +kernel) hown hK hP 0 rfl rfl 5 (by decide) (hts (.fieldLink RX0 44 "UnibusMachine$Bus" "drive" "LUnibusMachine$Drive;") (by decide +kernel)) (fun _ h9 => h9) rfl dX0_peek_222 ?_
                  refine va_get (D := (dC, dI)) (ci := 1) (v := .int 0) (C := RX1) (T := TX1) (N := 10) hx hb hts (by decide +kernel) hown hK hP 7 rfl rfl 4 (by decide) (hts (.fieldLink RX0 72 "UnibusMachine$Drive" "wrong" "I") (by decide +kernel)) (fun _ h9 => h9) rfl dX0_peek_225 ?_
                  refine lv_ior hx hb dX0_peek_228 ?_
                  refine lv_topi (fun y31 ey31 => ?_)
                  obtain rfl : y31 = 128 := by rw [ey31]; decide
                  have hP9 := hP.sub (ws' := []) [] rfl
                  have hD9 := hD.sub (ws' := []) [] (by decide) rfl
                  have hK9 := hK.sub (tys' := []) [] rfl
                  exact W.iret (v := 128) hx hb hr (fun t ht hW => ⟨⟨128, (), rfl, (by first | (exact dv_pos (by omega)) | (exact dv_zero (by omega) (by omega)) | (exact dv_neg (by omega) (by omega))), by rw [ht]; exact hP9, va_K.moved hW.alike hK9, hD9⟩, hS.F ht⟩) hS.2.2 dX0_peek_229
                have e57440 : p0.toInt ≠ 57440 := fun h => e57440 (fz_eq.mpr (h.trans (by decide)))
                by_cases e57442 : p0 = 57442
                · subst e57442
                  have kk57442 : (57442 : Int32).toInt = 57442 := by decide
                  refine lv_lookup (off := 147) (tgt := 230) hx hb dX0_peek_83 (by decide) (by decide) (by decide) ?_
                  refine lv_aload_n hx hb dX0_peek_230 rfl (lv_at hl 0 rfl) ?_
                  refine va_get (D := (dC, dI)) (ci := 0) (v := .ref oD) (C := RX0) (T := TX0) (N := 6) hx hb hts (by decide +kernel) hown hK hP 0 rfl rfl 5 (by decide) (hts (.fieldLink RX0 44 "UnibusMachine$Bus" "drive" "LUnibusMachine$Drive;") (by decide +kernel)) (fun _ h9 => h9) rfl dX0_peek_231 ?_
                  refine va_get (D := (dC, dI)) (ci := 1) (v := .int 0) (C := RX1) (T := TX1) (N := 10) hx hb hts (by decide +kernel) hown hK hP 7 rfl rfl 5 (by decide) (hts (.fieldLink RX0 75 "UnibusMachine$Drive" "count" "I") (by decide +kernel)) (fun _ h9 => h9) rfl dX0_peek_234 ?_
                  have hP9 := hP.sub (ws' := []) [] rfl
                  have hD9 := hD.sub (ws' := []) [] (by decide) rfl
                  have hK9 := hK.sub (tys' := []) [] rfl
                  exact W.iret (v := 0) hx hb hr (fun t ht hW => ⟨⟨0, (), rfl, (by first | (exact dv_pos (by omega)) | (exact dv_zero (by omega) (by omega)) | (exact dv_neg (by omega) (by omega))), by rw [ht]; exact hP9, va_K.moved hW.alike hK9, hD9⟩, hS.F ht⟩) hS.2.2 dX0_peek_237
                have e57442 : p0.toInt ≠ 57442 := fun h => e57442 (fz_eq.mpr (h.trans (by decide)))
                by_cases e57444 : p0 = 57444
                · subst e57444
                  have kk57444 : (57444 : Int32).toInt = 57444 := by decide
                  refine lv_lookup (off := 155) (tgt := 238) hx hb dX0_peek_83 (by decide) (by decide) (by decide) ?_
                  refine lv_aload_n hx hb dX0_peek_238 rfl (lv_at hl 0 rfl) ?_
                  refine va_get (D := (dC, dI)) (ci := 0) (v := .ref oD) (C := RX0) (T := TX0) (N := 6) hx hb hts (by decide +kernel) hown hK hP 0 rfl rfl 5 (by decide) (hts (.fieldLink RX0 44 "UnibusMachine$Bus" "drive" "LUnibusMachine$Drive;") (by decide +kernel)) (fun _ h9 => h9) rfl dX0_peek_239 ?_
                  refine va_get (D := (dC, dI)) (ci := 1) (v := .int 0) (C := RX1) (T := TX1) (N := 10) hx hb hts (by decide +kernel) hown hK hP 7 rfl rfl 6 (by decide) (hts (.fieldLink RX0 78 "UnibusMachine$Drive" "address" "I") (by decide +kernel)) (fun _ h9 => h9) rfl dX0_peek_242 ?_
                  have hP9 := hP.sub (ws' := []) [] rfl
                  have hD9 := hD.sub (ws' := []) [] (by decide) rfl
                  have hK9 := hK.sub (tys' := []) [] rfl
                  exact W.iret (v := 0) hx hb hr (fun t ht hW => ⟨⟨0, (), rfl, (by first | (exact dv_pos (by omega)) | (exact dv_zero (by omega) (by omega)) | (exact dv_neg (by omega) (by omega))), by rw [ht]; exact hP9, va_K.moved hW.alike hK9, hD9⟩, hS.F ht⟩) hS.2.2 dX0_peek_245
                have e57444 : p0.toInt ≠ 57444 := fun h => e57444 (fz_eq.mpr (h.trans (by decide)))
                by_cases e57446 : p0 = 57446
                · subst e57446
                  have kk57446 : (57446 : Int32).toInt = 57446 := by decide
                  refine lv_lookup (off := 163) (tgt := 246) hx hb dX0_peek_83 (by decide) (by decide) (by decide) ?_
                  refine lv_aload_n hx hb dX0_peek_246 rfl (lv_at hl 0 rfl) ?_
                  refine va_get (D := (dC, dI)) (ci := 0) (v := .ref oD) (C := RX0) (T := TX0) (N := 6) hx hb hts (by decide +kernel) hown hK hP 0 rfl rfl 5 (by decide) (hts (.fieldLink RX0 44 "UnibusMachine$Bus" "drive" "LUnibusMachine$Drive;") (by decide +kernel)) (fun _ h9 => h9) rfl dX0_peek_247 ?_
                  refine va_get (D := (dC, dI)) (ci := 1) (v := .int 0) (C := RX1) (T := TX1) (N := 10) hx hb hts (by decide +kernel) hown hK hP 7 rfl rfl 7 (by decide) (hts (.fieldLink RX0 81 "UnibusMachine$Drive" "sector" "I") (by decide +kernel)) (fun _ h9 => h9) rfl dX0_peek_250 ?_
                  have hP9 := hP.sub (ws' := []) [] rfl
                  have hD9 := hD.sub (ws' := []) [] (by decide) rfl
                  have hK9 := hK.sub (tys' := []) [] rfl
                  exact W.iret (v := 0) hx hb hr (fun t ht hW => ⟨⟨0, (), rfl, (by first | (exact dv_pos (by omega)) | (exact dv_zero (by omega) (by omega)) | (exact dv_neg (by omega) (by omega))), by rw [ht]; exact hP9, va_K.moved hW.alike hK9, hD9⟩, hS.F ht⟩) hS.2.2 dX0_peek_253
                have e57446 : p0.toInt ≠ 57446 := fun h => e57446 (fz_eq.mpr (h.trans (by decide)))
                by_cases e57470 : p0 = 57470
                · subst e57470
                  have kk57470 : (57470 : Int32).toInt = 57470 := by decide
                  refine lv_lookup (off := 171) (tgt := 254) hx hb dX0_peek_83 (by decide) (by decide) (by decide) ?_
                  refine lv_aload_n hx hb dX0_peek_254 rfl (lv_at hl 0 rfl) ?_
                  refine va_get (D := (dC, dI)) (ci := 0) (v := .ref oS) (C := RX0) (T := TX0) (N := 6) hx hb hts (by decide +kernel) hown hK hP 0 rfl rfl 2 (by decide) (hts (.fieldLink RX0 23 "UnibusMachine$Bus" "status" "LUnibusMachine$Status;") (by decide +kernel)) (fun _ h9 => h9) rfl dX0_peek_255 ?_
                  refine va_get (D := (dC, dI)) (ci := 6) (v := .int 0) (C := RX7) (T := TX7) (N := 2) hx hb hts (by decide +kernel) hown hK hP 4 rfl rfl 0 (by decide) (hts (.fieldLink RX0 84 "UnibusMachine$Status" "now" "I") (by decide +kernel)) (fun _ h9 => h9) rfl dX0_peek_258 ?_
                  have hP9 := hP.sub (ws' := []) [] rfl
                  have hD9 := hD.sub (ws' := []) [] (by decide) rfl
                  have hK9 := hK.sub (tys' := []) [] rfl
                  exact W.iret (v := 0) hx hb hr (fun t ht hW => ⟨⟨0, (), rfl, (by first | (exact dv_pos (by omega)) | (exact dv_zero (by omega) (by omega)) | (exact dv_neg (by omega) (by omega))), by rw [ht]; exact hP9, va_K.moved hW.alike hK9, hD9⟩, hS.F ht⟩) hS.2.2 dX0_peek_261
                have e57470 : p0.toInt ≠ 57470 := fun h => e57470 (fz_eq.mpr (h.trans (by decide)))
                refine lv_lookup (off := 179) (tgt := 262) hx hb dX0_peek_83 (by decide) (by simp [Op.lookupswitch.offset, Ne.symm e57408, e57408, Ne.symm e57424, e57424, Ne.symm e57426, e57426, Ne.symm e57428, e57428, Ne.symm e57430, e57430, Ne.symm e57440, e57440, Ne.symm e57442, e57442, Ne.symm e57444, e57444, Ne.symm e57446, e57446, Ne.symm e57470, e57470]) (by decide) ?_
                refine lv_iconst (v := (-1)) hx hb dX0_peek_262 (by decide) ?_
                have hP9 := hP.sub (ws' := []) [] rfl
                have hD9 := hD.sub (ws' := []) [] (by decide) rfl
                have hK9 := hK.sub (tys' := []) [] rfl
                exact W.iret (v := (-1)) hx hb hr (fun t ht hW => ⟨⟨(-1), (), rfl, (by first | (exact dv_pos (by omega)) | (exact dv_zero (by omega) (by omega)) | (exact dv_neg (by omega) (by omega))), by rw [ht]; exact hP9, va_K.moved hW.alike hK9, hD9⟩, hS.F ht⟩) hS.2.2 dX0_peek_263
              · have c29 := fz_nle.mp c29
                have kk57408 : (57408 : Int32).toInt = 57408 := by decide
                refine lv_aload_n hx hb dX0_peek_67 rfl (lv_at hl 0 rfl) ?_
                refine va_get (D := (dC, dI)) (ci := 0) (v := .ref oM) (C := RX0) (T := TX0) (N := 6) hx hb hts (by decide +kernel) hown hK hP 0 rfl rfl 1 (by decide) (hts (.fieldLink RX0 16 "UnibusMachine$Bus" "map" "LUnibusMachine$PageMap;") (by decide +kernel)) (fun _ h9 => h9) rfl dX0_peek_68 ?_
                refine va_get (D := (dC, dI)) (ci := 3) (v := .ref ab) (C := RX4) (T := TX4) (N := 3) hx hb hts (by decide +kernel) hown hK hP 1 rfl rfl 1 (by decide) (hts (.fieldLink RX0 54 "UnibusMachine$PageMap" "bases" "[I") (by decide +kernel)) (fun _ h9 => h9) rfl dX0_peek_71 ?_
                refine lv_iload_n hx hb dX0_peek_74 rfl (lv_at hl 1 rfl) ?_
                refine lv_ldc (v := 57376) hx hb hown (hts (.constant RX0 49 (57376)) (by decide +kernel)) dX0_peek_75 ?_
                refine lv_isub hx hb dX0_peek_77 ?_
                have f2 := fz_sub p0 57376 (by omega) (by omega)
                refine lv_iconst (v := 1) hx hb dX0_peek_78 (by decide) ?_
                refine lv_ishr hx hb dX0_peek_79 ?_
                have f3 := fz_shr1 (p0 - 57376) (by omega)
                refine va_iald (D := (dC, dI)) hx hb hK hP 3 1 rfl rfl (vp_in_iff.mpr (by constructor <;> omega)) dX0_peek_80 ?_
                have hP9 := hP.sub (ws' := []) [] rfl
                have hD9 := hD.sub (ws' := []) [] (by decide) rfl
                have hK9 := hK.sub (tys' := []) [] rfl
                exact W.iret (v := 0) hx hb hr (fun t ht hW => ⟨⟨0, (), rfl, (by first | (exact dv_pos (by omega)) | (exact dv_zero (by omega) (by omega)) | (exact dv_neg (by omega) (by omega))), by rw [ht]; exact hP9, va_K.moved hW.alike hK9, hD9⟩, hS.F ht⟩) hS.2.2 dX0_peek_81
          · have c25 := fz_nle.mp c25
            have kk57376 : (57376 : Int32).toInt = 57376 := by decide
            refine lv_aload_n hx hb dX0_peek_40 rfl (lv_at hl 0 rfl) ?_
            refine va_get (D := (dC, dI)) (ci := 0) (v := .ref oM) (C := RX0) (T := TX0) (N := 6) hx hb hts (by decide +kernel) hown hK hP 0 rfl rfl 1 (by decide) (hts (.fieldLink RX0 16 "UnibusMachine$Bus" "map" "LUnibusMachine$PageMap;") (by decide +kernel)) (fun _ h9 => h9) rfl dX0_peek_41 ?_
            refine va_get (D := (dC, dI)) (ci := 3) (v := .ref ad) (C := RX4) (T := TX4) (N := 3) hx hb hts (by decide +kernel) hown hK hP 1 rfl rfl 0 (by decide) (hts (.fieldLink RX0 50 "UnibusMachine$PageMap" "descriptors" "[I") (by decide +kernel)) (fun _ h9 => h9) rfl dX0_peek_44 ?_
            refine lv_iload_n hx hb dX0_peek_47 rfl (lv_at hl 1 rfl) ?_
            refine lv_ldc (v := 57344) hx hb hown (hts (.constant RX0 48 (57344)) (by decide +kernel)) dX0_peek_48 ?_
            refine lv_isub hx hb dX0_peek_50 ?_
            have f2 := fz_sub p0 57344 (by omega) (by omega)
            refine lv_iconst (v := 1) hx hb dX0_peek_51 (by decide) ?_
            refine lv_ishr hx hb dX0_peek_52 ?_
            have f3 := fz_shr1 (p0 - 57344) (by omega)
            refine va_iald (D := (dC, dI)) hx hb hK hP 2 0 rfl rfl (vp_in_iff.mpr (by constructor <;> omega)) dX0_peek_53 ?_
            have hP9 := hP.sub (ws' := []) [] rfl
            have hD9 := hD.sub (ws' := []) [] (by decide) rfl
            have hK9 := hK.sub (tys' := []) [] rfl
            exact W.iret (v := 0) hx hb hr (fun t ht hW => ⟨⟨0, (), rfl, (by first | (exact dv_pos (by omega)) | (exact dv_zero (by omega) (by omega)) | (exact dv_neg (by omega) (by omega))), by rw [ht]; exact hP9, va_K.moved hW.alike hK9, hD9⟩, hS.F ht⟩) hS.2.2 dX0_peek_54
      · have c17 := fz_nle.mp c17
        have kk1024 : (1024 : Int32).toInt = 1024 := by decide
        exact False.elim (by omega)
  · have c1 := fz_ne.mp c1
    have kk0 : (0 : Int32).toInt = 0 := by decide
    refine lv_iconst (v := (-1)) hx hb dX0_peek_6 (by decide) ?_
    have hP9 := hP.sub (ws' := []) [] rfl
    have hD9 := hD.sub (ws' := []) [] (by decide) rfl
    have hK9 := hK.sub (tys' := []) [] rfl
    exact W.iret (v := (-1)) hx hb hr (fun t ht hW => ⟨⟨(-1), (), rfl, (by first | (exact dv_pos (by omega)) | (exact dv_zero (by omega) (by omega)) | (exact dv_neg (by omega) (by omega))), by rw [ht]; exact hP9, va_K.moved hW.alike hK9, hD9⟩, hS.F ht⟩) hS.2.2 dX0_peek_7
set_option maxHeartbeats 4000000 in
set_option maxRecDepth 100000 in
theorem c_device (l : Launch) (dC : Nat → ClassId) (dI : Nat → Nat → Nat) (h0 : Nat) (oB : Nat) (oP : Nat) (am : Nat) (oM : Nat) (oS : Nat) (oK : Nat) (oL : Nat) (oD : Nat) (ad : Nat) (ab : Nat) (td : ClassId) (tb : ClassId) (ap : Nat) (aw : Nat) (p0 : Int32) (sz : Nat) : Met l yX8_device wsX8_device ({ frames := 1, cells := 0, slots := 0, locals := 21 } : Room) (va_Pc [.ref h0, .int p0] (fun U => U.heap.size = sz ∧ va_P (dC, dI) vwCl [(h0, .inr (7, [.ref oB, .ref oP])), (oB, .inr (0, [.ref am, .ref oM, .ref oS, .ref oK, .ref oL, .ref oD])), (oM, .inr (3, [.ref ad, .ref ab, .int 0])), (ad, .inl (td, 16, .inl (fun _ => 0))), (ab, .inl (tb, 16, .inl (fun _ => 0))), (oS, .inr (6, [.int 0, .int (-1)])), (oK, .inr (2, [.int 0, .int 0, .int 0])), (oL, .inr (4, [.int 128, .int 0, .ref ap, .int 0, .int 0, .int 0, .int 0])), (oD, .inr (1, [.int 128, .int 0, .ref aw, .int 0, .int 0, .int 0, .int 0, .int 0, .int 0, .int 0]))] U.heap ∧ va_K (dC, dI) vwCl [(td, .int), (tb, .int)] U ∧ va_D (fun _ => True) [(h0, .inr (7, [.ref oB, .ref oP])), (oB, .inr (0, [.ref am, .ref oM, .ref oS, .ref oK, .ref oL, .ref oD])), (oM, .inr (3, [.ref ad, .ref ab, .int 0])), (ad, .inl (td, 16, .inl (fun _ => 0))), (ab, .inl (tb, 16, .inl (fun _ => 0))), (oS, .inr (6, [.int 0, .int (-1)])), (oK, .inr (2, [.int 0, .int 0, .int 0])), (oL, .inr (4, [.int 128, .int 0, .ref ap, .int 0, .int 0, .int 0, .int 0])), (oD, .inr (1, [.int 128, .int 0, .ref aw, .int 0, .int 0, .int 0, .int 0, .int 0, .int 0, .int 0]))])) (va_Qi (fun (r : Int32) (u : Unit) => r = dv p0.toInt) (fun (u : Unit) (t : State) => va_P (dC, dI) vwCl [] t.heap ∧ va_K (dC, dI) vwCl [] t ∧ va_D (va_A [(h0, .inr (7, [.ref oB, .ref oP])), (oB, .inr (0, [.ref am, .ref oM, .ref oS, .ref oK, .ref oL, .ref oD])), (oM, .inr (3, [.ref ad, .ref ab, .int 0])), (ad, .inl (td, 16, .inl (fun _ => 0))), (ab, .inl (tb, 16, .inl (fun _ => 0))), (oS, .inr (6, [.int 0, .int (-1)])), (oK, .inr (2, [.int 0, .int 0, .int 0])), (oL, .inr (4, [.int 128, .int 0, .ref ap, .int 0, .int 0, .int 0, .int 0])), (oD, .inr (1, [.int 128, .int 0, .ref aw, .int 0, .int 0, .int 0, .int 0, .int 0, .int 0, .int 0]))] sz) []) (va_A [(h0, .inr (7, [.ref oB, .ref oP])), (oB, .inr (0, [.ref am, .ref oM, .ref oS, .ref oK, .ref oL, .ref oD])), (oM, .inr (3, [.ref ad, .ref ab, .int 0])), (ad, .inl (td, 16, .inl (fun _ => 0))), (ab, .inl (tb, 16, .inl (fun _ => 0))), (oS, .inr (6, [.int 0, .int (-1)])), (oK, .inr (2, [.int 0, .int 0, .int 0])), (oL, .inr (4, [.int 128, .int 0, .ref ap, .int 0, .int 0, .int 0, .int 0])), (oD, .inr (1, [.int 128, .int 0, .ref aw, .int 0, .int 0, .int 0, .int 0, .int 0, .int 0, .int 0]))] sz)) 0 0 (va_A [(h0, .inr (7, [.ref oB, .ref oP])), (oB, .inr (0, [.ref am, .ref oM, .ref oS, .ref oK, .ref oL, .ref oD])), (oM, .inr (3, [.ref ad, .ref ab, .int 0])), (ad, .inl (td, 16, .inl (fun _ => 0))), (ab, .inl (tb, 16, .inl (fun _ => 0))), (oS, .inr (6, [.int 0, .int (-1)])), (oK, .inr (2, [.int 0, .int 0, .int 0])), (oL, .inr (4, [.int 128, .int 0, .ref ap, .int 0, .int 0, .int 0, .int 0])), (oD, .inr (1, [.int 128, .int 0, .ref aw, .int 0, .int 0, .int 0, .int 0, .int 0, .int 0, .int 0]))] sz) := by
  refine Met.ofW (cc := cX8_device) (maxL := 2) (ret := (some .int)) (by decide) rfl ?_
  intro p e s m args below meth c s₁ B hml hv
  obtain ⟨rfl, hsz, hP, hK, hD0⟩ := hv
  have hx := B.exec
  have hb := B.bytes
  have hr := B.returns
  have hts := atoms_spec (ws := wsX8_device) B.pre
  have hown : s.vm.findClass RX8 = some m.cls := findClass_of_methodNamed B.named
  have hlocks := B.notSynchronized
  subst hsz
  have hD := hD0.self (sz := s.heap.size)
  generalize hAe : va_A [(h0, .inr (7, [.ref oB, .ref oP])), (oB, .inr (0, [.ref am, .ref oM, .ref oS, .ref oK, .ref oL, .ref oD])), (oM, .inr (3, [.ref ad, .ref ab, .int 0])), (ad, .inl (td, 16, .inl (fun _ => 0))), (ab, .inl (tb, 16, .inl (fun _ => 0))), (oS, .inr (6, [.int 0, .int (-1)])), (oK, .inr (2, [.int 0, .int 0, .int 0])), (oL, .inr (4, [.int 128, .int 0, .ref ap, .int 0, .int 0, .int 0, .int 0])), (oD, .inr (1, [.int 128, .int 0, .ref aw, .int 0, .int 0, .int 0, .int 0, .int 0, .int 0, .int 0]))] s.heap.size = A at hD ⊢
  have hA : ∀ q : Nat, s.heap.size ≤ q → A q := fun q h => by rw [← hAe]; exact Or.inr h
  have hS0 : ∀ G : Heap, s.heap = G → va_S A s.heap G [] := fun G h => by subst h; exact va_S.rf
  generalize hHe : s.heap = H at hP ⊢
  have hS := hS0 H hHe
  have hP : va_P (dC, dI) vwCl [(h0, .inr (7, [.ref oB, .ref oP])), (oB, .inr (0, [.ref am, .ref oM, .ref oS, .ref oK, .ref oL, .ref oD])), (oM, .inr (3, [.ref ad, .ref ab, .int 0])), (ad, .inl (td, 16, .inl (fun _ => 0))), (ab, .inl (tb, 16, .inl (fun _ => 0))), (oS, .inr (6, [.int 0, .int (-1)])), (oK, .inr (2, [.int 0, .int 0, .int 0])), (oL, .inr (4, [.int 128, .int 0, .ref ap, .int 0, .int 0, .int 0, .int 0])), (oD, .inr (1, [.int 128, .int 0, .ref aw, .int 0, .int 0, .int 0, .int 0, .int 0, .int 0, .int 0]))] H := hP
  have hD : va_D A [(h0, .inr (7, [.ref oB, .ref oP])), (oB, .inr (0, [.ref am, .ref oM, .ref oS, .ref oK, .ref oL, .ref oD])), (oM, .inr (3, [.ref ad, .ref ab, .int 0])), (ad, .inl (td, 16, .inl (fun _ => 0))), (ab, .inl (tb, 16, .inl (fun _ => 0))), (oS, .inr (6, [.int 0, .int (-1)])), (oK, .inr (2, [.int 0, .int 0, .int 0])), (oL, .inr (4, [.int 128, .int 0, .ref ap, .int 0, .int 0, .int 0, .int 0])), (oD, .inr (1, [.int 128, .int 0, .ref aw, .int 0, .int 0, .int 0, .int 0, .int 0, .int 0, .int 0]))] := hD
  have hK : va_K (dC, dI) vwCl [(td, .int), (tb, .int)] s := hK
  have hl := lv_entry ([.ref h0, .int p0]) (n := 2) (Nat.le_of_ble_eq_true rfl)
  rw [lg_entry_eq]
  generalize (lg_sl ([.ref h0, .int p0]) ++ List.replicate (2 - (lg_sl ([.ref h0, .int p0])).length) Slot.unset).toArray = ls at hl ⊢
  have hl : lv_has ls 2 [(0, .ref h0), (1, .int p0)] := hl
  have kk57344 : (57344 : Int32).toInt = 57344 := by decide
  refine lv_iload_n hx hb dX8_device_0 rfl (lv_at hl 1 rfl) ?_
  refine lv_ldc (v := 57344) hx hb hown (hts (.constant RX8 119 (57344)) (by decide +kernel)) dX8_device_1 ?_
  refine lv_icmp_ge (tgt := 10) hx hb dX8_device_3 (by decide) (fun c1 => ?_) (fun c1 => ?_)
  · have c1 := fz_le.mp c1
    have kk57344 : (57344 : Int32).toInt = 57344 := by decide
    refine lv_aload_n hx hb dX8_device_10 rfl (lv_at hl 0 rfl) ?_
    refine va_get (D := (dC, dI)) (ci := 7) (v := .ref oB) (C := RX8) (T := TX8) (N := 2) hx hb hts (by decide +kernel) hown hK hP 0 rfl rfl 0 (by decide) (hts (.fieldLink RX8 10 "UnibusMachine" "bus" "LUnibusMachine$Bus;") (by decide +kernel)) (fun _ h9 => h9) rfl dX8_device_11 ?_
    refine lv_iload_n hx hb dX8_device_14 rfl (lv_at hl 1 rfl) ?_
    have hPc := hP.sub (ws' := [(oB, .inr (0, [.ref am, .ref oM, .ref oS, .ref oK, .ref oL, .ref oD])), (oM, .inr (3, [.ref ad, .ref ab, .int 0])), (ad, .inl (td, 16, .inl (fun _ => 0))), (ab, .inl (tb, 16, .inl (fun _ => 0))), (oS, .inr (6, [.int 0, .int (-1)])), (oK, .inr (2, [.int 0, .int 0, .int 0])), (oL, .inr (4, [.int 128, .int 0, .ref ap, .int 0, .int 0, .int 0, .int 0])), (oD, .inr (1, [.int 128, .int 0, .ref aw, .int 0, .int 0, .int 0, .int 0, .int 0, .int 0, .int 0]))]) [1, 2, 3, 4, 5, 6, 7, 8] rfl
    have hDc := hD.sub (ws' := [(oB, .inr (0, [.ref am, .ref oM, .ref oS, .ref oK, .ref oL, .ref oD])), (oM, .inr (3, [.ref ad, .ref ab, .int 0])), (ad, .inl (td, 16, .inl (fun _ => 0))), (ab, .inl (tb, 16, .inl (fun _ => 0))), (oS, .inr (6, [.int 0, .int (-1)])), (oK, .inr (2, [.int 0, .int 0, .int 0])), (oL, .inr (4, [.int 128, .int 0, .ref ap, .int 0, .int 0, .int 0, .int 0])), (oD, .inr (1, [.int 128, .int 0, .ref aw, .int 0, .int 0, .int 0, .int 0, .int 0, .int 0, .int 0]))]) [1, 2, 3, 4, 5, 6, 7, 8] (by decide) rfl
    have hKc := hK.sub (tys' := [(td, .int), (tb, .int)]) [0, 1] rfl
    have hFc := va_free (wc := [(oB, .inr (0, [.ref am, .ref oM, .ref oS, .ref oK, .ref oL, .ref oD])), (oM, .inr (3, [.ref ad, .ref ab, .int 0])), (ad, .inl (td, 16, .inl (fun _ => 0))), (ab, .inl (tb, 16, .inl (fun _ => 0))), (oS, .inr (6, [.int 0, .int (-1)])), (oK, .inr (2, [.int 0, .int 0, .int 0])), (oL, .inr (4, [.int 128, .int 0, .ref ap, .int 0, .int 0, .int 0, .int 0])), (oD, .inr (1, [.int 128, .int 0, .ref aw, .int 0, .int 0, .int 0, .int 0, .int 0, .int 0, .int 0]))]) hD hS hA [1, 2, 3, 4, 5, 6, 7, 8] rfl
    refine va_calli (va_runV (As := [.int p0]) (rest := []) ⟨hx, hb, hml, hown, hts⟩ (c_peek l dC dI oB am oM oS oK oL oD ad ab td tb ap aw p0 H.size (by omega)) (cwV 1 hts gX8_device_X0_peek rfl rfl rfl (by decide +kernel) ⟨Nat.le_of_ble_eq_true rfl, Nat.le_of_ble_eq_true rfl⟩) ⟨fun a U g mk q => by obtain ⟨q0, q1, qP, qK, qD⟩ := q; exact ⟨q0, q1, qP, va_K.moved (u := U) (U := U.calling g mk a) (Vm.Alike.refl U.vm) qK, qD⟩, va_recv hKc hPc (ci := 0) (q0 := 0) rfl rfl, fun U hU hW => ⟨rfl, by rw [hU], by rw [hU]; exact hPc, va_K.moved hW.alike hKc, hDc.weaken (fun _ _ _ _ => trivial)⟩⟩ rfl rfl hl.1 rfl (lv_room (Nat.le_of_ble_eq_true rfl)) dX8_device_15 ⟨Nat.le_of_ble_eq_true rfl, Nat.le_of_ble_eq_true rfl⟩) hS (fun q _ h => hFc q h) hFc (fun r2 u3 t H1 locs ht hvm hw hB hz1 hk1 hS => ?_)
    obtain ⟨hP1, hK1, hD1⟩ := hB
    rw [ht] at hP1
    have hK1 := va_K.moved hvm.symm hK1
    try dsimp only at hw
    obtain ⟨hP, hD⟩ := va_join (wr := [(h0, .inr (7, [.ref oB, .ref oP]))]) (w1 := []) hP hD [1, 2, 3, 4, 5, 6, 7, 8] [0] rfl rfl (by decide) (by decide) hk1 hFc hP1 hD1
    have hK := (hK.sub (tys' := []) [] rfl).app hK1
    generalize H1 = H at hP hS ⊢
    have hP : va_P (dC, dI) vwCl [(h0, .inr (7, [.ref oB, .ref oP]))] H := hP
    have hD : va_D A [(h0, .inr (7, [.ref oB, .ref oP]))] := hD
    have hK : va_K (dC, dI) vwCl [] s := hK
    have hP9 := hP.sub (ws' := []) [] rfl
    have hD9 := hD.sub (ws' := []) [] (by decide) rfl
    have hK9 := hK.sub (tys' := []) [] rfl
    exact W.iret (v := r2) hx hb hr (fun t ht hW => ⟨⟨r2, (), rfl, hw, by rw [ht]; exact hP9, va_K.moved hW.alike hK9, hD9⟩, hS.F ht⟩) hS.2.2 dX8_device_18
  · have c1 := fz_nle.mp c1
    have kk57344 : (57344 : Int32).toInt = 57344 := by decide
    refine lv_iconst (v := (-1)) hx hb dX8_device_6 (by decide) ?_
    refine lv_goto (tgt := 18) hx hb dX8_device_7 (by decide) ?_
    have hP9 := hP.sub (ws' := []) [] rfl
    have hD9 := hD.sub (ws' := []) [] (by decide) rfl
    have hK9 := hK.sub (tys' := []) [] rfl
    exact W.iret (v := (-1)) hx hb hr (fun t ht hW => ⟨⟨(-1), (), rfl, (by first | (exact dv_pos (by omega)) | (exact dv_zero (by omega) (by omega)) | (exact dv_neg (by omega) (by omega))), by rw [ht]; exact hP9, va_K.moved hW.alike hK9, hD9⟩, hS.F ht⟩) hS.2.2 dX8_device_18
set_option maxHeartbeats 4000000 in
set_option maxRecDepth 100000 in
theorem c_state (l : Launch) (dC : Nat → ClassId) (dI : Nat → Nat → Nat) (h0 : Nat) (oB : Nat) (oP : Nat) (oS : Nat) (ar : Nat) (sz : Nat) : Met l yX8_state wsX8_state ({ frames := 0, cells := 0, slots := 0, locals := 0 } : Room) (va_Pc [.ref h0] (fun U => U.heap.size = sz ∧ va_P (dC, dI) vwCl [(h0, .inr (7, [.ref oB, .ref oP])), (oP, .inr (5, [.ref ar, .ref oB, .ref oS, .int 0, .int 2, .int 0, .int 0, .int 0, .int 0]))] U.heap ∧ va_K (dC, dI) vwCl [] U ∧ va_D (fun _ => True) [(h0, .inr (7, [.ref oB, .ref oP])), (oP, .inr (5, [.ref ar, .ref oB, .ref oS, .int 0, .int 2, .int 0, .int 0, .int 0, .int 0]))])) (va_Qi (fun (r : Int32) (u : Unit) => r = 2) (fun (u : Unit) (t : State) => va_P (dC, dI) vwCl [] t.heap ∧ va_K (dC, dI) vwCl [] t ∧ va_D (va_A [(h0, .inr (7, [.ref oB, .ref oP])), (oP, .inr (5, [.ref ar, .ref oB, .ref oS, .int 0, .int 2, .int 0, .int 0, .int 0, .int 0]))] sz) []) (va_A [(h0, .inr (7, [.ref oB, .ref oP])), (oP, .inr (5, [.ref ar, .ref oB, .ref oS, .int 0, .int 2, .int 0, .int 0, .int 0, .int 0]))] sz)) 0 0 (va_A [(h0, .inr (7, [.ref oB, .ref oP])), (oP, .inr (5, [.ref ar, .ref oB, .ref oS, .int 0, .int 2, .int 0, .int 0, .int 0, .int 0]))] sz) := by
  refine Met.ofW (cc := cX8_state) (maxL := 1) (ret := (some .int)) (by decide) rfl ?_
  intro p e s m args below meth c s₁ B hml hv
  obtain ⟨rfl, hsz, hP, hK, hD0⟩ := hv
  have hx := B.exec
  have hb := B.bytes
  have hr := B.returns
  have hts := atoms_spec (ws := wsX8_state) B.pre
  have hown : s.vm.findClass RX8 = some m.cls := findClass_of_methodNamed B.named
  have hlocks := B.notSynchronized
  subst hsz
  have hD := hD0.self (sz := s.heap.size)
  generalize hAe : va_A [(h0, .inr (7, [.ref oB, .ref oP])), (oP, .inr (5, [.ref ar, .ref oB, .ref oS, .int 0, .int 2, .int 0, .int 0, .int 0, .int 0]))] s.heap.size = A at hD ⊢
  have hA : ∀ q : Nat, s.heap.size ≤ q → A q := fun q h => by rw [← hAe]; exact Or.inr h
  have hS0 : ∀ G : Heap, s.heap = G → va_S A s.heap G [] := fun G h => by subst h; exact va_S.rf
  generalize hHe : s.heap = H at hP ⊢
  have hS := hS0 H hHe
  have hP : va_P (dC, dI) vwCl [(h0, .inr (7, [.ref oB, .ref oP])), (oP, .inr (5, [.ref ar, .ref oB, .ref oS, .int 0, .int 2, .int 0, .int 0, .int 0, .int 0]))] H := hP
  have hD : va_D A [(h0, .inr (7, [.ref oB, .ref oP])), (oP, .inr (5, [.ref ar, .ref oB, .ref oS, .int 0, .int 2, .int 0, .int 0, .int 0, .int 0]))] := hD
  have hK : va_K (dC, dI) vwCl [] s := hK
  have hl := lv_entry ([.ref h0]) (n := 1) (Nat.le_of_ble_eq_true rfl)
  rw [lg_entry_eq]
  generalize (lg_sl ([.ref h0]) ++ List.replicate (1 - (lg_sl ([.ref h0])).length) Slot.unset).toArray = ls at hl ⊢
  have hl : lv_has ls 1 [(0, .ref h0)] := hl
  refine lv_aload_n hx hb dX8_state_0 rfl (lv_at hl 0 rfl) ?_
  refine va_get (D := (dC, dI)) (ci := 7) (v := .ref oP) (C := RX8) (T := TX8) (N := 2) hx hb hts (by decide +kernel) hown hK hP 0 rfl rfl 1 (by decide) (hts (.fieldLink RX8 21 "UnibusMachine" "processor" "LUnibusMachine$Processor;") (by decide +kernel)) (fun _ h9 => h9) rfl dX8_state_1 ?_
  refine va_get (D := (dC, dI)) (ci := 5) (v := .int 2) (C := RX6) (T := TX6) (N := 9) hx hb hts (by decide +kernel) hown hK hP 1 rfl rfl 4 (by decide) (hts (.fieldLink RX8 63 "UnibusMachine$Processor" "halted" "I") (by decide +kernel)) (fun _ h9 => h9) rfl dX8_state_4 ?_
  refine lv_if_eq (tgt := 18) hx hb dX8_state_7 (by decide) (fun c1 => ?_) (fun c1 => ?_)
  · exact absurd c1 (by decide)
  · skip
    refine lv_aload_n hx hb dX8_state_10 rfl (lv_at hl 0 rfl) ?_
    refine va_get (D := (dC, dI)) (ci := 7) (v := .ref oP) (C := RX8) (T := TX8) (N := 2) hx hb hts (by decide +kernel) hown hK hP 0 rfl rfl 1 (by decide) (hts (.fieldLink RX8 21 "UnibusMachine" "processor" "LUnibusMachine$Processor;") (by decide +kernel)) (fun _ h9 => h9) rfl dX8_state_11 ?_
    refine va_get (D := (dC, dI)) (ci := 5) (v := .int 2) (C := RX6) (T := TX6) (N := 9) hx hb hts (by decide +kernel) hown hK hP 1 rfl rfl 4 (by decide) (hts (.fieldLink RX8 63 "UnibusMachine$Processor" "halted" "I") (by decide +kernel)) (fun _ h9 => h9) rfl dX8_state_14 ?_
    have hP9 := hP.sub (ws' := []) [] rfl
    have hD9 := hD.sub (ws' := []) [] (by decide) rfl
    have hK9 := hK.sub (tys' := []) [] rfl
    exact W.iret (v := 2) hx hb hr (fun t ht hW => ⟨⟨2, (), rfl, rfl, by rw [ht]; exact hP9, va_K.moved hW.alike hK9, hD9⟩, hS.F ht⟩) hS.2.2 dX8_state_17
end
