section
-- ===== PART A: goes FIRST, ahead of the names: the tables' words, and 'selects' of the private methods out of them =====
/-- a private method of a class that the tables say can be made, by its rows of tables_1 -/
def lw_okq (q : MethodName × Nat) : Prop := (q.1.cls ≠ "java/lang/invoke/MethodHandle" ∧ q.1.cls ≠ "java/lang/invoke/VarHandle") ∧ Cond.instantiable q.1.cls q.2 ∈ tables_1 ∧ Cond.privateMethod q.1 ∈ tables_1 ∧ Cond.instanceMethod q.1 ∈ tables_1
theorem lw_p0 : lw_okq (⟨"java/lang/Throwable", "fillInStackTrace", "(I)Ljava/lang/Throwable;"⟩, 6) := ⟨⟨by decide +kernel, by decide +kernel⟩, List.mem_of_getElem? (i := 320) (by decide +kernel), List.mem_of_getElem? (i := 318) (by decide +kernel), List.mem_of_getElem? (i := 319) (by decide +kernel)⟩
theorem lw_p1 : lw_okq (⟨"UnibusMachine$Processor", "readWord", "(II)I"⟩, 9) := ⟨⟨by decide +kernel, by decide +kernel⟩, List.mem_of_getElem? (i := 205) (by decide +kernel), List.mem_of_getElem? (i := 414) (by decide +kernel), List.mem_of_getElem? (i := 415) (by decide +kernel)⟩
theorem lw_p2 : lw_okq (⟨"UnibusMachine$Processor", "stop", "(I)V"⟩, 9) := ⟨⟨by decide +kernel, by decide +kernel⟩, List.mem_of_getElem? (i := 205) (by decide +kernel), List.mem_of_getElem? (i := 418) (by decide +kernel), List.mem_of_getElem? (i := 419) (by decide +kernel)⟩
theorem lw_p3 : lw_okq (⟨"UnibusMachine$Processor", "place", "(IIZ)I"⟩, 9) := ⟨⟨by decide +kernel, by decide +kernel⟩, List.mem_of_getElem? (i := 205) (by decide +kernel), List.mem_of_getElem? (i := 436) (by decide +kernel), List.mem_of_getElem? (i := 437) (by decide +kernel)⟩
theorem lw_p4 : lw_okq (⟨"UnibusMachine$Processor", "execute", "(I)V"⟩, 9) := ⟨⟨by decide +kernel, by decide +kernel⟩, List.mem_of_getElem? (i := 205) (by decide +kernel), List.mem_of_getElem? (i := 460) (by decide +kernel), List.mem_of_getElem? (i := 461) (by decide +kernel)⟩
theorem lw_p5 : lw_okq (⟨"UnibusMachine$Processor", "doubleOperand", "(I)V"⟩, 9) := ⟨⟨by decide +kernel, by decide +kernel⟩, List.mem_of_getElem? (i := 205) (by decide +kernel), List.mem_of_getElem? (i := 464) (by decide +kernel), List.mem_of_getElem? (i := 465) (by decide +kernel)⟩
theorem lw_p6 : lw_okq (⟨"UnibusMachine$Processor", "find", "(IZ)I"⟩, 9) := ⟨⟨by decide +kernel, by decide +kernel⟩, List.mem_of_getElem? (i := 205) (by decide +kernel), List.mem_of_getElem? (i := 469) (by decide +kernel), List.mem_of_getElem? (i := 470) (by decide +kernel)⟩
theorem lw_p7 : lw_okq (⟨"UnibusMachine$Processor", "grow", "(II)I"⟩, 9) := ⟨⟨by decide +kernel, by decide +kernel⟩, List.mem_of_getElem? (i := 205) (by decide +kernel), List.mem_of_getElem? (i := 474) (by decide +kernel), List.mem_of_getElem? (i := 475) (by decide +kernel)⟩
theorem lw_p8 : lw_okq (⟨"UnibusMachine$Processor", "fall", "(II)I"⟩, 9) := ⟨⟨by decide +kernel, by decide +kernel⟩, List.mem_of_getElem? (i := 205) (by decide +kernel), List.mem_of_getElem? (i := 478) (by decide +kernel), List.mem_of_getElem? (i := 479) (by decide +kernel)⟩
theorem lw_p9 : lw_okq (⟨"UnibusMachine$Processor", "contents", "(IZ)I"⟩, 9) := ⟨⟨by decide +kernel, by decide +kernel⟩, List.mem_of_getElem? (i := 205) (by decide +kernel), List.mem_of_getElem? (i := 482) (by decide +kernel), List.mem_of_getElem? (i := 483) (by decide +kernel)⟩
theorem lw_p10 : lw_okq (⟨"UnibusMachine$Processor", "readByte", "(I)I"⟩, 9) := ⟨⟨by decide +kernel, by decide +kernel⟩, List.mem_of_getElem? (i := 205) (by decide +kernel), List.mem_of_getElem? (i := 486) (by decide +kernel), List.mem_of_getElem? (i := 487) (by decide +kernel)⟩
theorem lw_p11 : lw_okq (⟨"UnibusMachine$Processor", "put", "(IIZ)V"⟩, 9) := ⟨⟨by decide +kernel, by decide +kernel⟩, List.mem_of_getElem? (i := 205) (by decide +kernel), List.mem_of_getElem? (i := 495) (by decide +kernel), List.mem_of_getElem? (i := 496) (by decide +kernel)⟩
theorem lw_p12 : lw_okq (⟨"UnibusMachine$Processor", "writeByte", "(II)V"⟩, 9) := ⟨⟨by decide +kernel, by decide +kernel⟩, List.mem_of_getElem? (i := 205) (by decide +kernel), List.mem_of_getElem? (i := 499) (by decide +kernel), List.mem_of_getElem? (i := 500) (by decide +kernel)⟩
theorem lw_p13 : lw_okq (⟨"UnibusMachine$Processor", "writeWord", "(III)V"⟩, 9) := ⟨⟨by decide +kernel, by decide +kernel⟩, List.mem_of_getElem? (i := 205) (by decide +kernel), List.mem_of_getElem? (i := 523) (by decide +kernel), List.mem_of_getElem? (i := 524) (by decide +kernel)⟩
theorem lw_p14 : lw_okq (⟨"UnibusMachine$Processor", "mark", "(IIZI)V"⟩, 9) := ⟨⟨by decide +kernel, by decide +kernel⟩, List.mem_of_getElem? (i := 205) (by decide +kernel), List.mem_of_getElem? (i := 533) (by decide +kernel), List.mem_of_getElem? (i := 534) (by decide +kernel)⟩
theorem lw_p15 : lw_okq (⟨"UnibusMachine$Processor", "branch", "(I)V"⟩, 9) := ⟨⟨by decide +kernel, by decide +kernel⟩, List.mem_of_getElem? (i := 205) (by decide +kernel), List.mem_of_getElem? (i := 537) (by decide +kernel), List.mem_of_getElem? (i := 538) (by decide +kernel)⟩
def lw_privs_1 : List (MethodName × Nat) := [(⟨"java/lang/Throwable", "fillInStackTrace", "(I)Ljava/lang/Throwable;"⟩, 6), (⟨"UnibusMachine$Processor", "readWord", "(II)I"⟩, 9), (⟨"UnibusMachine$Processor", "stop", "(I)V"⟩, 9), (⟨"UnibusMachine$Processor", "place", "(IIZ)I"⟩, 9), (⟨"UnibusMachine$Processor", "execute", "(I)V"⟩, 9), (⟨"UnibusMachine$Processor", "doubleOperand", "(I)V"⟩, 9), (⟨"UnibusMachine$Processor", "find", "(IZ)I"⟩, 9), (⟨"UnibusMachine$Processor", "grow", "(II)I"⟩, 9), (⟨"UnibusMachine$Processor", "fall", "(II)I"⟩, 9), (⟨"UnibusMachine$Processor", "contents", "(IZ)I"⟩, 9), (⟨"UnibusMachine$Processor", "readByte", "(I)I"⟩, 9), (⟨"UnibusMachine$Processor", "put", "(IIZ)V"⟩, 9), (⟨"UnibusMachine$Processor", "writeByte", "(II)V"⟩, 9), (⟨"UnibusMachine$Processor", "writeWord", "(III)V"⟩, 9), (⟨"UnibusMachine$Processor", "mark", "(IIZI)V"⟩, 9), (⟨"UnibusMachine$Processor", "branch", "(I)V"⟩, 9)]
theorem lw_r1 : ∀ q ∈ lw_privs_1, lw_okq q := List.forall_mem_cons.mpr ⟨lw_p0, List.forall_mem_cons.mpr ⟨lw_p1, List.forall_mem_cons.mpr ⟨lw_p2, List.forall_mem_cons.mpr ⟨lw_p3, List.forall_mem_cons.mpr ⟨lw_p4, List.forall_mem_cons.mpr ⟨lw_p5, List.forall_mem_cons.mpr ⟨lw_p6, List.forall_mem_cons.mpr ⟨lw_p7, List.forall_mem_cons.mpr ⟨lw_p8, List.forall_mem_cons.mpr ⟨lw_p9, List.forall_mem_cons.mpr ⟨lw_p10, List.forall_mem_cons.mpr ⟨lw_p11, List.forall_mem_cons.mpr ⟨lw_p12, List.forall_mem_cons.mpr ⟨lw_p13, List.forall_mem_cons.mpr ⟨lw_p14, List.forall_mem_cons.mpr ⟨lw_p15, fun _ h => absurd h List.not_mem_nil⟩⟩⟩⟩⟩⟩⟩⟩⟩⟩⟩⟩⟩⟩⟩⟩
theorem lw_p16 : lw_okq (⟨"UnibusMachine$Processor", "branches", "(I)Z"⟩, 9) := ⟨⟨by decide +kernel, by decide +kernel⟩, List.mem_of_getElem? (i := 205) (by decide +kernel), List.mem_of_getElem? (i := 541) (by decide +kernel), List.mem_of_getElem? (i := 542) (by decide +kernel)⟩
theorem lw_p17 : lw_okq (⟨"UnibusMachine$Processor", "singleOperand", "(IIZ)V"⟩, 9) := ⟨⟨by decide +kernel, by decide +kernel⟩, List.mem_of_getElem? (i := 205) (by decide +kernel), List.mem_of_getElem? (i := 545) (by decide +kernel), List.mem_of_getElem? (i := 546) (by decide +kernel)⟩
theorem lw_p18 : lw_okq (⟨"UnibusMachine$Processor", "jumpToSubroutine", "(I)V"⟩, 9) := ⟨⟨by decide +kernel, by decide +kernel⟩, List.mem_of_getElem? (i := 205) (by decide +kernel), List.mem_of_getElem? (i := 558) (by decide +kernel), List.mem_of_getElem? (i := 559) (by decide +kernel)⟩
theorem lw_p19 : lw_okq (⟨"UnibusMachine$Processor", "push", "(I)V"⟩, 9) := ⟨⟨by decide +kernel, by decide +kernel⟩, List.mem_of_getElem? (i := 205) (by decide +kernel), List.mem_of_getElem? (i := 562) (by decide +kernel), List.mem_of_getElem? (i := 563) (by decide +kernel)⟩
theorem lw_p20 : lw_okq (⟨"UnibusMachine$Processor", "returnFromTrap", "()V"⟩, 9) := ⟨⟨by decide +kernel, by decide +kernel⟩, List.mem_of_getElem? (i := 205) (by decide +kernel), List.mem_of_getElem? (i := 566) (by decide +kernel), List.mem_of_getElem? (i := 567) (by decide +kernel)⟩
theorem lw_p21 : lw_okq (⟨"UnibusMachine$Processor", "pop", "()I"⟩, 9) := ⟨⟨by decide +kernel, by decide +kernel⟩, List.mem_of_getElem? (i := 205) (by decide +kernel), List.mem_of_getElem? (i := 570) (by decide +kernel), List.mem_of_getElem? (i := 571) (by decide +kernel)⟩
theorem lw_p22 : lw_okq (⟨"UnibusMachine$Processor", "withoutOperand", "(I)V"⟩, 9) := ⟨⟨by decide +kernel, by decide +kernel⟩, List.mem_of_getElem? (i := 205) (by decide +kernel), List.mem_of_getElem? (i := 575) (by decide +kernel), List.mem_of_getElem? (i := 576) (by decide +kernel)⟩
theorem lw_p23 : lw_okq (⟨"UnibusMachine$Processor", "jump", "(I)V"⟩, 9) := ⟨⟨by decide +kernel, by decide +kernel⟩, List.mem_of_getElem? (i := 205) (by decide +kernel), List.mem_of_getElem? (i := 593) (by decide +kernel), List.mem_of_getElem? (i := 594) (by decide +kernel)⟩
theorem lw_p24 : lw_okq (⟨"UnibusMachine$Processor", "returnOrFlags", "(I)V"⟩, 9) := ⟨⟨by decide +kernel, by decide +kernel⟩, List.mem_of_getElem? (i := 205) (by decide +kernel), List.mem_of_getElem? (i := 597) (by decide +kernel), List.mem_of_getElem? (i := 598) (by decide +kernel)⟩
theorem lw_p25 : lw_okq (⟨"UnibusMachine$Processor", "swapBytes", "(I)V"⟩, 9) := ⟨⟨by decide +kernel, by decide +kernel⟩, List.mem_of_getElem? (i := 205) (by decide +kernel), List.mem_of_getElem? (i := 601) (by decide +kernel), List.mem_of_getElem? (i := 602) (by decide +kernel)⟩
theorem lw_p26 : lw_okq (⟨"UnibusMachine$Processor", "moveFromBefore", "(I)V"⟩, 9) := ⟨⟨by decide +kernel, by decide +kernel⟩, List.mem_of_getElem? (i := 205) (by decide +kernel), List.mem_of_getElem? (i := 605) (by decide +kernel), List.mem_of_getElem? (i := 606) (by decide +kernel)⟩
theorem lw_p27 : lw_okq (⟨"UnibusMachine$Processor", "modeBefore", "()I"⟩, 9) := ⟨⟨by decide +kernel, by decide +kernel⟩, List.mem_of_getElem? (i := 205) (by decide +kernel), List.mem_of_getElem? (i := 609) (by decide +kernel), List.mem_of_getElem? (i := 610) (by decide +kernel)⟩
theorem lw_p28 : lw_okq (⟨"UnibusMachine$Processor", "isOtherStack", "(I)Z"⟩, 9) := ⟨⟨by decide +kernel, by decide +kernel⟩, List.mem_of_getElem? (i := 205) (by decide +kernel), List.mem_of_getElem? (i := 613) (by decide +kernel), List.mem_of_getElem? (i := 614) (by decide +kernel)⟩
theorem lw_p29 : lw_okq (⟨"UnibusMachine$Processor", "moveToBefore", "(I)V"⟩, 9) := ⟨⟨by decide +kernel, by decide +kernel⟩, List.mem_of_getElem? (i := 205) (by decide +kernel), List.mem_of_getElem? (i := 618) (by decide +kernel), List.mem_of_getElem? (i := 619) (by decide +kernel)⟩
theorem lw_p30 : lw_okq (⟨"UnibusMachine$Processor", "extendSign", "(I)V"⟩, 9) := ⟨⟨by decide +kernel, by decide +kernel⟩, List.mem_of_getElem? (i := 205) (by decide +kernel), List.mem_of_getElem? (i := 622) (by decide +kernel), List.mem_of_getElem? (i := 623) (by decide +kernel)⟩
theorem lw_p31 : lw_okq (⟨"UnibusMachine$Processor", "multiply", "(I)V"⟩, 9) := ⟨⟨by decide +kernel, by decide +kernel⟩, List.mem_of_getElem? (i := 205) (by decide +kernel), List.mem_of_getElem? (i := 626) (by decide +kernel), List.mem_of_getElem? (i := 627) (by decide +kernel)⟩
def lw_privs_2 : List (MethodName × Nat) := [(⟨"UnibusMachine$Processor", "branches", "(I)Z"⟩, 9), (⟨"UnibusMachine$Processor", "singleOperand", "(IIZ)V"⟩, 9), (⟨"UnibusMachine$Processor", "jumpToSubroutine", "(I)V"⟩, 9), (⟨"UnibusMachine$Processor", "push", "(I)V"⟩, 9), (⟨"UnibusMachine$Processor", "returnFromTrap", "()V"⟩, 9), (⟨"UnibusMachine$Processor", "pop", "()I"⟩, 9), (⟨"UnibusMachine$Processor", "withoutOperand", "(I)V"⟩, 9), (⟨"UnibusMachine$Processor", "jump", "(I)V"⟩, 9), (⟨"UnibusMachine$Processor", "returnOrFlags", "(I)V"⟩, 9), (⟨"UnibusMachine$Processor", "swapBytes", "(I)V"⟩, 9), (⟨"UnibusMachine$Processor", "moveFromBefore", "(I)V"⟩, 9), (⟨"UnibusMachine$Processor", "modeBefore", "()I"⟩, 9), (⟨"UnibusMachine$Processor", "isOtherStack", "(I)Z"⟩, 9), (⟨"UnibusMachine$Processor", "moveToBefore", "(I)V"⟩, 9), (⟨"UnibusMachine$Processor", "extendSign", "(I)V"⟩, 9), (⟨"UnibusMachine$Processor", "multiply", "(I)V"⟩, 9)]
theorem lw_r2 : ∀ q ∈ lw_privs_2, lw_okq q := List.forall_mem_cons.mpr ⟨lw_p16, List.forall_mem_cons.mpr ⟨lw_p17, List.forall_mem_cons.mpr ⟨lw_p18, List.forall_mem_cons.mpr ⟨lw_p19, List.forall_mem_cons.mpr ⟨lw_p20, List.forall_mem_cons.mpr ⟨lw_p21, List.forall_mem_cons.mpr ⟨lw_p22, List.forall_mem_cons.mpr ⟨lw_p23, List.forall_mem_cons.mpr ⟨lw_p24, List.forall_mem_cons.mpr ⟨lw_p25, List.forall_mem_cons.mpr ⟨lw_p26, List.forall_mem_cons.mpr ⟨lw_p27, List.forall_mem_cons.mpr ⟨lw_p28, List.forall_mem_cons.mpr ⟨lw_p29, List.forall_mem_cons.mpr ⟨lw_p30, List.forall_mem_cons.mpr ⟨lw_p31, fun _ h => absurd h List.not_mem_nil⟩⟩⟩⟩⟩⟩⟩⟩⟩⟩⟩⟩⟩⟩⟩⟩
theorem lw_p32 : lw_okq (⟨"UnibusMachine$Processor", "exclusiveOr", "(I)V"⟩, 9) := ⟨⟨by decide +kernel, by decide +kernel⟩, List.mem_of_getElem? (i := 205) (by decide +kernel), List.mem_of_getElem? (i := 633) (by decide +kernel), List.mem_of_getElem? (i := 634) (by decide +kernel)⟩
theorem lw_p33 : lw_okq (⟨"UnibusMachine$Processor", "countDown", "(I)V"⟩, 9) := ⟨⟨by decide +kernel, by decide +kernel⟩, List.mem_of_getElem? (i := 205) (by decide +kernel), List.mem_of_getElem? (i := 637) (by decide +kernel), List.mem_of_getElem? (i := 638) (by decide +kernel)⟩
theorem lw_p34 : lw_okq (⟨"UnibusMachine$Processor", "enter", "(I)V"⟩, 9) := ⟨⟨by decide +kernel, by decide +kernel⟩, List.mem_of_getElem? (i := 205) (by decide +kernel), List.mem_of_getElem? (i := 641) (by decide +kernel), List.mem_of_getElem? (i := 642) (by decide +kernel)⟩
theorem lw_p35 : lw_okq (⟨"UnibusMachine$Processor", "trap", "(I)V"⟩, 9) := ⟨⟨by decide +kernel, by decide +kernel⟩, List.mem_of_getElem? (i := 205) (by decide +kernel), List.mem_of_getElem? (i := 645) (by decide +kernel), List.mem_of_getElem? (i := 646) (by decide +kernel)⟩
theorem lw_p36 : lw_okq (⟨"UnibusMachine$Processor", "settle", "()V"⟩, 9) := ⟨⟨by decide +kernel, by decide +kernel⟩, List.mem_of_getElem? (i := 205) (by decide +kernel), List.mem_of_getElem? (i := 649) (by decide +kernel), List.mem_of_getElem? (i := 650) (by decide +kernel)⟩
theorem lw_p37 : lw_okq (⟨"UnibusMachine$Drive", "transfer", "([I)V"⟩, 10) := ⟨⟨by decide +kernel, by decide +kernel⟩, List.mem_of_getElem? (i := 136) (by decide +kernel), List.mem_of_getElem? (i := 665) (by decide +kernel), List.mem_of_getElem? (i := 666) (by decide +kernel)⟩
theorem lw_p38 : lw_okq (⟨"UnibusMachineModel", "fail", "(I)I"⟩, 28) := ⟨⟨by decide +kernel, by decide +kernel⟩, List.mem_of_getElem? (i := 726) (by decide +kernel), List.mem_of_getElem? (i := 837) (by decide +kernel), List.mem_of_getElem? (i := 838) (by decide +kernel)⟩
theorem lw_p39 : lw_okq (⟨"UnibusMachineModel", "settle", "()V"⟩, 28) := ⟨⟨by decide +kernel, by decide +kernel⟩, List.mem_of_getElem? (i := 726) (by decide +kernel), List.mem_of_getElem? (i := 856) (by decide +kernel), List.mem_of_getElem? (i := 857) (by decide +kernel)⟩
theorem lw_p40 : lw_okq (⟨"UnibusMachineModel", "step", "()V"⟩, 28) := ⟨⟨by decide +kernel, by decide +kernel⟩, List.mem_of_getElem? (i := 726) (by decide +kernel), List.mem_of_getElem? (i := 864) (by decide +kernel), List.mem_of_getElem? (i := 865) (by decide +kernel)⟩
theorem lw_p41 : lw_okq (⟨"UnibusMachineModel", "fetch", "()I"⟩, 28) := ⟨⟨by decide +kernel, by decide +kernel⟩, List.mem_of_getElem? (i := 726) (by decide +kernel), List.mem_of_getElem? (i := 868) (by decide +kernel), List.mem_of_getElem? (i := 869) (by decide +kernel)⟩
theorem lw_p42 : lw_okq (⟨"UnibusMachineModel", "wordAt", "(II)I"⟩, 28) := ⟨⟨by decide +kernel, by decide +kernel⟩, List.mem_of_getElem? (i := 726) (by decide +kernel), List.mem_of_getElem? (i := 872) (by decide +kernel), List.mem_of_getElem? (i := 873) (by decide +kernel)⟩
theorem lw_p43 : lw_okq (⟨"UnibusMachineModel", "mapped", "(IIZ)I"⟩, 28) := ⟨⟨by decide +kernel, by decide +kernel⟩, List.mem_of_getElem? (i := 726) (by decide +kernel), List.mem_of_getElem? (i := 876) (by decide +kernel), List.mem_of_getElem? (i := 877) (by decide +kernel)⟩
theorem lw_p44 : lw_okq (⟨"UnibusMachineModel", "read", "(I)I"⟩, 28) := ⟨⟨by decide +kernel, by decide +kernel⟩, List.mem_of_getElem? (i := 726) (by decide +kernel), List.mem_of_getElem? (i := 880) (by decide +kernel), List.mem_of_getElem? (i := 881) (by decide +kernel)⟩
theorem lw_p45 : lw_okq (⟨"UnibusMachineModel", "at", "(I)I"⟩, 28) := ⟨⟨by decide +kernel, by decide +kernel⟩, List.mem_of_getElem? (i := 726) (by decide +kernel), List.mem_of_getElem? (i := 884) (by decide +kernel), List.mem_of_getElem? (i := 885) (by decide +kernel)⟩
theorem lw_p46 : lw_okq (⟨"UnibusMachineModel", "statusOf", "(I)I"⟩, 28) := ⟨⟨by decide +kernel, by decide +kernel⟩, List.mem_of_getElem? (i := 726) (by decide +kernel), List.mem_of_getElem? (i := 889) (by decide +kernel), List.mem_of_getElem? (i := 890) (by decide +kernel)⟩
theorem lw_p47 : lw_okq (⟨"UnibusMachineModel", "put", "(II)V"⟩, 28) := ⟨⟨by decide +kernel, by decide +kernel⟩, List.mem_of_getElem? (i := 726) (by decide +kernel), List.mem_of_getElem? (i := 898) (by decide +kernel), List.mem_of_getElem? (i := 899) (by decide +kernel)⟩
def lw_privs_3 : List (MethodName × Nat) := [(⟨"UnibusMachine$Processor", "exclusiveOr", "(I)V"⟩, 9), (⟨"UnibusMachine$Processor", "countDown", "(I)V"⟩, 9), (⟨"UnibusMachine$Processor", "enter", "(I)V"⟩, 9), (⟨"UnibusMachine$Processor", "trap", "(I)V"⟩, 9), (⟨"UnibusMachine$Processor", "settle", "()V"⟩, 9), (⟨"UnibusMachine$Drive", "transfer", "([I)V"⟩, 10), (⟨"UnibusMachineModel", "fail", "(I)I"⟩, 28), (⟨"UnibusMachineModel", "settle", "()V"⟩, 28), (⟨"UnibusMachineModel", "step", "()V"⟩, 28), (⟨"UnibusMachineModel", "fetch", "()I"⟩, 28), (⟨"UnibusMachineModel", "wordAt", "(II)I"⟩, 28), (⟨"UnibusMachineModel", "mapped", "(IIZ)I"⟩, 28), (⟨"UnibusMachineModel", "read", "(I)I"⟩, 28), (⟨"UnibusMachineModel", "at", "(I)I"⟩, 28), (⟨"UnibusMachineModel", "statusOf", "(I)I"⟩, 28), (⟨"UnibusMachineModel", "put", "(II)V"⟩, 28)]
theorem lw_r3 : ∀ q ∈ lw_privs_3, lw_okq q := List.forall_mem_cons.mpr ⟨lw_p32, List.forall_mem_cons.mpr ⟨lw_p33, List.forall_mem_cons.mpr ⟨lw_p34, List.forall_mem_cons.mpr ⟨lw_p35, List.forall_mem_cons.mpr ⟨lw_p36, List.forall_mem_cons.mpr ⟨lw_p37, List.forall_mem_cons.mpr ⟨lw_p38, List.forall_mem_cons.mpr ⟨lw_p39, List.forall_mem_cons.mpr ⟨lw_p40, List.forall_mem_cons.mpr ⟨lw_p41, List.forall_mem_cons.mpr ⟨lw_p42, List.forall_mem_cons.mpr ⟨lw_p43, List.forall_mem_cons.mpr ⟨lw_p44, List.forall_mem_cons.mpr ⟨lw_p45, List.forall_mem_cons.mpr ⟨lw_p46, List.forall_mem_cons.mpr ⟨lw_p47, fun _ h => absurd h List.not_mem_nil⟩⟩⟩⟩⟩⟩⟩⟩⟩⟩⟩⟩⟩⟩⟩⟩
theorem lw_p48 : lw_okq (⟨"UnibusMachineModel", "rest", "(I)V"⟩, 28) := ⟨⟨by decide +kernel, by decide +kernel⟩, List.mem_of_getElem? (i := 726) (by decide +kernel), List.mem_of_getElem? (i := 903) (by decide +kernel), List.mem_of_getElem? (i := 904) (by decide +kernel)⟩
theorem lw_p49 : lw_okq (⟨"UnibusMachineModel", "branch", "(I)V"⟩, 28) := ⟨⟨by decide +kernel, by decide +kernel⟩, List.mem_of_getElem? (i := 726) (by decide +kernel), List.mem_of_getElem? (i := 907) (by decide +kernel), List.mem_of_getElem? (i := 908) (by decide +kernel)⟩
theorem lw_p50 : lw_okq (⟨"UnibusMachineModel", "isSet", "(I)Z"⟩, 28) := ⟨⟨by decide +kernel, by decide +kernel⟩, List.mem_of_getElem? (i := 726) (by decide +kernel), List.mem_of_getElem? (i := 911) (by decide +kernel), List.mem_of_getElem? (i := 912) (by decide +kernel)⟩
theorem lw_p51 : lw_okq (⟨"UnibusMachineModel", "one", "(IZ)V"⟩, 28) := ⟨⟨by decide +kernel, by decide +kernel⟩, List.mem_of_getElem? (i := 726) (by decide +kernel), List.mem_of_getElem? (i := 915) (by decide +kernel), List.mem_of_getElem? (i := 916) (by decide +kernel)⟩
theorem lw_p52 : lw_okq (⟨"UnibusMachineModel", "single", "(IIZ)V"⟩, 28) := ⟨⟨by decide +kernel, by decide +kernel⟩, List.mem_of_getElem? (i := 726) (by decide +kernel), List.mem_of_getElem? (i := 919) (by decide +kernel), List.mem_of_getElem? (i := 920) (by decide +kernel)⟩
theorem lw_p53 : lw_okq (⟨"UnibusMachineModel", "find", "(IZ)I"⟩, 28) := ⟨⟨by decide +kernel, by decide +kernel⟩, List.mem_of_getElem? (i := 726) (by decide +kernel), List.mem_of_getElem? (i := 923) (by decide +kernel), List.mem_of_getElem? (i := 924) (by decide +kernel)⟩
theorem lw_p54 : lw_okq (⟨"UnibusMachineModel", "value", "(IZ)I"⟩, 28) := ⟨⟨by decide +kernel, by decide +kernel⟩, List.mem_of_getElem? (i := 726) (by decide +kernel), List.mem_of_getElem? (i := 927) (by decide +kernel), List.mem_of_getElem? (i := 928) (by decide +kernel)⟩
theorem lw_p55 : lw_okq (⟨"UnibusMachineModel", "byteAt", "(II)I"⟩, 28) := ⟨⟨by decide +kernel, by decide +kernel⟩, List.mem_of_getElem? (i := 726) (by decide +kernel), List.mem_of_getElem? (i := 931) (by decide +kernel), List.mem_of_getElem? (i := 932) (by decide +kernel)⟩
theorem lw_p56 : lw_okq (⟨"UnibusMachineModel", "sum", "(IIIZ)I"⟩, 28) := ⟨⟨by decide +kernel, by decide +kernel⟩, List.mem_of_getElem? (i := 726) (by decide +kernel), List.mem_of_getElem? (i := 935) (by decide +kernel), List.mem_of_getElem? (i := 936) (by decide +kernel)⟩
theorem lw_p57 : lw_okq (⟨"UnibusMachineModel", "turned", "(IIII)I"⟩, 28) := ⟨⟨by decide +kernel, by decide +kernel⟩, List.mem_of_getElem? (i := 726) (by decide +kernel), List.mem_of_getElem? (i := 945) (by decide +kernel), List.mem_of_getElem? (i := 946) (by decide +kernel)⟩
theorem lw_p58 : lw_okq (⟨"UnibusMachineModel", "keep", "(IZI)V"⟩, 28) := ⟨⟨by decide +kernel, by decide +kernel⟩, List.mem_of_getElem? (i := 726) (by decide +kernel), List.mem_of_getElem? (i := 949) (by decide +kernel), List.mem_of_getElem? (i := 950) (by decide +kernel)⟩
theorem lw_p59 : lw_okq (⟨"UnibusMachineModel", "setByte", "(III)V"⟩, 28) := ⟨⟨by decide +kernel, by decide +kernel⟩, List.mem_of_getElem? (i := 726) (by decide +kernel), List.mem_of_getElem? (i := 953) (by decide +kernel), List.mem_of_getElem? (i := 954) (by decide +kernel)⟩
theorem lw_p60 : lw_okq (⟨"UnibusMachineModel", "write", "(II)V"⟩, 28) := ⟨⟨by decide +kernel, by decide +kernel⟩, List.mem_of_getElem? (i := 726) (by decide +kernel), List.mem_of_getElem? (i := 957) (by decide +kernel), List.mem_of_getElem? (i := 958) (by decide +kernel)⟩
theorem lw_p61 : lw_okq (⟨"UnibusMachineModel", "print", "(I)V"⟩, 28) := ⟨⟨by decide +kernel, by decide +kernel⟩, List.mem_of_getElem? (i := 726) (by decide +kernel), List.mem_of_getElem? (i := 962) (by decide +kernel), List.mem_of_getElem? (i := 963) (by decide +kernel)⟩
theorem lw_p62 : lw_okq (⟨"UnibusMachineModel", "order", "(I)V"⟩, 28) := ⟨⟨by decide +kernel, by decide +kernel⟩, List.mem_of_getElem? (i := 726) (by decide +kernel), List.mem_of_getElem? (i := 966) (by decide +kernel), List.mem_of_getElem? (i := 967) (by decide +kernel)⟩
theorem lw_p63 : lw_okq (⟨"UnibusMachineModel", "setWord", "(III)V"⟩, 28) := ⟨⟨by decide +kernel, by decide +kernel⟩, List.mem_of_getElem? (i := 726) (by decide +kernel), List.mem_of_getElem? (i := 970) (by decide +kernel), List.mem_of_getElem? (i := 971) (by decide +kernel)⟩
def lw_privs_4 : List (MethodName × Nat) := [(⟨"UnibusMachineModel", "rest", "(I)V"⟩, 28), (⟨"UnibusMachineModel", "branch", "(I)V"⟩, 28), (⟨"UnibusMachineModel", "isSet", "(I)Z"⟩, 28), (⟨"UnibusMachineModel", "one", "(IZ)V"⟩, 28), (⟨"UnibusMachineModel", "single", "(IIZ)V"⟩, 28), (⟨"UnibusMachineModel", "find", "(IZ)I"⟩, 28), (⟨"UnibusMachineModel", "value", "(IZ)I"⟩, 28), (⟨"UnibusMachineModel", "byteAt", "(II)I"⟩, 28), (⟨"UnibusMachineModel", "sum", "(IIIZ)I"⟩, 28), (⟨"UnibusMachineModel", "turned", "(IIII)I"⟩, 28), (⟨"UnibusMachineModel", "keep", "(IZI)V"⟩, 28), (⟨"UnibusMachineModel", "setByte", "(III)V"⟩, 28), (⟨"UnibusMachineModel", "write", "(II)V"⟩, 28), (⟨"UnibusMachineModel", "print", "(I)V"⟩, 28), (⟨"UnibusMachineModel", "order", "(I)V"⟩, 28), (⟨"UnibusMachineModel", "setWord", "(III)V"⟩, 28)]
theorem lw_r4 : ∀ q ∈ lw_privs_4, lw_okq q := List.forall_mem_cons.mpr ⟨lw_p48, List.forall_mem_cons.mpr ⟨lw_p49, List.forall_mem_cons.mpr ⟨lw_p50, List.forall_mem_cons.mpr ⟨lw_p51, List.forall_mem_cons.mpr ⟨lw_p52, List.forall_mem_cons.mpr ⟨lw_p53, List.forall_mem_cons.mpr ⟨lw_p54, List.forall_mem_cons.mpr ⟨lw_p55, List.forall_mem_cons.mpr ⟨lw_p56, List.forall_mem_cons.mpr ⟨lw_p57, List.forall_mem_cons.mpr ⟨lw_p58, List.forall_mem_cons.mpr ⟨lw_p59, List.forall_mem_cons.mpr ⟨lw_p60, List.forall_mem_cons.mpr ⟨lw_p61, List.forall_mem_cons.mpr ⟨lw_p62, List.forall_mem_cons.mpr ⟨lw_p63, fun _ h => absurd h List.not_mem_nil⟩⟩⟩⟩⟩⟩⟩⟩⟩⟩⟩⟩⟩⟩⟩⟩
theorem lw_p64 : lw_okq (⟨"UnibusMachineModel", "show", "(IZ)V"⟩, 28) := ⟨⟨by decide +kernel, by decide +kernel⟩, List.mem_of_getElem? (i := 726) (by decide +kernel), List.mem_of_getElem? (i := 974) (by decide +kernel), List.mem_of_getElem? (i := 975) (by decide +kernel)⟩
theorem lw_p65 : lw_okq (⟨"UnibusMachineModel", "setFlags", "(ZZZZ)V"⟩, 28) := ⟨⟨by decide +kernel, by decide +kernel⟩, List.mem_of_getElem? (i := 726) (by decide +kernel), List.mem_of_getElem? (i := 978) (by decide +kernel), List.mem_of_getElem? (i := 979) (by decide +kernel)⟩
theorem lw_p66 : lw_okq (⟨"UnibusMachineModel", "fromBefore", "(I)V"⟩, 28) := ⟨⟨by decide +kernel, by decide +kernel⟩, List.mem_of_getElem? (i := 726) (by decide +kernel), List.mem_of_getElem? (i := 982) (by decide +kernel), List.mem_of_getElem? (i := 983) (by decide +kernel)⟩
theorem lw_p67 : lw_okq (⟨"UnibusMachineModel", "push", "(I)V"⟩, 28) := ⟨⟨by decide +kernel, by decide +kernel⟩, List.mem_of_getElem? (i := 726) (by decide +kernel), List.mem_of_getElem? (i := 986) (by decide +kernel), List.mem_of_getElem? (i := 987) (by decide +kernel)⟩
theorem lw_p68 : lw_okq (⟨"UnibusMachineModel", "toBefore", "(I)V"⟩, 28) := ⟨⟨by decide +kernel, by decide +kernel⟩, List.mem_of_getElem? (i := 726) (by decide +kernel), List.mem_of_getElem? (i := 990) (by decide +kernel), List.mem_of_getElem? (i := 991) (by decide +kernel)⟩
theorem lw_p69 : lw_okq (⟨"UnibusMachineModel", "pop", "()I"⟩, 28) := ⟨⟨by decide +kernel, by decide +kernel⟩, List.mem_of_getElem? (i := 726) (by decide +kernel), List.mem_of_getElem? (i := 994) (by decide +kernel), List.mem_of_getElem? (i := 995) (by decide +kernel)⟩
theorem lw_p70 : lw_okq (⟨"UnibusMachineModel", "signs", "(I)V"⟩, 28) := ⟨⟨by decide +kernel, by decide +kernel⟩, List.mem_of_getElem? (i := 726) (by decide +kernel), List.mem_of_getElem? (i := 998) (by decide +kernel), List.mem_of_getElem? (i := 999) (by decide +kernel)⟩
theorem lw_p71 : lw_okq (⟨"UnibusMachineModel", "call", "(I)V"⟩, 28) := ⟨⟨by decide +kernel, by decide +kernel⟩, List.mem_of_getElem? (i := 726) (by decide +kernel), List.mem_of_getElem? (i := 1002) (by decide +kernel), List.mem_of_getElem? (i := 1003) (by decide +kernel)⟩
theorem lw_p72 : lw_okq (⟨"UnibusMachineModel", "small", "(I)V"⟩, 28) := ⟨⟨by decide +kernel, by decide +kernel⟩, List.mem_of_getElem? (i := 726) (by decide +kernel), List.mem_of_getElem? (i := 1006) (by decide +kernel), List.mem_of_getElem? (i := 1007) (by decide +kernel)⟩
theorem lw_p73 : lw_okq (⟨"UnibusMachineModel", "special", "(I)V"⟩, 28) := ⟨⟨by decide +kernel, by decide +kernel⟩, List.mem_of_getElem? (i := 726) (by decide +kernel), List.mem_of_getElem? (i := 1010) (by decide +kernel), List.mem_of_getElem? (i := 1011) (by decide +kernel)⟩
theorem lw_p74 : lw_okq (⟨"UnibusMachineModel", "comeBack", "()V"⟩, 28) := ⟨⟨by decide +kernel, by decide +kernel⟩, List.mem_of_getElem? (i := 726) (by decide +kernel), List.mem_of_getElem? (i := 1014) (by decide +kernel), List.mem_of_getElem? (i := 1015) (by decide +kernel)⟩
theorem lw_p75 : lw_okq (⟨"UnibusMachineModel", "reset", "()V"⟩, 28) := ⟨⟨by decide +kernel, by decide +kernel⟩, List.mem_of_getElem? (i := 726) (by decide +kernel), List.mem_of_getElem? (i := 1018) (by decide +kernel), List.mem_of_getElem? (i := 1019) (by decide +kernel)⟩
theorem lw_p76 : lw_okq (⟨"UnibusMachineModel", "swap", "(I)V"⟩, 28) := ⟨⟨by decide +kernel, by decide +kernel⟩, List.mem_of_getElem? (i := 726) (by decide +kernel), List.mem_of_getElem? (i := 1022) (by decide +kernel), List.mem_of_getElem? (i := 1023) (by decide +kernel)⟩
theorem lw_p77 : lw_okq (⟨"UnibusMachineModel", "extended", "(I)V"⟩, 28) := ⟨⟨by decide +kernel, by decide +kernel⟩, List.mem_of_getElem? (i := 726) (by decide +kernel), List.mem_of_getElem? (i := 1026) (by decide +kernel), List.mem_of_getElem? (i := 1027) (by decide +kernel)⟩
theorem lw_p78 : lw_okq (⟨"UnibusMachineModel", "multiply", "(II)V"⟩, 28) := ⟨⟨by decide +kernel, by decide +kernel⟩, List.mem_of_getElem? (i := 726) (by decide +kernel), List.mem_of_getElem? (i := 1030) (by decide +kernel), List.mem_of_getElem? (i := 1031) (by decide +kernel)⟩
theorem lw_p79 : lw_okq (⟨"UnibusMachineModel", "two", "(II)V"⟩, 28) := ⟨⟨by decide +kernel, by decide +kernel⟩, List.mem_of_getElem? (i := 726) (by decide +kernel), List.mem_of_getElem? (i := 1034) (by decide +kernel), List.mem_of_getElem? (i := 1035) (by decide +kernel)⟩
def lw_privs_5 : List (MethodName × Nat) := [(⟨"UnibusMachineModel", "show", "(IZ)V"⟩, 28), (⟨"UnibusMachineModel", "setFlags", "(ZZZZ)V"⟩, 28), (⟨"UnibusMachineModel", "fromBefore", "(I)V"⟩, 28), (⟨"UnibusMachineModel", "push", "(I)V"⟩, 28), (⟨"UnibusMachineModel", "toBefore", "(I)V"⟩, 28), (⟨"UnibusMachineModel", "pop", "()I"⟩, 28), (⟨"UnibusMachineModel", "signs", "(I)V"⟩, 28), (⟨"UnibusMachineModel", "call", "(I)V"⟩, 28), (⟨"UnibusMachineModel", "small", "(I)V"⟩, 28), (⟨"UnibusMachineModel", "special", "(I)V"⟩, 28), (⟨"UnibusMachineModel", "comeBack", "()V"⟩, 28), (⟨"UnibusMachineModel", "reset", "()V"⟩, 28), (⟨"UnibusMachineModel", "swap", "(I)V"⟩, 28), (⟨"UnibusMachineModel", "extended", "(I)V"⟩, 28), (⟨"UnibusMachineModel", "multiply", "(II)V"⟩, 28), (⟨"UnibusMachineModel", "two", "(II)V"⟩, 28)]
theorem lw_r5 : ∀ q ∈ lw_privs_5, lw_okq q := List.forall_mem_cons.mpr ⟨lw_p64, List.forall_mem_cons.mpr ⟨lw_p65, List.forall_mem_cons.mpr ⟨lw_p66, List.forall_mem_cons.mpr ⟨lw_p67, List.forall_mem_cons.mpr ⟨lw_p68, List.forall_mem_cons.mpr ⟨lw_p69, List.forall_mem_cons.mpr ⟨lw_p70, List.forall_mem_cons.mpr ⟨lw_p71, List.forall_mem_cons.mpr ⟨lw_p72, List.forall_mem_cons.mpr ⟨lw_p73, List.forall_mem_cons.mpr ⟨lw_p74, List.forall_mem_cons.mpr ⟨lw_p75, List.forall_mem_cons.mpr ⟨lw_p76, List.forall_mem_cons.mpr ⟨lw_p77, List.forall_mem_cons.mpr ⟨lw_p78, List.forall_mem_cons.mpr ⟨lw_p79, fun _ h => absurd h List.not_mem_nil⟩⟩⟩⟩⟩⟩⟩⟩⟩⟩⟩⟩⟩⟩⟩⟩
theorem lw_p80 : lw_okq (⟨"UnibusMachineModel", "trap", "(I)V"⟩, 28) := ⟨⟨by decide +kernel, by decide +kernel⟩, List.mem_of_getElem? (i := 726) (by decide +kernel), List.mem_of_getElem? (i := 1038) (by decide +kernel), List.mem_of_getElem? (i := 1039) (by decide +kernel)⟩
theorem lw_p81 : lw_okq (⟨"UnibusMachineModel", "goOn", "()V"⟩, 28) := ⟨⟨by decide +kernel, by decide +kernel⟩, List.mem_of_getElem? (i := 726) (by decide +kernel), List.mem_of_getElem? (i := 1042) (by decide +kernel), List.mem_of_getElem? (i := 1043) (by decide +kernel)⟩
theorem lw_p82 : lw_okq (⟨"UnibusMachineModel", "finish", "(I)V"⟩, 28) := ⟨⟨by decide +kernel, by decide +kernel⟩, List.mem_of_getElem? (i := 726) (by decide +kernel), List.mem_of_getElem? (i := 1046) (by decide +kernel), List.mem_of_getElem? (i := 1047) (by decide +kernel)⟩
theorem lw_p83 : lw_okq (⟨"UnibusMachineModel", "move", "()V"⟩, 28) := ⟨⟨by decide +kernel, by decide +kernel⟩, List.mem_of_getElem? (i := 726) (by decide +kernel), List.mem_of_getElem? (i := 1050) (by decide +kernel), List.mem_of_getElem? (i := 1051) (by decide +kernel)⟩
def lw_privs_6 : List (MethodName × Nat) := [(⟨"UnibusMachineModel", "trap", "(I)V"⟩, 28), (⟨"UnibusMachineModel", "goOn", "()V"⟩, 28), (⟨"UnibusMachineModel", "finish", "(I)V"⟩, 28), (⟨"UnibusMachineModel", "move", "()V"⟩, 28)]
theorem lw_r6 : ∀ q ∈ lw_privs_6, lw_okq q := List.forall_mem_cons.mpr ⟨lw_p80, List.forall_mem_cons.mpr ⟨lw_p81, List.forall_mem_cons.mpr ⟨lw_p82, List.forall_mem_cons.mpr ⟨lw_p83, fun _ h => absurd h List.not_mem_nil⟩⟩⟩⟩
def lw_privs : List (MethodName × Nat) := lw_privs_1 ++ (lw_privs_2 ++ (lw_privs_3 ++ (lw_privs_4 ++ (lw_privs_5 ++ (lw_privs_6)))))
def lw_tbl : List Cond := k2_sels lw_privs ++ tables_1
theorem lw_privs_ok : ∀ q ∈ lw_privs, lw_okq q := by
  show ∀ q ∈ lw_privs_1 ++ (lw_privs_2 ++ (lw_privs_3 ++ (lw_privs_4 ++ (lw_privs_5 ++ (lw_privs_6))))), lw_okq q
  exact List.forall_mem_append.mpr ⟨lw_r1, List.forall_mem_append.mpr ⟨lw_r2, List.forall_mem_append.mpr ⟨lw_r3, List.forall_mem_append.mpr ⟨lw_r4, List.forall_mem_append.mpr ⟨lw_r5, lw_r6⟩⟩⟩⟩⟩
-- ===== end of PART A; then your names; then what follows =====
end
section
/-! ===== BEGIN words of one list among another's, by their places ===== -/
theorem goodIn_r {big : List Cond} (ws : List Cond) (ps : List Nat) (hp : ws = ps.filterMap (fun i => big[i]?)) (h : ws.all goodWord = true) : GoodIn big ws := by
  intro w hw
  have h1 := List.all_eq_true.mp h w hw
  rw [hp] at hw
  obtain ⟨i, -, hi⟩ := List.mem_filterMap.mp hw
  have hm : w ∈ big := by first | exact List.mem_of_getElem? hi | exact List.getElem?_mem hi
  exact ⟨hm, good_of_word h1⟩
theorem goodIn_app {big a b : List Cond} (ha : GoodIn big a) (hb : GoodIn big b) : GoodIn big (a ++ b) := fun w h => (List.mem_append.mp h).elim (ha w) (hb w)
theorem goodIn_ca {big a b : List Cond} {c : Cond} (ha : GoodIn big (c :: a)) (hb : GoodIn big b) : GoodIn big (c :: (a ++ b)) := fun w h => (List.mem_cons.mp h).elim (fun e => ha w (List.mem_cons.mpr (Or.inl e))) (fun h => (List.mem_append.mp h).elim (fun h => ha w (List.mem_cons.mpr (Or.inr h))) (hb w))
theorem goodIn_sub {big ws : List Cond} (hm : ∀ w ∈ ws, w ∈ big) (h : ws.all goodWord = true) : GoodIn big ws := fun w hw => ⟨hm w hw, good_of_word (List.all_eq_true.mp h w hw)⟩
/-! ===== END ===== -/

/-! ===== BEGIN exceptions that leave a method, and their catching by the caller (launches without stack traces) ===== -/
section VXA
/-! The laws vx_back, vx_callV, vx_callS, vx_callSW, vx_throw0, vx_throwS follow proofs of the library, with one case more: JvmDerived/Free/Laws.lean (Back.of_free), Shelf42/LK1.lean (callV, callS), Shelf/KitTraced.lean (throwNew0V, throwNewS). -/
/-- where a method has thrown q: the class by its name, the cell, what was written, the world -/
def vx_T (XC : String → State → State → Prop) (st : State) (q : Addr) (t : State) (mc ms : Nat) (free : Addr → Prop) : Prop :=
  ∃ (E : String) (ce : Cell) (L : List Loc), XC E st t ∧ t.heap[q]? = some ce ∧ ce.vm = .none ∧ st.vm.findClass E = some ce.cls ∧ st.WarmedH t.vm ∧ st.sameButNew ({ t with vm := st.vm } : State) L mc ms ∧ ∀ z ∈ L, free z.base
def vx_Q (Qc : Array Value → State → Outcome → State → Prop) (XC : String → State → State → Prop) (mc ms : Nat) (free : Addr → Prop) : Array Value → State → Outcome → State → Prop := fun a st o t =>
  (Qc a st o t ∧ ∃ L, FrameEnd st o t L mc ms ∧ ∀ q ∈ L, free q.base) ∨ ∃ q, o = .threw q ∧ vx_T XC st q t mc ms free
/-- a callee that returns or throws -/
def vx_Met (l : Launch) (y : MethodName) (ws : List Cond) (rm : Room) (Pc : Array Value → State → Prop) (Qc : Array Value → State → Outcome → State → Prop) (XC : String → State → State → Prop) (mc ms : Nat) (free : Addr → Prop) : Prop :=
  MetFree l y (headSpec ws rm) Pc (fun _ _ _ _ _ => True) (vx_Q Qc XC mc ms free)
def vx_Post (XC : String → State → State → Prop) (mc ms : Nat) (free : Addr → Prop) : Pt → Array Value → Addr → Pt → Prop := fun A a q B =>
  ∃ (g : JFrame) (mk : MethodId) (t : State) (L : List Loc) (E : String) (ce : Cell), B.U.heap = t.heap ∧ B.U.vm = t.vm ∧ XC E (A.U.calling g mk a) t ∧ t.heap[q]? = some ce ∧ ce.vm = .none ∧ A.U.vm.findClass E = some ce.cls ∧ B.locs = A.locs ++ L ∧ (∀ z ∈ L, free z.base) ∧ B.cells = A.cells + mc ∧ B.slots = A.slots + ms
def vx_Back (l : Launch) (R : Room) (p : Program) (e : Env) (below : List Frame) (s : State) (sargs : Array Value) (y : MethodName) (len W9 : Nat)
    (Pre : Pt → Array Value → Prop) (Post : Pt → Array Value → Option Value → Pt → Prop) (PostX : Pt → Array Value → Addr → Pt → Prop) : Prop :=
  ∀ (m : MethodId) (meth : Method) (c : Code) (A : Pt) (g : JFrame) (ig : Instr) (mk : MethodId) (a : Array Value),
    Stand p l e R s m sargs below meth c A.U A.locs A.cells A.slots → g.method = m → g.locals.size = c.maxLocals → decode c.code g.pc = .ok (ig, len) →
    2 * g.monitorRoom + (g.stack.map fun v => v.category).sum ≤ W9 → A.U.methodNamed? y = some mk → Pre A a →
    (∃ (v : Option Value) (B : Pt), Stand p l e R s m sargs below meth c B.U B.locs B.cells B.slots ∧ Post A a v B ∧
      Steps p.tables e below (doInvoke e (A.U.setTop g) [] mk a).1 (B.U.setTop { g with pc := g.pc + len, stack := v.toList ++ g.stack })) ∨
    (∃ (q : Addr) (B : Pt), Stand p l e R s m sargs below meth c B.U B.locs B.cells B.slots ∧ PostX A a q B ∧
      Steps p.tables e below (doInvoke e (A.U.setTop g) [] mk a).1 ((B.U.setTop g).pushFrame (.throwing q)))
section Payer
variable {l : Launch} {R : Room} {p : Program} {e : Env} {below : List Frame} {s : State} {sargs : Array Value} {y : MethodName} {len W9 : Nat}
theorem vx_back {ws : List Cond} {rm : Room} {Pc : Array Value → State → Prop} {Qc : Array Value → State → Outcome → State → Prop} {XC : String → State → State → Prop} {mc ms : Nat} {free : Addr → Prop} {bytes : ByteArray} {maxL : Nat} {ret : Option FieldType}
    (hM : vx_Met l y ws rm Pc Qc XC mc ms free) (hblind : FrameBlind Pc) (hrc : rm.cells = mc) (hrs : rm.slots = ms)
    (hframes : rm.frames + 1 ≤ R.frames) (hlocals : W9 + (maxL + 11) + rm.locals ≤ R.locals)
    (hws : ∀ w ∈ ws, ∀ a' U, s.WarmedH U.vm → w.before a' U = true) (hcode : Cond.code y bytes maxL ret ∈ ws) (hinit : ∀ a' U, s.WarmedH U.vm → (Cond.initialized y.cls).before a' U = true) :
    vx_Back l R p e below s sargs y len W9 (PreOf R mc ms Pc) (PostOf Qc mc ms free) (vx_Post XC mc ms free) := by
  intro m meth c A g ig mk a X hg hsize hdg hW hn hp
  have h1 : (headSpec ws rm).pre.before a A.U = true := atoms_intro fun w hw => hws w hw _ _ X.warmed
  have h2 : (Cond.code y bytes maxL ret).before a A.U = true := hws _ hcode _ _ X.warmed
  have h3 : (Cond.initialized y.cls).before a A.U = true := hinit _ _ X.warmed
  have h4 : A.cells + (headSpec ws rm).room.cells ≤ R.cells := by rw [show (headSpec ws rm).room.cells = mc from hrc]; exact hp.1
  have h5 : A.slots + (headSpec ws rm).room.slots ≤ R.slots := by rw [show (headSpec ws rm).room.slots = ms from hrs]; exact hp.2.1
  have hPc : Pc a (A.U.calling g mk a) := hblind _ _ _ _ hp.2.2
  obtain ⟨U, Ls, c0, s0⟩ := A
  dsimp only [Pt.U, Pt.locs, Pt.cells, Pt.slots] at h1 h2 h3 h4 h5 X hn hPc ⊢
  obtain ⟨methY, cY, hmY, hcY, -, hlY, -, -, -, -⟩ := Cond.code_spec hn h2
  obtain ⟨kY, hkY, -⟩ := className_of_methodNamed hn
  have hinitY : kY.init = .initialized := Cond.initialized_spec (findClass_of_methodNamed hn) hkY h3
  have h : At U g.method c below := by rw [hg]; exact X.here
  have hlocals9 : W9 + (maxL + 11) + (headSpec ws rm).room.locals ≤ R.locals := hlocals
  have happ : (headSpec ws rm).appliesLoose y e.platform (U.calling g mk a) = true :=
    Spec.appliesLoose_calling (g := g) h hdg hn hkY hinitY
      (X.room_calling (g := g) (R' := (headSpec ws rm).room) hsize hmY hcY hframes (by rw [hlY]; omega) h4 h5) h1
  obtain ⟨mid, hmid⟩ := h.above
  have hfr : (U.setTop g).frames = (.java g :: mid) ++ below := by rw [State.frames_setTop' g h.top, hmid]; rfl
  obtain ⟨o, s₂, hsteps, -, hend, hq⟩ := Steps.callFree hM p X.admits X.cas X.clock (acts := []) hfr happ hPc trivial
  have hq' : vx_Q Qc XC mc ms free a (U.calling g mk a) o s₂ := hq
  rw [State.frames_setTop' g h.top] at hend
  obtain ⟨g₀, hg0⟩ := Option.isSome_iff_exists.mp h.top
  obtain ⟨r, hr⟩ := State.topJava?_eq_some.mp hg0
  have hr' : (({ U with heap := s₂.heap, slotsUsed := s₂.slotsUsed } : State).setVm s₂.vm).frames = .java g₀ :: r := hr
  rcases hq' with ⟨hqc, L, hfe, hL⟩ | ⟨q, rfl, E, ce, L, hx, hce, hcv, hcl, hW₂, hsm, hL⟩
  · obtain ⟨⟨v, rfl⟩, hW₂, e2, q2, q3, q4, q5, q6⟩ := id hfe
    have e3 : s₂ = ({ (U.calling g mk a).setFrames s₂.frames with heap := s₂.heap, slotsUsed := s₂.slotsUsed } : State).setVm s₂.vm := by
      have : s₂ = ({ s₂ with vm := (U.calling g mk a).vm } : State).setVm s₂.vm := rfl
      rw [e2] at this
      exact this
    obtain ⟨c₂, i₂, len₂, hc₂, hd₂, hf₂⟩ := hend
    have hW' : U.WarmedH s₂.vm := hW₂
    have hcc : c₂ = c := by
      have h1 : s₂.code? g.method = U.code? g.method := by
        rw [State.code?_eq, State.code?_eq, hW'.alike.method?]
      exact Option.some.inj (hc₂.symm.trans (h1.trans h.code))
    subst hcc
    have hlen : len₂ = len := by rw [hdg] at hd₂; cases hd₂; rfl
    subst hlen
    have hs₂ : s₂ = (({ U with heap := s₂.heap, slotsUsed := s₂.slotsUsed } : State).setVm s₂.vm).setTop { g with pc := g.pc + len₂, stack := v.toList ++ g.stack } := by
      refine e3.trans ?_
      rw [hf₂, State.calling_eq h.top, State.setFrames_setFrames, State.setTop_of_frames _ hr', hr]
      rfl
    have hsame : U.sameButNew ({ U with heap := s₂.heap, slotsUsed := s₂.slotsUsed } : State) L mc ms := by
      refine ⟨?_, q2, q3, q4, q5, q6⟩
      obtain ⟨t, ht, -⟩ := State.frames_cons hr
      show ({ U with heap := s₂.heap, slotsUsed := s₂.slotsUsed } : State) = { U.setFrames U.frames with heap := s₂.heap, slotsUsed := s₂.slotsUsed }
      rw [State.setFrames_self ht]
    subst hg
    refine Or.inl ⟨v, ⟨(({ U with heap := s₂.heap, slotsUsed := s₂.slotsUsed } : State).setVm s₂.vm), Ls ++ L, c0 + mc, s0 + ms⟩,
      ⟨X.admits, X.cas, X.clock, X.frames, X.room, X.hears, X.method, X.code, (X.here.setHeapUsed s₂.heap s₂.slotsUsed).setVm hW'.alike, X.tail, State.WarmedH.trans X.warmed hW', X.limits, X.bytes, X.same.trans (hsame.setVm s.vm)⟩,
      ⟨g, mk, s₂, L, rfl, rfl, hqc, rfl, hL, rfl, rfl⟩, ?_⟩
    show Steps p.tables e below _ ((({ U with heap := s₂.heap, slotsUsed := s₂.slotsUsed } : State).setVm s₂.vm).setTop { g with pc := g.pc + len₂, stack := v.toList ++ g.stack })
    rw [← hs₂]
    exact hsteps
  · obtain ⟨e2, q2, q3, q4, q5, q6⟩ := id hsm
    have e3 : s₂ = ({ (U.calling g mk a).setFrames s₂.frames with heap := s₂.heap, slotsUsed := s₂.slotsUsed } : State).setVm s₂.vm := by
      have : s₂ = ({ s₂ with vm := (U.calling g mk a).vm } : State).setVm s₂.vm := rfl
      rw [e2] at this
      exact this
    have hf₂ : s₂.frames = .throwing q :: .java g :: U.frames.tail := hend
    have hW' : U.WarmedH s₂.vm := hW₂
    have hs₂ : s₂ = ((({ U with heap := s₂.heap, slotsUsed := s₂.slotsUsed } : State).setVm s₂.vm).setTop g).pushFrame (.throwing q) := by
      refine e3.trans ?_
      rw [hf₂, State.calling_eq h.top, State.setFrames_setFrames, State.pushFrame, State.frames_setTop _ hr', State.setTop_of_frames _ hr', State.setFrames_setFrames, hr]
      rfl
    have hsame : U.sameButNew ({ U with heap := s₂.heap, slotsUsed := s₂.slotsUsed } : State) L mc ms := by
      refine ⟨?_, q2, q3, q4, q5, q6⟩
      obtain ⟨t, ht, -⟩ := State.frames_cons hr
      show ({ U with heap := s₂.heap, slotsUsed := s₂.slotsUsed } : State) = { U.setFrames U.frames with heap := s₂.heap, slotsUsed := s₂.slotsUsed }
      rw [State.setFrames_self ht]
    subst hg
    refine Or.inr ⟨q, ⟨(({ U with heap := s₂.heap, slotsUsed := s₂.slotsUsed } : State).setVm s₂.vm), Ls ++ L, c0 + mc, s0 + ms⟩,
      ⟨X.admits, X.cas, X.clock, X.frames, X.room, X.hears, X.method, X.code, (X.here.setHeapUsed s₂.heap s₂.slotsUsed).setVm hW'.alike, X.tail, State.WarmedH.trans X.warmed hW', X.limits, X.bytes, X.same.trans (hsame.setVm s.vm)⟩,
      ⟨g, mk, s₂, L, E, ce, rfl, rfl, hx, hce, hcv, hcl, rfl, hL, rfl, rfl⟩, ?_⟩
    show Steps p.tables e below _ (((({ U with heap := s₂.heap, slotsUsed := s₂.slotsUsed } : State).setVm s₂.vm).setTop g).pushFrame (.throwing q))
    rw [← hs₂]
    exact hsteps
end Payer
section Calls
variable {p : Program} {l : Launch} {e : Env} {R : Room} {s : State} {m : MethodId} {args : Array Value} {below : List Frame} {meth : Method} {c : Code} {T : State} {locs : List Loc} {cells slots : Nat}
theorem vx_callV (X : Stand p l e R s m args below meth c T locs cells slots) (hexec : p.tables.exec = Jvm.exec) {own C : String} {index : Nat} {y : MethodName} {bytes : ByteArray} {maxL : Nat} {ret : Option FieldType}
    (hown : s.vm.findClass own = some m.cls) (hlink : (Cond.methodLink own index y).before args s = true) (hinst : (Cond.instanceMethod y).before args s = true) (hsel : (Cond.selects C y y).before args s = true)
    (hcode : (Cond.code y bytes maxL ret).before args s = true) (hy : y.cls ≠ "java/lang/invoke/MethodHandle" ∧ y.cls ≠ "java/lang/invoke/VarHandle")
    {W9 : Nat} {Pre : Pt → Array Value → Prop} {Post : Pt → Array Value → Option Value → Pt → Prop} {PostX : Pt → Array Value → Addr → Pt → Prop} (hK : vx_Back l R p e below s args y 3 W9 Pre Post PostX)
    {b : Addr} {cellB : Cell} (hcell : T.heap[b]? = some cellB) (hobj : cellB.vm.isStatics = false) (hcls : s.vm.findClass C = some cellB.cls)
    {g : JFrame} (hg : g.method = m) (hsize : g.locals.size = c.maxLocals) {argsL rest : List Value} (hlen : ∀ sig, parseMethodDescriptor y.desc = some sig → argsL.length = sig.parameters.length)
    (hstack : g.stack = argsL.reverse ++ .ref b :: rest) (hW : 2 * g.monitorRoom + (rest.map fun v => v.category).sum ≤ W9) (hdg : decode c.code g.pc = .ok (.invokevirtual index, 3))
    (hpre : ∀ vm₁, s.WarmedH vm₁ → Pre ⟨T.setVm vm₁, locs, cells, slots⟩ (Value.ref b :: argsL).toArray) :
    (∃ (v : Option Value) (vm₁ : Vm) (B : Pt), s.WarmedH vm₁ ∧ Stand p l e R s m args below meth c B.U B.locs B.cells B.slots ∧ Post ⟨T.setVm vm₁, locs, cells, slots⟩ (Value.ref b :: argsL).toArray v B ∧
      ∀ target, Steps p.tables e below (B.U.setTop { g with pc := g.pc + 3, stack := v.toList ++ rest }) target → Steps p.tables e below (T.setTop g) target) ∨
    (∃ (q : Addr) (vm₁ : Vm) (B : Pt), s.WarmedH vm₁ ∧ Stand p l e R s m args below meth c B.U B.locs B.cells B.slots ∧ PostX ⟨T.setVm vm₁, locs, cells, slots⟩ (Value.ref b :: argsL).toArray q B ∧
      Steps p.tables e below (T.setTop g) ((B.U.setTop { g with stack := rest }).pushFrame (.throwing q))) := by
  obtain ⟨mk, methM, hnamed, hmethM, hstM, habM⟩ := Cond.instanceMethod_spec hinst
  obtain ⟨methM', cM, hmethM', -, -, -, -, -, -, hsigM⟩ := Cond.code_spec hnamed hcode
  cases hmethM.symm.trans hmethM'
  obtain ⟨c2, r2, m2, q1, q2, q3, q4, kP, hkP, hkPi⟩ := Cond.selects_spec hsel
  cases hcls.symm.trans q1
  cases (State.methodFound?_of_named hnamed hy).symm.trans q2
  cases hnamed.symm.trans q3
  have hselP : selectMethod e.platform s.vm cellB.cls mk = .method mk := by rw [Launch.admits_selectMethod X.admits]; exact q4
  obtain ⟨vm₁, X₁, hstep₁⟩ := X.invokevirtual hexec hown hlink hnamed hmethM hstM hkP hkPi hy (a := b) (cell := cellB) hcell
    (fun z h => by rw [h] at hobj; cases hobj) hselP hmethM habM hkP hkPi (g := g) hg (argsL := argsL) (rest := rest) (hlen _ hsigM) hstack hdg
  rcases hK m meth c ⟨T.setVm vm₁, locs, cells, slots⟩ { g with stack := rest } (.invokevirtual index) mk (Value.ref b :: argsL).toArray X₁ hg hsize hdg hW (X₁.named hnamed) (hpre vm₁ X₁.warmed) with ⟨v, B, X', hpost, hsteps⟩ | ⟨q, B, X', hpost, hsteps⟩
  · exact Or.inl ⟨v, vm₁, B, X₁.warmed, X', hpost, fun target h => hstep₁ _ fun acts => by rw [doInvoke_state]; exact hsteps.trans h⟩
  · exact Or.inr ⟨q, vm₁, B, X₁.warmed, X', hpost, hstep₁ _ fun acts => by rw [doInvoke_state]; exact hsteps⟩
theorem vx_callS (X : Stand p l e R s m args below meth c T locs cells slots) (hexec : p.tables.exec = Jvm.exec) {own : String} {index : Nat} {y : MethodName} {bytes : ByteArray} {maxL : Nat} {ret : Option FieldType}
    (hown : s.vm.findClass own = some m.cls) (hlink : (Cond.methodLink own index y).before args s = true) (hstat : (Cond.static y).before args s = true) (hinit : (Cond.initialized y.cls).before args s = true)
    (hcode : (Cond.code y bytes maxL ret).before args s = true) (hy : y.cls ≠ "java/lang/invoke/MethodHandle" ∧ y.cls ≠ "java/lang/invoke/VarHandle")
    {W9 : Nat} {Pre : Pt → Array Value → Prop} {Post : Pt → Array Value → Option Value → Pt → Prop} {PostX : Pt → Array Value → Addr → Pt → Prop} (hK : vx_Back l R p e below s args y 3 W9 Pre Post PostX)
    {g : JFrame} (hg : g.method = m) (hsize : g.locals.size = c.maxLocals) {argsL rest : List Value} (hlen : ∀ sig, parseMethodDescriptor y.desc = some sig → argsL.length = sig.parameters.length)
    (hstack : g.stack = argsL.reverse ++ rest) (hW : 2 * g.monitorRoom + (rest.map fun v => v.category).sum ≤ W9) (hdg : decode c.code g.pc = .ok (.invokestatic index, 3))
    (hpre : ∀ vm₁, s.WarmedH vm₁ → Pre ⟨T.setVm vm₁, locs, cells, slots⟩ argsL.toArray) :
    (∃ (v : Option Value) (vm₁ : Vm) (B : Pt), s.WarmedH vm₁ ∧ Stand p l e R s m args below meth c B.U B.locs B.cells B.slots ∧ Post ⟨T.setVm vm₁, locs, cells, slots⟩ argsL.toArray v B ∧
      ∀ target, Steps p.tables e below (B.U.setTop { g with pc := g.pc + 3, stack := v.toList ++ rest }) target → Steps p.tables e below (T.setTop g) target) ∨
    (∃ (q : Addr) (vm₁ : Vm) (B : Pt), s.WarmedH vm₁ ∧ Stand p l e R s m args below meth c B.U B.locs B.cells B.slots ∧ PostX ⟨T.setVm vm₁, locs, cells, slots⟩ argsL.toArray q B ∧
      Steps p.tables e below (T.setTop g) ((B.U.setTop { g with stack := rest }).pushFrame (.throwing q))) := by
  obtain ⟨mk, hnamed⟩ := Cond.code_named hcode
  obtain ⟨methM, cM, hmethM, -, -, -, -, -, -, hsigM⟩ := Cond.code_spec hnamed hcode
  have hstatic : methM.isStatic = true := Cond.static_spec hnamed hmethM hstat
  obtain ⟨kP, hkP, -⟩ := className_of_methodNamed hnamed
  have hinitP : kP.init = .initialized := Cond.initialized_spec (findClass_of_methodNamed hnamed) hkP hinit
  obtain ⟨vm₁, X₁, hstep₁⟩ := X.invokestatic hexec hown hlink hnamed hmethM hstatic hkP hinitP hy (g := g) hg (argsL := argsL) (rest := rest) (hlen _ hsigM) hstack hdg
  rcases hK m meth c ⟨T.setVm vm₁, locs, cells, slots⟩ { g with stack := rest } (.invokestatic index) mk argsL.toArray X₁ hg hsize hdg hW (X₁.named hnamed) (hpre vm₁ X₁.warmed) with ⟨v, B, X', hpost, hsteps⟩ | ⟨q, B, X', hpost, hsteps⟩
  · exact Or.inl ⟨v, vm₁, B, X₁.warmed, X', hpost, fun target h => hstep₁ _ fun acts => by rw [doInvoke_state]; exact hsteps.trans h⟩
  · exact Or.inr ⟨q, vm₁, B, X₁.warmed, X', hpost, hstep₁ _ fun acts => by rw [doInvoke_state]; exact hsteps⟩
end Calls
theorem vx_cls {s : State} {T : State} {vm₁ : Vm} {E : String} {k : ClassId} (hW : s.WarmedH vm₁) (h : (T.setVm vm₁).vm.findClass E = some k) : s.vm.findClass E = some k := by
  have h1 : vm₁.findClass E = some k := h
  rw [hW.alike.findClass] at h1
  exact h1
/-- the method's frame g, with q thrown over it -/
def vx_W (p : Program) (l : Launch) (e : Env) (R : Room) (s : State) (m : MethodId) (args : Array Value) (below : List Frame) (meth : Method) (c : Code) (H : Heap) (locs : List Loc) (cells slots : Nat) (Q : State → Prop) (g : JFrame) (q : Addr) : Prop :=
  ∀ T : State, T.heap = H → Stand p l e R s m args below meth c T locs cells slots → ∃ t, Steps p.tables e below ((T.setTop g).pushFrame (.throwing q)) t ∧ Q t
def vx_Run (p : Program) (l : Launch) (e : Env) (R : Room) (s : State) (m : MethodId) (args : Array Value) (below : List Frame) (meth : Method) (c : Code) (H : Heap) (locs : List Loc) (cells slots mc ms : Nat) (g : JFrame) (rest : List Value) (Qa : State → Outcome → State → Prop) (XC : String → State → State → Prop) (free : Addr → Prop) : Prop :=
  ∀ T : State, T.heap = H → Stand p l e R s m args below meth c T locs cells slots →
    (∃ (v : Option Value) (st₀ t T' : State) (L : List Loc), st₀.heap = H ∧ Stand p l e R s m args below meth c T' (locs ++ L) (cells + mc) (slots + ms) ∧ (∀ q ∈ L, free q.base) ∧ T'.heap = t.heap ∧ T'.vm = t.vm ∧ Qa st₀ (.returned v) t ∧
      Goes p e below T g T' { g with pc := g.pc + 3, stack := v.toList ++ rest }) ∨
    (∃ (q : Addr) (st₀ t T' : State) (L : List Loc) (E : String) (ce : Cell), st₀.heap = H ∧ Stand p l e R s m args below meth c T' (locs ++ L) (cells + mc) (slots + ms) ∧ (∀ z ∈ L, free z.base) ∧ T'.heap = t.heap ∧ T'.vm = t.vm ∧ XC E st₀ t ∧ t.heap[q]? = some ce ∧ ce.vm = .none ∧ s.vm.findClass E = some ce.cls ∧
      Steps p.tables e below (T.setTop g) ((T'.setTop { g with stack := rest }).pushFrame (.throwing q)))
def vx_X {S : Type} (px : S → Prop) (B : String → S → State → Prop) (A : Nat → Prop) : String → State → State → Prop := fun E st t => ∃ u : S, px u ∧ B E u t ∧ va_F A st t
section Runs
variable {p : Program} {l : Launch} {e : Env} {R : Room} {s : State} {m : MethodId} {args : Array Value} {below : List Frame} {meth : Method} {c : Code} {H : Heap} {locs : List Loc} {cells slots : Nat}
variable {y : MethodName} {bytes cc : ByteArray} {maxL nL mc ms n index : Nat} {ret : Option FieldType} {ws : List Cond} {rm : Room} {Pc : Array Value → State → Prop} {Qc : Array Value → State → Outcome → State → Prop} {XC : String → State → State → Prop} {free : Addr → Prop} {Ts : List Cond} {own C : String} {b : Addr} {As rest : List Value} {g : JFrame}
theorem vx_callBack (cb : CallB R s args own index y bytes maxL ret ws rm mc ms n) (hM : vx_Met l y ws rm Pc Qc XC mc ms free) (hbl : FrameBlind Pc) : vx_Back l R p e below s args y 3 8 (PreOf R mc ms Pc) (PostOf Qc mc ms free) (vx_Post XC mc ms free) := by
  obtain ⟨hrc, hrs, hfr, hlo, hws, hcw, -, hini, -⟩ := cb
  exact vx_back (bytes := bytes) (maxL := maxL) (ret := ret) hM hbl hrc hrs hfr hlo hws hcw (fun a' U hW => word_at hW (Or.inl (by first | rfl | simp [Cond.onTables, Cond.keeps, Cond.steady])) hini)
theorem vx_runV (S : CallFix p m c cc nL s args Ts own) (hM : vx_Met l y ws rm Pc Qc XC mc ms free) (cw : CallW R s args own C index y bytes maxL ret ws rm mc ms n) (hp : PreV s H C b Pc As)
    (hg : g.method = m) (hn : As.length = n) (hsize : g.locals.size = nL) (hstack : g.stack = As.reverse ++ .ref b :: rest) (hW : 2 * g.monitorRoom + (rest.map fun v => v.category).sum ≤ 8) (hdg : decode cc g.pc = .ok (.invokevirtual index, 3)) (hf : cells + mc ≤ R.cells ∧ slots + ms ≤ R.slots) :
    vx_Run p l e R s m args below meth c H locs cells slots mc ms g rest (Qc (Value.ref b :: As).toArray) XC free := by
  have hK : vx_Back l R p e below s args y 3 8 (PreOf R mc ms Pc) (PostOf Qc mc ms free) (vx_Post XC mc ms free) := vx_callBack cw.1 hM hp.1
  obtain ⟨⟨-, -, -, -, -, -, hcode, -, hy, hlen, hl⟩, hin, hse⟩ := cw
  obtain ⟨hx, hb, hml, ho, -⟩ := S
  obtain ⟨-, ⟨cellB, hcB, hoB, hclB⟩, hPc⟩ := hp
  intro T hT X
  rcases vx_callV X hx (C := C) (bytes := bytes) (maxL := maxL) (ret := ret) ho hl hin hse hcode hy hK (by rw [hT]; exact hcB) hoB hclB hg (hsize.trans hml.symm) (argsL := As) (rest := rest) (fun sig h => hn.trans (hlen sig h)) hstack hW (by rw [hb]; exact hdg)
    (fun vm₁ hW₁ => ⟨hf.1, hf.2, hPc (T.setVm vm₁) hT hW₁⟩) with ⟨v, vm₁, ⟨U', l2, c2, s2⟩, hW₁, X', ⟨g', mk, t, L, e1, e2, hq, h1, hL, h2, h3⟩, st⟩ | ⟨q, vm₁, ⟨U', l2, c2, s2⟩, hW₁, X', ⟨g', mk, t, L, E, ce, e1, e2, hq, hce, hcv, hcl, h1, hL, h2, h3⟩, st⟩
  · dsimp only [Pt.U, Pt.locs, Pt.cells, Pt.slots] at X' e1 e2 h1 h2 h3 st
    subst h1; subst h2; subst h3
    exact Or.inl ⟨v, (T.setVm vm₁).calling g' mk (Value.ref b :: As).toArray, t, U', L, hT, X', hL, e1, e2, hq, st⟩
  · dsimp only [Pt.U, Pt.locs, Pt.cells, Pt.slots] at X' e1 e2 h1 h2 h3 st hcl
    subst h1; subst h2; subst h3
    exact Or.inr ⟨q, (T.setVm vm₁).calling g' mk (Value.ref b :: As).toArray, t, U', L, E, ce, hT, X', hL, e1, e2, hq, hce, hcv, vx_cls hW₁ hcl, st⟩
theorem vx_runS (S : CallFix p m c cc nL s args Ts own) (hM : vx_Met l y ws rm Pc Qc XC mc ms free) (cw : CallB R s args own index y bytes maxL ret ws rm mc ms n ∧ (Cond.static y).before args s = true) (hp : PreS s H Pc As)
    (hg : g.method = m) (hn : As.length = n) (hsize : g.locals.size = nL) (hstack : g.stack = As.reverse ++ rest) (hW : 2 * g.monitorRoom + (rest.map fun v => v.category).sum ≤ 8) (hdg : decode cc g.pc = .ok (.invokestatic index, 3)) (hf : cells + mc ≤ R.cells ∧ slots + ms ≤ R.slots) :
    vx_Run p l e R s m args below meth c H locs cells slots mc ms g rest (Qc As.toArray) XC free := by
  have hK : vx_Back l R p e below s args y 3 8 (PreOf R mc ms Pc) (PostOf Qc mc ms free) (vx_Post XC mc ms free) := vx_callBack cw.1 hM hp.1
  obtain ⟨⟨-, -, -, -, -, -, hcode, hini, hy, hlen, hl⟩, hstt⟩ := cw
  obtain ⟨hx, hb, hml, ho, -⟩ := S
  intro T hT X
  rcases vx_callS X hx (bytes := bytes) (maxL := maxL) (ret := ret) ho hl hstt hini hcode hy hK hg (hsize.trans hml.symm) (argsL := As) (rest := rest) (fun sig h => hn.trans (hlen sig h)) hstack hW (by rw [hb]; exact hdg)
    (fun vm₁ hW₁ => ⟨hf.1, hf.2, hp.2 (T.setVm vm₁) hT hW₁⟩) with ⟨v, vm₁, ⟨U', l2, c2, s2⟩, hW₁, X', ⟨g', mk, t, L, e1, e2, hq, h1, hL, h2, h3⟩, st⟩ | ⟨q, vm₁, ⟨U', l2, c2, s2⟩, hW₁, X', ⟨g', mk, t, L, E, ce, e1, e2, hq, hce, hcv, hcl, h1, hL, h2, h3⟩, st⟩
  · dsimp only [Pt.U, Pt.locs, Pt.cells, Pt.slots] at X' e1 e2 h1 h2 h3 st
    subst h1; subst h2; subst h3
    exact Or.inl ⟨v, (T.setVm vm₁).calling g' mk As.toArray, t, U', L, hT, X', hL, e1, e2, hq, st⟩
  · dsimp only [Pt.U, Pt.locs, Pt.cells, Pt.slots] at X' e1 e2 h1 h2 h3 st hcl
    subst h1; subst h2; subst h3
    exact Or.inr ⟨q, (T.setVm vm₁).calling g' mk As.toArray, t, U', L, E, ce, hT, X', hL, e1, e2, hq, hce, hcv, vx_cls hW₁ hcl, st⟩
end Runs
section Rows
variable {p : Program} {l : Launch} {e : Env} {R : Room} {s : State} {m : MethodId} {args : Array Value} {below : List Frame} {meth : Method} {c : Code} {H : Heap} {locs : List Loc} {cells slots : Nat} {Q : State → Prop}
variable {mc ms : Nat} {free : Addr → Prop} {A0 A1 : Nat → Prop} {H0 : Heap} {a : Array Value} {pc : Nat} {ls : Array Slot} {st0 rest : List Value}
theorem vx_keep {st₀ t T' : State} {L : List Loc} (h0 : st₀.heap = H) (e1 : T'.heap = t.heap) (hS : va_S A0 H0 H locs) (hA : ∀ q, q < H.size → A1 q → A0 q) (hf : ∀ q, free q → A0 q) (hL : ∀ q ∈ L, free q.base) (hF : va_F A1 st₀ t) :
    H.size ≤ T'.heap.size ∧ (∀ q : Nat, q < H.size → ¬ A1 q → T'.heap[q]? = H[q]?) ∧ va_S A0 H0 T'.heap (locs ++ L) := by
  obtain ⟨hz, hk⟩ := hF
  rw [h0] at hz hk
  exact ⟨by rw [e1]; exact hz, fun q h1 h2 => by rw [e1]; exact hk q h1 h2,
    ⟨Nat.le_trans hS.1 (by rw [e1]; exact hz), fun q h1 h2 => by rw [e1, hk q (Nat.lt_of_lt_of_le h1 hS.1) (fun z => h2 (hA q (Nat.lt_of_lt_of_le h1 hS.1) z))]; exact hS.2.1 q h1 h2, fun q hq => by
      rcases List.mem_append.mp hq with h | h
      · exact hS.2.2 q h
      · exact hf _ (hL q h)⟩⟩
theorem vx_calli {S SX : Type} {post : Int32 → S → Prop} {px : SX → Prop} {B : S → State → Prop} {BX : String → SX → State → Prop} {AX : Nat → Prop} (hr : vx_Run p l e R s m args below meth c H locs cells slots mc ms (F0 m pc ls st0) rest (va_Qi post B A1 a) (vx_X px BX AX) free) (hS : va_S A0 H0 H locs) (hA : ∀ q, q < H.size → A1 q → A0 q) (hf : ∀ q, free q → A0 q) (hAX : ∀ q, q < H.size → AX q → A0 q)
    (kx : ∀ (E : String) (ce : Cell) (q9 : Addr) (u : SX) (t : State) (H1 : Heap) (locs1 : List Loc), t.heap = H1 → s.vm.Alike t.vm → px u → BX E u t → H.size ≤ H1.size → (∀ q : Nat, q < H.size → ¬ AX q → H1[q]? = H[q]?) → va_S A0 H0 H1 locs1 → H1[q9]? = some ce → ce.vm = .none → s.vm.findClass E = some ce.cls → vx_W p l e R s m args below meth c H1 locs1 (cells + mc) (slots + ms) Q (F0 m pc ls rest) q9)
    (kk : ∀ (r : Int32) (u : S) (t : State) (H1 : Heap) (locs1 : List Loc), t.heap = H1 → s.vm.Alike t.vm → post r u → B u t → H.size ≤ H1.size → (∀ q : Nat, q < H.size → ¬ A1 q → H1[q]? = H[q]?) → va_S A0 H0 H1 locs1 → W p l e R s m args below meth c H1 locs1 (cells + mc) (slots + ms) Q (F0 m (pc + 3) ls (.int r :: rest))) : W p l e R s m args below meth c H locs cells slots Q (F0 m pc ls st0) := by
  intro T hT X
  rcases hr T hT X with ⟨v, st₀, t, T', L, h0, X', hL, e1, e2, ⟨⟨r, u, hv, hp, hb⟩, hF⟩, st⟩ | ⟨q, st₀, t, T', L, E, ce, h0, X', hL, e1, e2, ⟨u, hp, hb, hF⟩, hce, hcv, hcl, st⟩
  · cases hv
    obtain ⟨k1, k2, k3⟩ := vx_keep h0 e1 hS hA hf hL hF
    obtain ⟨t2, a1, b1⟩ := kk r u t T'.heap (locs ++ L) e1.symm (by rw [← e2]; exact X'.warmed.alike) hp hb k1 k2 k3 T' rfl X'
    exact ⟨t2, st t2 a1, b1⟩
  · obtain ⟨k1, k2, k3⟩ := vx_keep h0 e1 hS hAX hf hL hF
    obtain ⟨t2, a1, b1⟩ := kx E ce q u t T'.heap (locs ++ L) e1.symm (by rw [← e2]; exact X'.warmed.alike) hp hb k1 k2 k3 (by rw [e1]; exact hce) hcv hcl T' rfl X'
    exact ⟨t2, st.trans a1, b1⟩
theorem vx_calll {S SX : Type} {post : Int64 → S → Prop} {px : SX → Prop} {B : S → State → Prop} {BX : String → SX → State → Prop} {AX : Nat → Prop} (hr : vx_Run p l e R s m args below meth c H locs cells slots mc ms (F0 m pc ls st0) rest (va_Ql post B A1 a) (vx_X px BX AX) free) (hS : va_S A0 H0 H locs) (hA : ∀ q, q < H.size → A1 q → A0 q) (hf : ∀ q, free q → A0 q) (hAX : ∀ q, q < H.size → AX q → A0 q)
    (kx : ∀ (E : String) (ce : Cell) (q9 : Addr) (u : SX) (t : State) (H1 : Heap) (locs1 : List Loc), t.heap = H1 → s.vm.Alike t.vm → px u → BX E u t → H.size ≤ H1.size → (∀ q : Nat, q < H.size → ¬ AX q → H1[q]? = H[q]?) → va_S A0 H0 H1 locs1 → H1[q9]? = some ce → ce.vm = .none → s.vm.findClass E = some ce.cls → vx_W p l e R s m args below meth c H1 locs1 (cells + mc) (slots + ms) Q (F0 m pc ls rest) q9)
    (kk : ∀ (r : Int64) (u : S) (t : State) (H1 : Heap) (locs1 : List Loc), t.heap = H1 → s.vm.Alike t.vm → post r u → B u t → H.size ≤ H1.size → (∀ q : Nat, q < H.size → ¬ A1 q → H1[q]? = H[q]?) → va_S A0 H0 H1 locs1 → W p l e R s m args below meth c H1 locs1 (cells + mc) (slots + ms) Q (F0 m (pc + 3) ls (.long r :: rest))) : W p l e R s m args below meth c H locs cells slots Q (F0 m pc ls st0) := by
  intro T hT X
  rcases hr T hT X with ⟨v, st₀, t, T', L, h0, X', hL, e1, e2, ⟨⟨r, u, hv, hp, hb⟩, hF⟩, st⟩ | ⟨q, st₀, t, T', L, E, ce, h0, X', hL, e1, e2, ⟨u, hp, hb, hF⟩, hce, hcv, hcl, st⟩
  · cases hv
    obtain ⟨k1, k2, k3⟩ := vx_keep h0 e1 hS hA hf hL hF
    obtain ⟨t2, a1, b1⟩ := kk r u t T'.heap (locs ++ L) e1.symm (by rw [← e2]; exact X'.warmed.alike) hp hb k1 k2 k3 T' rfl X'
    exact ⟨t2, st t2 a1, b1⟩
  · obtain ⟨k1, k2, k3⟩ := vx_keep h0 e1 hS hAX hf hL hF
    obtain ⟨t2, a1, b1⟩ := kx E ce q u t T'.heap (locs ++ L) e1.symm (by rw [← e2]; exact X'.warmed.alike) hp hb k1 k2 k3 (by rw [e1]; exact hce) hcv hcl T' rfl X'
    exact ⟨t2, st.trans a1, b1⟩
theorem vx_callf {S SX : Type} {post : UInt32 → S → Prop} {px : SX → Prop} {B : S → State → Prop} {BX : String → SX → State → Prop} {AX : Nat → Prop} (hr : vx_Run p l e R s m args below meth c H locs cells slots mc ms (F0 m pc ls st0) rest (va_Qf post B A1 a) (vx_X px BX AX) free) (hS : va_S A0 H0 H locs) (hA : ∀ q, q < H.size → A1 q → A0 q) (hf : ∀ q, free q → A0 q) (hAX : ∀ q, q < H.size → AX q → A0 q)
    (kx : ∀ (E : String) (ce : Cell) (q9 : Addr) (u : SX) (t : State) (H1 : Heap) (locs1 : List Loc), t.heap = H1 → s.vm.Alike t.vm → px u → BX E u t → H.size ≤ H1.size → (∀ q : Nat, q < H.size → ¬ AX q → H1[q]? = H[q]?) → va_S A0 H0 H1 locs1 → H1[q9]? = some ce → ce.vm = .none → s.vm.findClass E = some ce.cls → vx_W p l e R s m args below meth c H1 locs1 (cells + mc) (slots + ms) Q (F0 m pc ls rest) q9)
    (kk : ∀ (r : UInt32) (u : S) (t : State) (H1 : Heap) (locs1 : List Loc), t.heap = H1 → s.vm.Alike t.vm → post r u → B u t → H.size ≤ H1.size → (∀ q : Nat, q < H.size → ¬ A1 q → H1[q]? = H[q]?) → va_S A0 H0 H1 locs1 → W p l e R s m args below meth c H1 locs1 (cells + mc) (slots + ms) Q (F0 m (pc + 3) ls (.float r :: rest))) : W p l e R s m args below meth c H locs cells slots Q (F0 m pc ls st0) := by
  intro T hT X
  rcases hr T hT X with ⟨v, st₀, t, T', L, h0, X', hL, e1, e2, ⟨⟨r, u, hv, hp, hb⟩, hF⟩, st⟩ | ⟨q, st₀, t, T', L, E, ce, h0, X', hL, e1, e2, ⟨u, hp, hb, hF⟩, hce, hcv, hcl, st⟩
  · cases hv
    obtain ⟨k1, k2, k3⟩ := vx_keep h0 e1 hS hA hf hL hF
    obtain ⟨t2, a1, b1⟩ := kk r u t T'.heap (locs ++ L) e1.symm (by rw [← e2]; exact X'.warmed.alike) hp hb k1 k2 k3 T' rfl X'
    exact ⟨t2, st t2 a1, b1⟩
  · obtain ⟨k1, k2, k3⟩ := vx_keep h0 e1 hS hAX hf hL hF
    obtain ⟨t2, a1, b1⟩ := kx E ce q u t T'.heap (locs ++ L) e1.symm (by rw [← e2]; exact X'.warmed.alike) hp hb k1 k2 k3 (by rw [e1]; exact hce) hcv hcl T' rfl X'
    exact ⟨t2, st.trans a1, b1⟩
theorem vx_calld {S SX : Type} {post : UInt64 → S → Prop} {px : SX → Prop} {B : S → State → Prop} {BX : String → SX → State → Prop} {AX : Nat → Prop} (hr : vx_Run p l e R s m args below meth c H locs cells slots mc ms (F0 m pc ls st0) rest (va_Qd post B A1 a) (vx_X px BX AX) free) (hS : va_S A0 H0 H locs) (hA : ∀ q, q < H.size → A1 q → A0 q) (hf : ∀ q, free q → A0 q) (hAX : ∀ q, q < H.size → AX q → A0 q)
    (kx : ∀ (E : String) (ce : Cell) (q9 : Addr) (u : SX) (t : State) (H1 : Heap) (locs1 : List Loc), t.heap = H1 → s.vm.Alike t.vm → px u → BX E u t → H.size ≤ H1.size → (∀ q : Nat, q < H.size → ¬ AX q → H1[q]? = H[q]?) → va_S A0 H0 H1 locs1 → H1[q9]? = some ce → ce.vm = .none → s.vm.findClass E = some ce.cls → vx_W p l e R s m args below meth c H1 locs1 (cells + mc) (slots + ms) Q (F0 m pc ls rest) q9)
    (kk : ∀ (r : UInt64) (u : S) (t : State) (H1 : Heap) (locs1 : List Loc), t.heap = H1 → s.vm.Alike t.vm → post r u → B u t → H.size ≤ H1.size → (∀ q : Nat, q < H.size → ¬ A1 q → H1[q]? = H[q]?) → va_S A0 H0 H1 locs1 → W p l e R s m args below meth c H1 locs1 (cells + mc) (slots + ms) Q (F0 m (pc + 3) ls (.double r :: rest))) : W p l e R s m args below meth c H locs cells slots Q (F0 m pc ls st0) := by
  intro T hT X
  rcases hr T hT X with ⟨v, st₀, t, T', L, h0, X', hL, e1, e2, ⟨⟨r, u, hv, hp, hb⟩, hF⟩, st⟩ | ⟨q, st₀, t, T', L, E, ce, h0, X', hL, e1, e2, ⟨u, hp, hb, hF⟩, hce, hcv, hcl, st⟩
  · cases hv
    obtain ⟨k1, k2, k3⟩ := vx_keep h0 e1 hS hA hf hL hF
    obtain ⟨t2, a1, b1⟩ := kk r u t T'.heap (locs ++ L) e1.symm (by rw [← e2]; exact X'.warmed.alike) hp hb k1 k2 k3 T' rfl X'
    exact ⟨t2, st t2 a1, b1⟩
  · obtain ⟨k1, k2, k3⟩ := vx_keep h0 e1 hS hAX hf hL hF
    obtain ⟨t2, a1, b1⟩ := kx E ce q u t T'.heap (locs ++ L) e1.symm (by rw [← e2]; exact X'.warmed.alike) hp hb k1 k2 k3 (by rw [e1]; exact hce) hcv hcl T' rfl X'
    exact ⟨t2, st.trans a1, b1⟩
theorem vx_callv {S SX : Type} {post : S → Prop} {px : SX → Prop} {B : S → State → Prop} {BX : String → SX → State → Prop} {AX : Nat → Prop} (hr : vx_Run p l e R s m args below meth c H locs cells slots mc ms (F0 m pc ls st0) rest (va_Qv post B A1 a) (vx_X px BX AX) free) (hS : va_S A0 H0 H locs) (hA : ∀ q, q < H.size → A1 q → A0 q) (hf : ∀ q, free q → A0 q) (hAX : ∀ q, q < H.size → AX q → A0 q)
    (kx : ∀ (E : String) (ce : Cell) (q9 : Addr) (u : SX) (t : State) (H1 : Heap) (locs1 : List Loc), t.heap = H1 → s.vm.Alike t.vm → px u → BX E u t → H.size ≤ H1.size → (∀ q : Nat, q < H.size → ¬ AX q → H1[q]? = H[q]?) → va_S A0 H0 H1 locs1 → H1[q9]? = some ce → ce.vm = .none → s.vm.findClass E = some ce.cls → vx_W p l e R s m args below meth c H1 locs1 (cells + mc) (slots + ms) Q (F0 m pc ls rest) q9)
    (kk : ∀ (u : S) (t : State) (H1 : Heap) (locs1 : List Loc), t.heap = H1 → s.vm.Alike t.vm → post u → B u t → H.size ≤ H1.size → (∀ q : Nat, q < H.size → ¬ A1 q → H1[q]? = H[q]?) → va_S A0 H0 H1 locs1 → W p l e R s m args below meth c H1 locs1 (cells + mc) (slots + ms) Q (F0 m (pc + 3) ls (rest))) : W p l e R s m args below meth c H locs cells slots Q (F0 m pc ls st0) := by
  intro T hT X
  rcases hr T hT X with ⟨v, st₀, t, T', L, h0, X', hL, e1, e2, ⟨⟨u, hv, hp, hb⟩, hF⟩, st⟩ | ⟨q, st₀, t, T', L, E, ce, h0, X', hL, e1, e2, ⟨u, hp, hb, hF⟩, hce, hcv, hcl, st⟩
  · cases hv
    obtain ⟨k1, k2, k3⟩ := vx_keep h0 e1 hS hA hf hL hF
    obtain ⟨t2, a1, b1⟩ := kk u t T'.heap (locs ++ L) e1.symm (by rw [← e2]; exact X'.warmed.alike) hp hb k1 k2 k3 T' rfl X'
    exact ⟨t2, st t2 a1, b1⟩
  · obtain ⟨k1, k2, k3⟩ := vx_keep h0 e1 hS hAX hf hL hF
    obtain ⟨t2, a1, b1⟩ := kx E ce q u t T'.heap (locs ++ L) e1.symm (by rw [← e2]; exact X'.warmed.alike) hp hb k1 k2 k3 (by rw [e1]; exact hce) hcv hcl T' rfl X'
    exact ⟨t2, st.trans a1, b1⟩
/-- caught by the row x of this method's table; the rows ahead don't take it -/
theorem vx_catch {own name : String} {E : String} {ce : Cell} {q : Addr} (hown : s.vm.findClass own = some m.cls) (pre : List ExceptionTableEntry) (x : ExceptionTableEntry) (suf : List ExceptionTableEntry) (hsplit : c.exceptionTable.toList = pre ++ x :: suf)
    (hpass : ∀ z ∈ pre, covers z pc = false ∨ (z.catchType ≠ 0 ∧ ∃ nm : String, (Cond.classLink own z.catchType nm).before args s = true ∧ va_Nc E nm s)) (hx : covers x pc = true) (h0 : x.catchType ≠ 0)
    (hlink : (Cond.classLink own x.catchType name).before args s = true) (hcast : (Cond.castable E name).before args s = true) (hcell : H[q]? = some ce) (hv : ce.vm = .none) (hcl : s.vm.findClass E = some ce.cls)
    (kk : W p l e R s m args below meth c H locs cells slots Q (F0 m x.handlerPc ls [.ref q])) : vx_W p l e R s m args below meth c H locs cells slots Q (F0 m pc ls rest) q := by
  intro T hT X
  have hpl : e.platform.magicAccessors = ({} : Platform).magicAccessors := by rw [X.admits.platform]
  obtain ⟨c3, c4, hc3, hc4, hasg⟩ := Cond.castable_spec hcast
  cases Option.some.inj (hc3.symm.trans hcl)
  obtain ⟨c5, hc5, hcl5⟩ := Cond.classLink_spec hown hlink e.platform hpl
  cases Option.some.inj (hc4.symm.trans hc5)
  obtain ⟨vm', X', st⟩ := X.thenCaughtThrough q (g := F0 m pc ls rest) rfl (Steps.refl _) (by rw [hT]; exact hcell) (by rw [hv]; rfl) (by obtain ⟨k9, h9, -⟩ := Vm.findClass_spec hcl; exact ⟨k9, h9⟩) pre x suf hsplit
    (fun z hz => by
      rcases hpass z hz with h | ⟨hz0, nm, hl1, hn1⟩
      · exact Or.inl h
      · obtain ⟨c6, hc6, hcl6⟩ := Cond.classLink_spec hown hl1 e.platform hpl
        obtain ⟨a8, b8, h1, h2, h3⟩ := hn1
        cases Option.some.inj (h1.symm.trans hcl)
        cases Option.some.inj (h2.symm.trans hc6)
        exact Or.inr ⟨hz0, _, hcl6, h3⟩) hx (Or.inr ⟨h0, c4, hcl5, hasg⟩)
  obtain ⟨t, a1, b1⟩ := kk (T.setVm vm') hT X'
  exact ⟨t, st.trans a1, b1⟩
end Rows
section Ends
variable {p : Program} {l : Launch} {e : Env} {R : Room} {s : State} {m : MethodId} {args : Array Value} {below : List Frame} {meth : Method} {c : Code} {H : Heap} {locs : List Loc} {cells slots : Nat} {Q : State → Prop}
variable {mc ms : Nat} {free : Addr → Prop} {A0 A1 : Nat → Prop} {H0 : Heap} {a : Array Value} {ls : Array Slot} {st0 rest : List Value}
variable {Qc : Array Value → State → Outcome → State → Prop} {XC : String → State → State → Prop}
/-- what a body that may throw owes at its end -/
def vx_MQ (below : List Frame) (Qc : Array Value → State → Outcome → State → Prop) (XC : String → State → State → Prop) (a : Array Value) (s : State) (mc ms : Nat) (free : Addr → Prop) : State → Prop := fun t =>
  ∃ o, t.status = .running ∧ Ended t below o ∧ vx_Q Qc XC mc ms free a s o t
theorem vx_ret {g : JFrame} {mc ms : Nat} (k : W p l e R s m args below meth c H locs cells slots (MQ below Qc args s mc ms free) g) : W p l e R s m args below meth c H locs cells slots (vx_MQ below Qc XC args s mc ms free) g := by
  intro T hT X
  obtain ⟨t, a1, o, b1, b2, b3, b4⟩ := k T hT X
  exact ⟨t, a1, o, b1, b2, Or.inl ⟨b3, b4⟩⟩
/-- not caught here: it goes on to the caller -/
theorem vx_widen {g : JFrame} {q : Addr} {k n : Nat} (h1 : cells ≤ k) (h2 : slots ≤ n) (kk : vx_W p l e R s m args below meth c H locs k n Q g q) : vx_W p l e R s m args below meth c H locs cells slots Q g q := fun T hT X => kk T hT (stand_widen X h1 h2)
theorem vx_out {pc : Nat} {E : String} {ce : Cell} {q : Addr} {mc ms : Nat} (hout : ∀ x ∈ c.exceptionTable.toList, covers x pc = false) (hlocks : meth.locks = false) (hcell : H[q]? = some ce) (hv : ce.vm = .none) (hcl : s.vm.findClass E = some ce.cls)
    (hx : ∀ t : State, t.heap = H → s.vm.Alike t.vm → XC E s t) (hf : ∀ z ∈ locs, free z.base) (hc : cells ≤ mc) (hs : slots ≤ ms) :
    vx_W p l e R s m args below meth c H locs cells slots (vx_MQ below Qc XC args s mc ms free) (F0 m pc ls rest) q := by
  intro T hT X
  obtain ⟨st1, hrun, hend, hW, hsm⟩ := X.leaveThrown q (g := F0 m pc ls rest) rfl rfl rfl hout hlocks
  have hcell9 : (T.setFrames (.throwing q :: below)).heap[q]? = some ce := by
    show T.heap[q]? = some ce
    rw [hT]; exact hcell
  exact ⟨_, st1, .threw q, hrun, hend, Or.inr ⟨q, rfl, E, ce, locs, hx _ hT hW.alike, hcell9, hv, hcl, hW, hsm.mono hc hs, hf⟩⟩
theorem vx_frame {U : State} {k n : Nat} (h : s.sameButNew ({ U with vm := s.vm } : State) locs k n) : s.heap.size ≤ U.heap.size ∧ ∀ q : Nat, q < s.heap.size → (∀ z ∈ locs, z.base ≠ q) → U.heap[q]? = s.heap[q]? := by
  obtain ⟨-, h2, -, -, -, h6⟩ := h
  refine ⟨h2, fun q hq hz => ?_⟩
  obtain ⟨c9, e1, e2, e3, e4⟩ := h6 q _ (Array.getElem?_eq_getElem hq)
  have hs : c9.slots = (s.heap[q]).slots := Array.ext_getElem? fun i => e4 i fun hm => hz _ hm rfl
  have h9 : c9 = s.heap[q] := by
    rw [hs] at e2
    exact e2
  have e5 : U.heap[q]? = some c9 := e1
  rw [e5, h9, Array.getElem?_eq_getElem hq]
/-- the words of a throw but the four that speak of the heap -/
def vx_no (w : Cond) : Bool := decide (w ≠ .isRef (.static Bundle.tN "UNASSIGNED_STACK" Bundle.steD)) && decide (w ≠ .isRef (.static Bundle.tN "SUPPRESSED_SENTINEL" Bundle.listD)) && decide (w ≠ .laysStatic Bundle.tN "UNASSIGNED_STACK" Bundle.steD) && decide (w ≠ .laysStatic Bundle.tN "SUPPRESSED_SENTINEL" Bundle.listD)
def vx_at0 (own : String) (ic : Nat) (X : String) (names : List String) : List Cond := (Bundle.ownAtoms0 own ic X names).filter vx_no
def vx_atS (own : String) (ic : Nat) (X : String) (names : List String) : List Cond := (Bundle.ownAtoms own ic X names).filter vx_no
/-- a word that the tables alone decide, or a good one -/
def vx_ot (w : Cond) : Bool := w.onTables || goodWord w
theorem vx_ot_at {args a' : Array Value} {s U : State} {w : Cond} (hW : s.WarmedH U.vm) (hvm : s.vm = U.vm) (hg : vx_ot w = true) (h : w.before args s = true) : w.before a' U = true := by
  simp only [vx_ot, Bool.or_eq_true] at hg
  rcases hg with hg | hg
  · exact va_tabs hg hvm h
  · exact word_at hW (good_of_word hg) h
/-- a list's words: the good ones out of the method's own list, the others by premises of their own -/
theorem vx_hat {args : Array Value} {s : State} {L B : List Cond} (h1 : ∀ w ∈ L.filter goodWord, w.before args s = true) (h2 : ∀ w ∈ L.filter (fun w => !goodWord w), w ∈ B) (h3 : ∀ w ∈ B, w.before args s = true) : ∀ w ∈ L, w.before args s = true := by
  intro w hw
  by_cases g : goodWord w = true
  · exact h1 w (List.mem_filter.mpr ⟨hw, g⟩)
  · refine h3 w (h2 w (List.mem_filter.mpr ⟨hw, ?_⟩))
    show (!goodWord w) = true
    cases hgw : goodWord w
    · rfl
    · exact absurd hgw g
theorem vx_c {args : Array Value} {s : State} {w : Cond} {B : List Cond} (h : w.before args s = true) (t : ∀ w ∈ B, w.before args s = true) : ∀ w' ∈ w :: B, w'.before args s = true := fun w' h' => (List.mem_cons.mp h').elim (fun e => by rw [e]; exact h) (t w')
theorem vx_n {args : Array Value} {s : State} : ∀ w ∈ ([] : List Cond), w.before args s = true := fun _ h => nomatch h
theorem vx_own {args : Array Value} {s : State} {L : List Cond} (h1 : ∀ w ∈ L.filter vx_no, w.before args s = true)
    (hU : (Cond.isRef (.static Bundle.tN "UNASSIGNED_STACK" Bundle.steD)).before args s = true) (hN : (Cond.isRef (.static Bundle.tN "SUPPRESSED_SENTINEL" Bundle.listD)).before args s = true)
    (lU : (Cond.laysStatic Bundle.tN "UNASSIGNED_STACK" Bundle.steD).before args s = true) (lN : (Cond.laysStatic Bundle.tN "SUPPRESSED_SENTINEL" Bundle.listD).before args s = true) : ∀ w ∈ L, w.before args s = true := by
  intro w hw
  by_cases e1 : w = .isRef (.static Bundle.tN "UNASSIGNED_STACK" Bundle.steD)
  · rw [e1]; exact hU
  · by_cases e2 : w = .isRef (.static Bundle.tN "SUPPRESSED_SENTINEL" Bundle.listD)
    · rw [e2]; exact hN
    · by_cases e3 : w = .laysStatic Bundle.tN "UNASSIGNED_STACK" Bundle.steD
      · rw [e3]; exact lU
      · by_cases e4 : w = .laysStatic Bundle.tN "SUPPRESSED_SENTINEL" Bundle.listD
        · rw [e4]; exact lN
        · exact h1 w (List.mem_filter.mpr ⟨hw, by unfold vx_no; rw [decide_eq_true e1, decide_eq_true e2, decide_eq_true e3, decide_eq_true e4]; rfl⟩)
/-- where a static field lies, its class's statics cell in H -/
def vx_L (C n d : String) (A : Nat → Prop) (U : State) (H : Heap) : Prop := ∃ (c : ClassId) (k : Class) (i : Nat) (f : Field) (a : Nat) (cell : Cell), U.vm.findClass C = some c ∧ U.fieldFound? C n d = some (c, k, i, f) ∧ f.isStatic = true ∧ k.statics = some a ∧ H[a]? = some cell ∧ cell.vm.isStatics = true ∧ cell.cls = c ∧ f.slot < cell.slots.size ∧ k.staticTypes[f.slot]? = some f.type ∧ ¬ A a
theorem vx_L.moved {C n d : String} {A : Nat → Prop} {u U : State} {H : Heap} (hvm : u.vm.Alike U.vm) (h : vx_L C n d A u H) : vx_L C n d A U H := by
  obtain ⟨c, k, i, f, a, cell, h1, h2, h3, h4, h5, h6, h7, h8, h9, h10⟩ := h
  obtain ⟨k', hi', he⟩ := State.fieldFound?_setVm hvm h2
  exact ⟨c, k', i, f, a, cell, by rw [hvm.findClass]; exact h1, hi', h3, by rw [he]; exact h4, h5, h6, h7, h8, by rw [he]; exact h9, h10⟩
theorem vx_L.kept {C n d : String} {A : Nat → Prop} {U : State} {H H1 : Heap} (h : vx_L C n d A U H) (hq : ∀ a : Nat, a < H.size → ¬ A a → H1[a]? = H[a]?) : vx_L C n d A U H1 := by
  obtain ⟨c, k, i, f, a, cell, h1, h2, h3, h4, h5, h6, h7, h8, h9, h10⟩ := h
  exact ⟨c, k, i, f, a, cell, h1, h2, h3, h4, by rw [hq a (Array.getElem?_eq_some_iff.mp h5).1 h10]; exact h5, h6, h7, h8, h9, h10⟩
theorem vx_L.narrow {C n d : String} {A B : Nat → Prop} {U : State} {H : Heap} (h : vx_L C n d A U H) (hAB : ∀ q, B q → A q) : vx_L C n d B U H := by
  obtain ⟨c, k, i, f, a, cell, h1, h2, h3, h4, h5, h6, h7, h8, h9, h10⟩ := h
  exact ⟨c, k, i, f, a, cell, h1, h2, h3, h4, h5, h6, h7, h8, h9, fun z => h10 (hAB _ z)⟩
theorem vx_L.word {C n d : String} {A : Nat → Prop} {s : State} {args : Array Value} (h : vx_L C n d A s s.heap) : (Cond.laysStatic C n d).before args s = true := by
  obtain ⟨c, k, i, f, a, cell, h1, h2, h3, h4, h5, h6, h7, h8, h9, -⟩ := h
  show (Cond.laysStatic C n d).holds args s none s [] = true
  exact Cond.laysStatic_of h1 h2 h3 h4 h5 h6 h7 h8 h9
/-- .. and what it holds: null or some reference -/
def vx_Zq (C n d : String) (A : Nat → Prop) (U : State) (H : Heap) : Prop := va_Zq C n d A U H ∧ vx_L C n d A U H
theorem vx_Zq.moved {C n d : String} {A : Nat → Prop} {u U : State} {H : Heap} (hvm : u.vm.Alike U.vm) (h : vx_Zq C n d A u H) : vx_Zq C n d A U H := ⟨va_Zq.moved hvm h.1, vx_L.moved hvm h.2⟩
theorem vx_Zq.kept {C n d : String} {A : Nat → Prop} {U : State} {H H1 : Heap} (h : vx_Zq C n d A U H) (hq : ∀ a : Nat, a < H.size → ¬ A a → H1[a]? = H[a]?) : vx_Zq C n d A U H1 := ⟨va_Zq.kept h.1 hq, vx_L.kept h.2 hq⟩
theorem vx_Zq.narrow {C n d : String} {A B : Nat → Prop} {U : State} {H : Heap} (h : vx_Zq C n d A U H) (hAB : ∀ q, B q → A q) : vx_Zq C n d B U H := ⟨va_Zq.narrow h.1 hAB, vx_L.narrow h.2 hAB⟩
theorem vx_Zqof {args : Array Value} {s : State} {C n d : String} {A : Nat → Prop} (hl : (Cond.laysStatic C n d).before args s = true) (hini : (Cond.initialized C).before args s = true) (h : (Cond.isRef (.static C n d)).before args s = true) (hA : ∀ a : Nat, a < s.heap.size → ¬ A a) : vx_Zq C n d A s s.heap := by
  refine ⟨va_Zqof hl hini h hA, ?_⟩
  obtain ⟨c, k, i, f, a, cell, h1, h2, h3, h4, h5, h6, h7, h8, h9⟩ := Cond.laysStatic_spec hl
  exact ⟨c, k, i, f, a, cell, h1, h2, h3, h4, h5, h6, h7, h8, h9, hA a (Array.getElem?_eq_some_iff.mp h5).1⟩
theorem vx_isRef {C n d : String} {v : Value} {A : Nat → Prop} {s : State} {args : Array Value} (h : va_Z C n d v A s s.heap) (hv : v.isRef = true) : (Cond.isRef (.static C n d)).before args s = true := by
  obtain ⟨cf, kf, fi, f, a, cell, h1, h2, h3, h4, h5, h6, h7, -⟩ := h
  have he : (Term.static C n d).eval args s none [] s = some v := by
    simp [Term.eval, State.fieldNamed?, h1, h2, h4, h5, h6, h7]
  simp only [Cond.before, Cond.holds, Cond.value, he]
  cases v <;> simp_all [Value.isRef]
theorem vx_isRefq {C n d : String} {A : Nat → Prop} {s : State} {args : Array Value} (h : va_Zq C n d A s s.heap) : (Cond.isRef (.static C n d)).before args s = true := by
  rcases h with h | ⟨t, h⟩
  · exact vx_isRef h rfl
  · exact vx_isRef h rfl
/-- the same frame, seen from here: as if the method were called anew in this heap -/
theorem vx_rebase {T : State} (X : Stand p l e R s m args below meth c T locs cells slots) {R' : Room} (hf : R'.frames ≤ R.frames) (hl : R'.locals ≤ R.locals) (hc : cells + R'.cells ≤ R.cells) (hs : slots + R'.slots ≤ R.slots) :
    Stand p l e R' ((T.setVm s.vm).setFrames (.invoking m args :: below)) m args below meth c T [] 0 0 := by
  have htop : (T.setVm s.vm).topJava?.isSome := X.here.top
  have hF : ((T.setVm s.vm).setFrames (.invoking m args :: below)).frames = .invoking m args :: below := State.frames_setFrames _ (State.cur_lt_of_top htop)
  obtain ⟨g₀, hg0⟩ := Option.isSome_iff_exists.mp htop
  obtain ⟨r, hr⟩ := State.topJava?_eq_some.mp hg0
  have hl9 : e.platform.stackLimits (T.setVm s.vm).me = e.platform.stackLimits s.me := X.limits
  have hb9 : (T.setVm s.vm).me.stackBytes = s.me.stackBytes := X.bytes
  refine ⟨X.admits, X.cas, X.clock, hF, ?_, X.hears, X.method, X.code, X.here, X.tail, X.warmed, ?_, ?_, ?_⟩
  · have h := X.room
    have hU : ((T.setVm s.vm).setFrames (.invoking m args :: below)).localsInUse = s.localsInUse := by
      rw [State.localsInUse_invoking hF (meth := meth) (c := c) X.method X.code, State.localsInUse_invoking X.frames X.method X.code]
    simp only [State.hasRoom, Bool.and_eq_true, decide_eq_true_eq] at h ⊢
    obtain ⟨⟨⟨⟨h1, h2, h3, h4, h5, h6⟩, h7⟩, h8⟩, h9⟩ := h
    rw [X.frames, List.length_cons] at h2 h3
    have q1 := X.heapSize
    have q2 := X.used
    simp only [hF, hU, List.length_cons, State.stackLimits_setFrames, State.stackBytes_setFrames, hl9, hb9]
    refine ⟨⟨⟨⟨by omega, by omega, by omega, by omega, by omega, h6⟩, ?_⟩, ?_⟩, X.book⟩
    · show T.heap.size + R'.cells ≤ e.platform.maxCells
      omega
    · show T.slotsUsed + R'.slots ≤ e.platform.maxSlots
      omega
  · rw [State.stackLimits_setFrames]; rfl
  · rw [State.stackBytes_setFrames]; rfl
  · refine ⟨?_, Nat.le_refl _, Nat.le_refl _, ?_, ?_, fun a c9 h9 => ⟨c9, h9, rfl, rfl, fun _ _ => rfl⟩⟩
    · obtain ⟨t, ht, -⟩ := State.frames_cons hr
      show T.setVm s.vm = { ((T.setVm s.vm).setFrames (.invoking m args :: below)).setFrames (T.setVm s.vm).frames with heap := T.heap, slotsUsed := T.slotsUsed }
      rw [State.setFrames_setFrames, State.setFrames_self ht]
      rfl
    · show T.slotsUsed = T.slotsUsed + ((T.heap.toList.drop T.heap.size).map (·.slots.size)).sum
      rw [List.drop_eq_nil_of_le (Nat.le_of_eq Array.length_toList)]
      rfl
    · show ((T.heap.toList.drop T.heap.size).map (·.slots.size)).sum ≤ 0
      rw [List.drop_eq_nil_of_le (Nat.le_of_eq Array.length_toList)]
      exact Nat.le_refl _
/-- 'throw new E()': new; dup; invokespecial; athrow -/
theorem vx_throw0 {cc : ByteArray} {pc : Nat} (hexec : p.tables.exec = Jvm.exec) (hb : c.code = cc) (hl : l.stackTraces = false) {own cls : String} {names : List String} {ik ic mc ms : Nat} {A : Nat → Prop}
    (hown : s.vm.findClass own = some m.cls) (hcls : Bundle.fit cls = true) (hnames : ∀ n ∈ names, Bundle.fit n = true)
    (hk : (Cond.classLink own ik cls).before args s = true) (hini : (Cond.initialized cls).before args s = true) (hat : ∀ w ∈ vx_at0 own ic cls names, w.before args s = true)
    (hgood : ∀ w ∈ Cond.classLink own ik cls :: Cond.initialized cls :: vx_at0 own ic cls names, vx_ot w = true)
    (hU : vx_Zq Bundle.tN "UNASSIGNED_STACK" Bundle.steD A s s.heap) (hN : vx_Zq Bundle.tN "SUPPRESSED_SENTINEL" Bundle.listD A s s.heap) (hS : va_S A s.heap H locs) (hsize : ls.size = c.maxLocals)
    (d0 : decode cc pc = .ok (.new ik, 3)) (d3 : decode cc (pc + 3) = .ok (.dup, 1)) (d4 : decode cc (pc + 4) = .ok (.invokespecial ic, 3)) (d7 : decode cc (pc + 7) = .ok (.athrow, 1))
    (hout : ∀ x ∈ c.exceptionTable.toList, covers x (pc + 7) = false)
    (hRframes : names.length + 3 < R.frames) (hRlocals : (rest.map fun v => v.category).sum + (13 * (names.length + 1) + 42) ≤ R.locals) (hRcells : cells + 1 ≤ R.cells) (hRslots : slots + 6 ≤ R.slots) (hlocks : meth.locks = false)
    (hx : ∀ t : State, s.vm.Alike t.vm → H.size ≤ t.heap.size → (∀ q : Nat, q < H.size → t.heap[q]? = H[q]?) → XC cls s t)
    (hf : ∀ z ∈ locs, free z.base) (hc : cells + 1 ≤ mc) (hs : slots + 6 ≤ ms) :
    W p l e R s m args below meth c H locs cells slots (vx_MQ below Qc XC args s mc ms free) (F0 m pc ls rest) := by
  intro T hT X
  have htr : e.platform.stackTraces = false := (show e.platform.stackTraces = l.stackTraces by rw [X.admits.platform]).trans hl
  have Y := vx_rebase X (R' := { frames := R.frames, locals := R.locals, cells := 1, slots := 6 }) (Nat.le_refl _) (Nat.le_refl _) hRcells hRslots
  obtain ⟨s', hA⟩ : ∃ z, z = (T.setVm s.vm).setFrames (.invoking m args :: below) := ⟨_, rfl⟩
  rw [← hA] at Y
  have hvm : s'.vm = s.vm := by rw [hA]; rfl
  have hhp : s'.heap = H := by rw [hA]; exact hT
  have hW0 : s.WarmedH s'.vm := by rw [hvm]; exact State.WarmedH.refl s
  have hat' : ∀ w ∈ vx_at0 own ic cls names, w.before args s' = true := fun w hw => vx_ot_at hW0 hvm.symm (hgood w (List.mem_cons_of_mem _ (List.mem_cons_of_mem _ hw))) (hat w hw)
  have hk' : (Cond.classLink own ik cls).before args s' = true := vx_ot_at hW0 hvm.symm (hgood _ List.mem_cons_self) hk
  have hini' : (Cond.initialized cls).before args s' = true := vx_ot_at hW0 hvm.symm (hgood _ (List.mem_cons_of_mem _ List.mem_cons_self)) hini
  have hU' : vx_Zq Bundle.tN "UNASSIGNED_STACK" Bundle.steD A s' s'.heap := by rw [hhp]; exact vx_Zq.moved hW0.alike (hU.kept hS.2.1)
  have hN' : vx_Zq Bundle.tN "SUPPRESSED_SENTINEL" Bundle.listD A s' s'.heap := by rw [hhp]; exact vx_Zq.moved hW0.alike (hN.kept hS.2.1)
  have h : ∀ w ∈ Bundle.ownAtoms0 own ic cls names, w.before args s' = true := vx_own hat' (vx_isRefq hU'.1) (vx_isRefq hN'.1) hU'.2.word hN'.2.word
  have hown' : s'.vm.findClass own = some m.cls := by rw [hvm]; exact hown
  have hins : (Cond.instantiable cls 6).before args s' = true := h _ (by simp [Bundle.ownAtoms0])
  obtain ⟨vm₁, cX, kX, hfX, hkX, -, -, X₁, st1⟩ := Y.newCold hexec (own := own) (C := cls) (index := ik) (n := 6) hown' hk' hins hini'
    (g := F0 m pc ls rest) rfl (by rw [hb]; exact d0) (Nat.le_refl _) (Nat.le_refl _)
  generalize hT1 : (T.setVm vm₁).pushCell { cls := cX, slots := kX.instanceTypes.map defaultValue, vm := .none } = T1 at X₁ st1
  have hcat : (Value.ref T.heap.size).category = 1 := rfl
  have hcellA : T1.heap[T.heap.size]? = some (freshCell cX kX) := by rw [← hT1]; exact State.heap_pushCell_size _ _
  have d3' : decode c.code (pc + 3) = .ok (.dup, 1) := by rw [hb]; exact d3
  obtain ⟨U, hsteps, hrun, hend, hW, hsame, ce, hce, hO⟩ := X₁.ctorThrow0 hexec htr (own := own) (cls := cls) (names := names) (ic := ic) hown' hcls hnames h (fun x hx => nomatch hx) hfX hkX hcellA (by rw [hhp, hT]; exact Nat.le_refl _)
    (g := { method := m, pc := pc + 4, locals := ls, stack := .ref T.heap.size :: .ref T.heap.size :: rest, locked := none }) rfl hsize rfl rfl (rest := rest) rfl
    (by rw [hb]; exact d4) (by rw [hb]; exact d7) hout hRframes (by simp only [List.map_cons, List.sum_cons, hcat]; omega) hlocks
  obtain ⟨f1, f2⟩ := vx_frame hsame
  rw [hhp] at f1 f2
  have hWs : s.WarmedH U.vm := State.WarmedH.trans hW0 hW
  have hcl : s.vm.findClass cls = some ce.cls := by
    have h9 := hO.cls
    rw [hvm] at h9
    exact h9
  have hall : s.sameButNew ({ U with vm := s.vm } : State) locs mc ms := by
    subst hA
    obtain ⟨e1, e2⟩ := hsame
    rw [State.setFrames_setFrames] at e1
    have h2 : (T.setVm s.vm).sameButNew ({ U with vm := s.vm } : State) [] (0 + 1) (0 + 6) := ⟨e1, e2⟩
    have h3 := X.same.trans h2
    rw [List.append_nil] at h3
    exact h3.mono hc hs
  refine ⟨U, ?_, .threw T.heap.size, hrun, hend, Or.inr ⟨T.heap.size, rfl, cls, ce, locs, hx U hWs.alike f1 (fun q hq => f2 q hq (fun z hz => nomatch hz)), hce, hO.vm, hcl, hWs, hall, hf⟩⟩
  refine st1 _ ?_
  show Steps p.tables e below (T1.setTop { method := m, pc := pc + 3, locals := ls, stack := .ref T.heap.size :: rest, locked := none }) _
  jvm_step X₁.here [X₁.here.top, hexec, d3', Value.category]
  exact hsteps
/-- 'throw new E()': the exception is a new cell: the heap has one more -/
theorem gr_throw0 {cc : ByteArray} {pc : Nat} (hexec : p.tables.exec = Jvm.exec) (hb : c.code = cc) (hl : l.stackTraces = false) {own cls : String} {names : List String} {ik ic mc ms : Nat} {A : Nat → Prop}
    (hown : s.vm.findClass own = some m.cls) (hcls : Bundle.fit cls = true) (hnames : ∀ n ∈ names, Bundle.fit n = true)
    (hk : (Cond.classLink own ik cls).before args s = true) (hini : (Cond.initialized cls).before args s = true) (hat : ∀ w ∈ vx_at0 own ic cls names, w.before args s = true)
    (hgood : ∀ w ∈ Cond.classLink own ik cls :: Cond.initialized cls :: vx_at0 own ic cls names, vx_ot w = true)
    (hU : vx_Zq Bundle.tN "UNASSIGNED_STACK" Bundle.steD A s s.heap) (hN : vx_Zq Bundle.tN "SUPPRESSED_SENTINEL" Bundle.listD A s s.heap) (hS : va_S A s.heap H locs) (hsize : ls.size = c.maxLocals)
    (d0 : decode cc pc = .ok (.new ik, 3)) (d3 : decode cc (pc + 3) = .ok (.dup, 1)) (d4 : decode cc (pc + 4) = .ok (.invokespecial ic, 3)) (d7 : decode cc (pc + 7) = .ok (.athrow, 1))
    (hout : ∀ x ∈ c.exceptionTable.toList, covers x (pc + 7) = false)
    (hRframes : names.length + 3 < R.frames) (hRlocals : (rest.map fun v => v.category).sum + (13 * (names.length + 1) + 42) ≤ R.locals) (hRcells : cells + 1 ≤ R.cells) (hRslots : slots + 6 ≤ R.slots) (hlocks : meth.locks = false)
    (hx : ∀ t : State, s.vm.Alike t.vm → H.size + 1 ≤ t.heap.size → (∀ q : Nat, q < H.size → t.heap[q]? = H[q]?) → XC cls s t)
    (hf : ∀ z ∈ locs, free z.base) (hc : cells + 1 ≤ mc) (hs : slots + 6 ≤ ms) :
    W p l e R s m args below meth c H locs cells slots (vx_MQ below Qc XC args s mc ms free) (F0 m pc ls rest) := by
  intro T hT X
  have htr : e.platform.stackTraces = false := (show e.platform.stackTraces = l.stackTraces by rw [X.admits.platform]).trans hl
  have Y := vx_rebase X (R' := { frames := R.frames, locals := R.locals, cells := 1, slots := 6 }) (Nat.le_refl _) (Nat.le_refl _) hRcells hRslots
  obtain ⟨s', hA⟩ : ∃ z, z = (T.setVm s.vm).setFrames (.invoking m args :: below) := ⟨_, rfl⟩
  rw [← hA] at Y
  have hvm : s'.vm = s.vm := by rw [hA]; rfl
  have hhp : s'.heap = H := by rw [hA]; exact hT
  have hW0 : s.WarmedH s'.vm := by rw [hvm]; exact State.WarmedH.refl s
  have hat' : ∀ w ∈ vx_at0 own ic cls names, w.before args s' = true := fun w hw => vx_ot_at hW0 hvm.symm (hgood w (List.mem_cons_of_mem _ (List.mem_cons_of_mem _ hw))) (hat w hw)
  have hk' : (Cond.classLink own ik cls).before args s' = true := vx_ot_at hW0 hvm.symm (hgood _ List.mem_cons_self) hk
  have hini' : (Cond.initialized cls).before args s' = true := vx_ot_at hW0 hvm.symm (hgood _ (List.mem_cons_of_mem _ List.mem_cons_self)) hini
  have hU' : vx_Zq Bundle.tN "UNASSIGNED_STACK" Bundle.steD A s' s'.heap := by rw [hhp]; exact vx_Zq.moved hW0.alike (hU.kept hS.2.1)
  have hN' : vx_Zq Bundle.tN "SUPPRESSED_SENTINEL" Bundle.listD A s' s'.heap := by rw [hhp]; exact vx_Zq.moved hW0.alike (hN.kept hS.2.1)
  have h : ∀ w ∈ Bundle.ownAtoms0 own ic cls names, w.before args s' = true := vx_own hat' (vx_isRefq hU'.1) (vx_isRefq hN'.1) hU'.2.word hN'.2.word
  have hown' : s'.vm.findClass own = some m.cls := by rw [hvm]; exact hown
  have hins : (Cond.instantiable cls 6).before args s' = true := h _ (by simp [Bundle.ownAtoms0])
  obtain ⟨vm₁, cX, kX, hfX, hkX, -, -, X₁, st1⟩ := Y.newCold hexec (own := own) (C := cls) (index := ik) (n := 6) hown' hk' hins hini'
    (g := F0 m pc ls rest) rfl (by rw [hb]; exact d0) (Nat.le_refl _) (Nat.le_refl _)
  generalize hT1 : (T.setVm vm₁).pushCell { cls := cX, slots := kX.instanceTypes.map defaultValue, vm := .none } = T1 at X₁ st1
  have hcat : (Value.ref T.heap.size).category = 1 := rfl
  have hcellA : T1.heap[T.heap.size]? = some (freshCell cX kX) := by rw [← hT1]; exact State.heap_pushCell_size _ _
  have d3' : decode c.code (pc + 3) = .ok (.dup, 1) := by rw [hb]; exact d3
  obtain ⟨U, hsteps, hrun, hend, hW, hsame, ce, hce, hO⟩ := X₁.ctorThrow0 hexec htr (own := own) (cls := cls) (names := names) (ic := ic) hown' hcls hnames h (fun x hx => nomatch hx) hfX hkX hcellA (by rw [hhp, hT]; exact Nat.le_refl _)
    (g := { method := m, pc := pc + 4, locals := ls, stack := .ref T.heap.size :: .ref T.heap.size :: rest, locked := none }) rfl hsize rfl rfl (rest := rest) rfl
    (by rw [hb]; exact d4) (by rw [hb]; exact d7) hout hRframes (by simp only [List.map_cons, List.sum_cons, hcat]; omega) hlocks
  obtain ⟨f1, f2⟩ := vx_frame hsame
  rw [hhp] at f1 f2
  have f3 : H.size + 1 ≤ U.heap.size := by
    have f4 := (Array.getElem?_eq_some_iff.mp hce).1
    rw [hT] at f4
    exact f4
  have hWs : s.WarmedH U.vm := State.WarmedH.trans hW0 hW
  have hcl : s.vm.findClass cls = some ce.cls := by
    have h9 := hO.cls
    rw [hvm] at h9
    exact h9
  have hall : s.sameButNew ({ U with vm := s.vm } : State) locs mc ms := by
    subst hA
    obtain ⟨e1, e2⟩ := hsame
    rw [State.setFrames_setFrames] at e1
    have h2 : (T.setVm s.vm).sameButNew ({ U with vm := s.vm } : State) [] (0 + 1) (0 + 6) := ⟨e1, e2⟩
    have h3 := X.same.trans h2
    rw [List.append_nil] at h3
    exact h3.mono hc hs
  refine ⟨U, ?_, .threw T.heap.size, hrun, hend, Or.inr ⟨T.heap.size, rfl, cls, ce, locs, hx U hWs.alike f3 (fun q hq => f2 q hq (fun z hz => nomatch hz)), hce, hO.vm, hcl, hWs, hall, hf⟩⟩
  refine st1 _ ?_
  show Steps p.tables e below (T1.setTop { method := m, pc := pc + 3, locals := ls, stack := .ref T.heap.size :: rest, locked := none }) _
  jvm_step X₁.here [X₁.here.top, hexec, d3', Value.category]
  exact hsteps
/-- 'throw new E("text")': new; dup; ldc; invokespecial; athrow -/
theorem vx_throwS {cc : ByteArray} {pc : Nat} (hexec : p.tables.exec = Jvm.exec) (hb : c.code = cc) (hl : l.stackTraces = false) {own cls text : String} {names : List String} {ik is ic mc ms sa : Nat} {A : Nat → Prop}
    (hown : s.vm.findClass own = some m.cls) (hcls : Bundle.fit cls = true) (hnames : ∀ n ∈ names, Bundle.fit n = true)
    (hk : (Cond.classLink own ik cls).before args s = true) (hini : (Cond.initialized cls).before args s = true) (hstr : vk_R own is text sa s) (hat : ∀ w ∈ vx_atS own ic cls names, w.before args s = true)
    (hgood : ∀ w ∈ Cond.classLink own ik cls :: Cond.initialized cls :: vx_atS own ic cls names, vx_ot w = true)
    (hU : vx_Zq Bundle.tN "UNASSIGNED_STACK" Bundle.steD A s s.heap) (hN : vx_Zq Bundle.tN "SUPPRESSED_SENTINEL" Bundle.listD A s s.heap) (hS : va_S A s.heap H locs) (hsize : ls.size = c.maxLocals)
    (d0 : decode cc pc = .ok (.new ik, 3)) (d3 : decode cc (pc + 3) = .ok (.dup, 1)) (d4 : decode cc (pc + 4) = .ok (.ldc is, 2)) (d6 : decode cc (pc + 6) = .ok (.invokespecial ic, 3)) (d9 : decode cc (pc + 9) = .ok (.athrow, 1))
    (hout : ∀ x ∈ c.exceptionTable.toList, covers x (pc + 9) = false)
    (hRframes : names.length + 3 < R.frames) (hRlocals : (rest.map fun v => v.category).sum + (13 * (names.length + 1) + 43) ≤ R.locals) (hRcells : cells + 1 ≤ R.cells) (hRslots : slots + 6 ≤ R.slots) (hlocks : meth.locks = false)
    (hx : ∀ t : State, s.vm.Alike t.vm → H.size ≤ t.heap.size → (∀ q : Nat, q < H.size → t.heap[q]? = H[q]?) → XC cls s t)
    (hf : ∀ z ∈ locs, free z.base) (hc : cells + 1 ≤ mc) (hs : slots + 6 ≤ ms) :
    W p l e R s m args below meth c H locs cells slots (vx_MQ below Qc XC args s mc ms free) (F0 m pc ls rest) := by
  intro T hT X
  have htr : e.platform.stackTraces = false := (show e.platform.stackTraces = l.stackTraces by rw [X.admits.platform]).trans hl
  have Y := vx_rebase X (R' := { frames := R.frames, locals := R.locals, cells := 1, slots := 6 }) (Nat.le_refl _) (Nat.le_refl _) hRcells hRslots
  obtain ⟨s', hA⟩ : ∃ z, z = (T.setVm s.vm).setFrames (.invoking m args :: below) := ⟨_, rfl⟩
  rw [← hA] at Y
  have hvm : s'.vm = s.vm := by rw [hA]; rfl
  have hhp : s'.heap = H := by rw [hA]; exact hT
  have hW0 : s.WarmedH s'.vm := by rw [hvm]; exact State.WarmedH.refl s
  have hat' : ∀ w ∈ vx_atS own ic cls names, w.before args s' = true := fun w hw => vx_ot_at hW0 hvm.symm (hgood w (List.mem_cons_of_mem _ (List.mem_cons_of_mem _ hw))) (hat w hw)
  have hk' : (Cond.classLink own ik cls).before args s' = true := vx_ot_at hW0 hvm.symm (hgood _ List.mem_cons_self) hk
  have hini' : (Cond.initialized cls).before args s' = true := vx_ot_at hW0 hvm.symm (hgood _ (List.mem_cons_of_mem _ List.mem_cons_self)) hini
  have hU' : vx_Zq Bundle.tN "UNASSIGNED_STACK" Bundle.steD A s' s'.heap := by rw [hhp]; exact vx_Zq.moved hW0.alike (hU.kept hS.2.1)
  have hN' : vx_Zq Bundle.tN "SUPPRESSED_SENTINEL" Bundle.listD A s' s'.heap := by rw [hhp]; exact vx_Zq.moved hW0.alike (hN.kept hS.2.1)
  have h : ∀ w ∈ Bundle.ownAtoms own ic cls names, w.before args s' = true := vx_own hat' (vx_isRefq hU'.1) (vx_isRefq hN'.1) hU'.2.word hN'.2.word
  have hown' : s'.vm.findClass own = some m.cls := by rw [hvm]; exact hown
  have hins : (Cond.instantiable cls 6).before args s' = true := h _ (by simp [Bundle.ownAtoms])
  obtain ⟨vm₁, cX, kX, hfX, hkX, -, -, X₁, st1⟩ := Y.newCold hexec (own := own) (C := cls) (index := ik) (n := 6) hown' hk' hins hini'
    (g := F0 m pc ls rest) rfl (by rw [hb]; exact d0) (Nat.le_refl _) (Nat.le_refl _)
  generalize hT1 : (T.setVm vm₁).pushCell { cls := cX, slots := kX.instanceTypes.map defaultValue, vm := .none } = T1 at X₁ st1
  have hcat : (Value.ref T.heap.size).category = 1 := rfl
  have hcellA : T1.heap[T.heap.size]? = some (freshCell cX kX) := by rw [← hT1]; exact State.heap_pushCell_size _ _
  have d3' : decode c.code (pc + 3) = .ok (.dup, 1) := by rw [hb]; exact d3
  have d4' : decode c.code (pc + 4) = .ok (.ldc is, 2) := by rw [hb]; exact d4
  have hstr' : vk_R own is text sa s' := vk_R.warm hW0 hstr
  obtain ⟨U, hsteps, hrun, hend, hW, hsame, ce, hce, hO⟩ := X₁.ctorThrowS hexec htr (own := own) (cls := cls) (names := names) (ic := ic) hown' hcls hnames h (fun x hx => nomatch hx) hfX hkX hcellA (by rw [hhp, hT]; exact Nat.le_refl _) (msg := .ref sa) rfl
    (g := { method := m, pc := pc + 6, locals := ls, stack := .ref sa :: .ref T.heap.size :: .ref T.heap.size :: rest, locked := none }) rfl hsize rfl rfl (rest := rest) rfl
    (by rw [hb]; exact d6) (by rw [hb]; exact d9) hout hRframes (by simp only [List.map_cons, List.sum_cons, hcat]; omega) hlocks
  obtain ⟨f1, f2⟩ := vx_frame hsame
  rw [hhp] at f1 f2
  have hWs : s.WarmedH U.vm := State.WarmedH.trans hW0 hW
  have hcl : s.vm.findClass cls = some ce.cls := by
    have h9 := hO.cls
    rw [hvm] at h9
    exact h9
  have hall : s.sameButNew ({ U with vm := s.vm } : State) locs mc ms := by
    subst hA
    obtain ⟨e1, e2⟩ := hsame
    rw [State.setFrames_setFrames] at e1
    have h2 : (T.setVm s.vm).sameButNew ({ U with vm := s.vm } : State) [] (0 + 1) (0 + 6) := ⟨e1, e2⟩
    have h3 := X.same.trans h2
    rw [List.append_nil] at h3
    exact h3.mono hc hs
  refine ⟨U, ?_, .threw T.heap.size, hrun, hend, Or.inr ⟨T.heap.size, rfl, cls, ce, locs, hx U hWs.alike f1 (fun q hq => f2 q hq (fun z hz => nomatch hz)), hce, hO.vm, hcl, hWs, hall, hf⟩⟩
  refine st1 _ ?_
  show Steps p.tables e below (T1.setTop { method := m, pc := pc + 3, locals := ls, stack := .ref T.heap.size :: rest, locked := none }) _
  jvm_step X₁.here [X₁.here.top, hexec, d3', Value.category]
  exact X₁.ldcString hexec (own := own) (text := text) (index := is) (a := sa) hown' hstr'.1 hstr'.2
    (g := { method := m, pc := pc + 4, locals := ls, stack := .ref T.heap.size :: .ref T.heap.size :: rest, locked := none }) rfl d4' _ hsteps
/-- 'throw new E("text")', the text by a wide index -/
theorem vx_throwSW {cc : ByteArray} {pc : Nat} (hexec : p.tables.exec = Jvm.exec) (hb : c.code = cc) (hl : l.stackTraces = false) {own cls text : String} {names : List String} {ik is ic mc ms sa : Nat} {A : Nat → Prop}
    (hown : s.vm.findClass own = some m.cls) (hcls : Bundle.fit cls = true) (hnames : ∀ n ∈ names, Bundle.fit n = true)
    (hk : (Cond.classLink own ik cls).before args s = true) (hini : (Cond.initialized cls).before args s = true) (hstr : vk_R own is text sa s) (hat : ∀ w ∈ vx_atS own ic cls names, w.before args s = true)
    (hgood : ∀ w ∈ Cond.classLink own ik cls :: Cond.initialized cls :: vx_atS own ic cls names, vx_ot w = true)
    (hU : vx_Zq Bundle.tN "UNASSIGNED_STACK" Bundle.steD A s s.heap) (hN : vx_Zq Bundle.tN "SUPPRESSED_SENTINEL" Bundle.listD A s s.heap) (hS : va_S A s.heap H locs) (hsize : ls.size = c.maxLocals)
    (d0 : decode cc pc = .ok (.new ik, 3)) (d3 : decode cc (pc + 3) = .ok (.dup, 1)) (d4 : decode cc (pc + 4) = .ok (.ldc_w is, 3)) (d7 : decode cc (pc + 7) = .ok (.invokespecial ic, 3)) (d10 : decode cc (pc + 10) = .ok (.athrow, 1))
    (hout : ∀ x ∈ c.exceptionTable.toList, covers x (pc + 10) = false)
    (hRframes : names.length + 3 < R.frames) (hRlocals : (rest.map fun v => v.category).sum + (13 * (names.length + 1) + 43) ≤ R.locals) (hRcells : cells + 1 ≤ R.cells) (hRslots : slots + 6 ≤ R.slots) (hlocks : meth.locks = false)
    (hx : ∀ t : State, s.vm.Alike t.vm → H.size ≤ t.heap.size → (∀ q : Nat, q < H.size → t.heap[q]? = H[q]?) → XC cls s t)
    (hf : ∀ z ∈ locs, free z.base) (hc : cells + 1 ≤ mc) (hs : slots + 6 ≤ ms) :
    W p l e R s m args below meth c H locs cells slots (vx_MQ below Qc XC args s mc ms free) (F0 m pc ls rest) := by
  intro T hT X
  have htr : e.platform.stackTraces = false := (show e.platform.stackTraces = l.stackTraces by rw [X.admits.platform]).trans hl
  have Y := vx_rebase X (R' := { frames := R.frames, locals := R.locals, cells := 1, slots := 6 }) (Nat.le_refl _) (Nat.le_refl _) hRcells hRslots
  obtain ⟨s', hA⟩ : ∃ z, z = (T.setVm s.vm).setFrames (.invoking m args :: below) := ⟨_, rfl⟩
  rw [← hA] at Y
  have hvm : s'.vm = s.vm := by rw [hA]; rfl
  have hhp : s'.heap = H := by rw [hA]; exact hT
  have hW0 : s.WarmedH s'.vm := by rw [hvm]; exact State.WarmedH.refl s
  have hat' : ∀ w ∈ vx_atS own ic cls names, w.before args s' = true := fun w hw => vx_ot_at hW0 hvm.symm (hgood w (List.mem_cons_of_mem _ (List.mem_cons_of_mem _ hw))) (hat w hw)
  have hk' : (Cond.classLink own ik cls).before args s' = true := vx_ot_at hW0 hvm.symm (hgood _ List.mem_cons_self) hk
  have hini' : (Cond.initialized cls).before args s' = true := vx_ot_at hW0 hvm.symm (hgood _ (List.mem_cons_of_mem _ List.mem_cons_self)) hini
  have hU' : vx_Zq Bundle.tN "UNASSIGNED_STACK" Bundle.steD A s' s'.heap := by rw [hhp]; exact vx_Zq.moved hW0.alike (hU.kept hS.2.1)
  have hN' : vx_Zq Bundle.tN "SUPPRESSED_SENTINEL" Bundle.listD A s' s'.heap := by rw [hhp]; exact vx_Zq.moved hW0.alike (hN.kept hS.2.1)
  have h : ∀ w ∈ Bundle.ownAtoms own ic cls names, w.before args s' = true := vx_own hat' (vx_isRefq hU'.1) (vx_isRefq hN'.1) hU'.2.word hN'.2.word
  have hown' : s'.vm.findClass own = some m.cls := by rw [hvm]; exact hown
  have hins : (Cond.instantiable cls 6).before args s' = true := h _ (by simp [Bundle.ownAtoms])
  obtain ⟨vm₁, cX, kX, hfX, hkX, -, -, X₁, st1⟩ := Y.newCold hexec (own := own) (C := cls) (index := ik) (n := 6) hown' hk' hins hini'
    (g := F0 m pc ls rest) rfl (by rw [hb]; exact d0) (Nat.le_refl _) (Nat.le_refl _)
  generalize hT1 : (T.setVm vm₁).pushCell { cls := cX, slots := kX.instanceTypes.map defaultValue, vm := .none } = T1 at X₁ st1
  have hcat : (Value.ref T.heap.size).category = 1 := rfl
  have hcellA : T1.heap[T.heap.size]? = some (freshCell cX kX) := by rw [← hT1]; exact State.heap_pushCell_size _ _
  have d3' : decode c.code (pc + 3) = .ok (.dup, 1) := by rw [hb]; exact d3
  have d4' : decode c.code (pc + 4) = .ok (.ldc_w is, 3) := by rw [hb]; exact d4
  have hstr' : vk_R own is text sa s' := vk_R.warm hW0 hstr
  obtain ⟨U, hsteps, hrun, hend, hW, hsame, ce, hce, hO⟩ := X₁.ctorThrowS hexec htr (own := own) (cls := cls) (names := names) (ic := ic) hown' hcls hnames h (fun x hx => nomatch hx) hfX hkX hcellA (by rw [hhp, hT]; exact Nat.le_refl _) (msg := .ref sa) rfl
    (g := { method := m, pc := pc + 7, locals := ls, stack := .ref sa :: .ref T.heap.size :: .ref T.heap.size :: rest, locked := none }) rfl hsize rfl rfl (rest := rest) rfl
    (by rw [hb]; exact d7) (by rw [hb]; exact d10) hout hRframes (by simp only [List.map_cons, List.sum_cons, hcat]; omega) hlocks
  obtain ⟨f1, f2⟩ := vx_frame hsame
  rw [hhp] at f1 f2
  have hWs : s.WarmedH U.vm := State.WarmedH.trans hW0 hW
  have hcl : s.vm.findClass cls = some ce.cls := by
    have h9 := hO.cls
    rw [hvm] at h9
    exact h9
  have hall : s.sameButNew ({ U with vm := s.vm } : State) locs mc ms := by
    subst hA
    obtain ⟨e1, e2⟩ := hsame
    rw [State.setFrames_setFrames] at e1
    have h2 : (T.setVm s.vm).sameButNew ({ U with vm := s.vm } : State) [] (0 + 1) (0 + 6) := ⟨e1, e2⟩
    have h3 := X.same.trans h2
    rw [List.append_nil] at h3
    exact h3.mono hc hs
  refine ⟨U, ?_, .threw T.heap.size, hrun, hend, Or.inr ⟨T.heap.size, rfl, cls, ce, locs, hx U hWs.alike f1 (fun q hq => f2 q hq (fun z hz => nomatch hz)), hce, hO.vm, hcl, hWs, hall, hf⟩⟩
  refine st1 _ ?_
  show Steps p.tables e below (T1.setTop { method := m, pc := pc + 3, locals := ls, stack := .ref T.heap.size :: rest, locked := none }) _
  jvm_step X₁.here [X₁.here.top, hexec, d3', Value.category]
  exact X₁.ldcStringW hexec (own := own) (text := text) (index := is) (a := sa) hown' hstr'.1 hstr'.2
    (g := { method := m, pc := pc + 4, locals := ls, stack := .ref T.heap.size :: .ref T.heap.size :: rest, locked := none }) rfl d4' _ hsteps
end Ends
section Bodies
variable {l : Launch}
theorem vx_ofW {y : MethodName} {ws ws' : List Cond} {rm : Room} {Pc : Array Value → State → Prop} {Qc : Array Value → State → Outcome → State → Prop} {XC : String → State → State → Prop} {mc ms : Nat} {free : Addr → Prop} {cc : ByteArray} {maxL : Nat} {ret : Option FieldType}
    (hy : plainName y.cls = true) (hw : ws = Cond.code y cc maxL ret :: ws')
    (body : ∀ p e s m args below meth c s₁, BodyLoose p l y (headSpec ws rm) cc maxL ret e s m args below meth c s₁ → c.maxLocals = maxL → (∀ x ∈ c.exceptionTable.toList, False) → Pc args s →
      W p l e (headSpec ws rm).room s m args below meth c s.heap [] 0 0 (vx_MQ below Qc XC args s mc ms free) (entryFrame m args maxL)) : vx_Met l y ws rm Pc Qc XC mc ms free := by
  refine MetFree.of_bodyS (code := cc) (maxLocals := maxL) (ret := ret) hy ?_ ?_
  · intro args s m h hn
    obtain ⟨meth, c, h1, h2, h3, h4, h5, h6, -, -⟩ := Cond.code_spec hn (atoms_spec (ws := ws) h _ (by rw [hw]; exact List.mem_cons_self))
    exact ⟨meth, c, h1, h2, h3, h4, h5, h6⟩
  · intro p e s m args below meth c s₁ B hml hP _
    have hh0 : s₁.heap = s.heap := by rw [B.state]; rfl
    have ht : ∀ x ∈ c.exceptionTable.toList, False := by
      obtain ⟨meth9, c9, h1, h2, -, -, -, -, h7, -⟩ := Cond.code_spec B.named (atoms_spec (ws := ws) B.pre _ (by rw [hw]; exact List.mem_cons_self))
      cases Option.some.inj (h1.symm.trans B.method)
      cases Option.some.inj (h2.symm.trans (Stand.of_body B).code)
      intro x hx
      rw [Array.isEmpty_iff.mp h7] at hx
      cases hx
    obtain ⟨t, a1, o, b1, b2, b3⟩ := body p e s m args below meth c s₁ B hml ht hP s₁ hh0 (Stand.of_body B)
    exact ⟨t, o, a1, b1, b2, b3⟩
/-- the table of a body with handlers -/
theorem vx_table {p : Program} {x y : MethodName} {S : Spec} {cc bytes : ByteArray} {maxL maxL' : Nat} {ret ret' : Option FieldType} {e : Env} {s s₁ : State} {m : MethodId} {args : Array Value} {below : List Frame} {meth : Method} {c : Code} {hh : List (Nat × Nat × Nat × Nat)}
    (B : BodyLoose p l y S cc maxL ret e s m args below meth c s₁) (h : (Cond.codeWith y bytes maxL' ret' hh).before args s = true) : c.exceptionTable.toList = tableOf hh := by
  obtain ⟨m9, meth9, c9, hn9, h1, h2, -, -, h6, -⟩ := Cond.codeWith_spec h
  cases Option.some.inj (hn9.symm.trans B.named)
  cases Option.some.inj (h1.symm.trans B.method)
  cases Option.some.inj (h2.symm.trans (Stand.of_body B).code)
  rw [← h6, table_eq]
end Bodies
end VXA
/-! ===== END ===== -/
/-! ===== BEGIN a static call of a method with an exception table ===== -/
section VXS
variable {p : Program} {l : Launch} {e : Env} {R : Room} {s : State} {m : MethodId} {args : Array Value} {below : List Frame} {meth : Method} {c : Code} {T : State} {H : Heap} {locs : List Loc} {cells slots : Nat}
abbrev vx_CSW (R : Room) (s : State) (args : Array Value) (own : String) (index : Nat) (y : MethodName) (bytes : ByteArray) (maxL : Nat) (ret : Option FieldType) (hh : List (Nat × Nat × Nat × Nat)) (ws : List Cond) (rm : Room) (mc ms n : Nat) : Prop :=
  (rm.cells = mc ∧ rm.slots = ms ∧ rm.frames + 1 ≤ R.frames ∧ 8 + (maxL + 11) + rm.locals ≤ R.locals ∧ (∀ w ∈ ws, ∀ (a' : Array Value) (U : State), s.WarmedH U.vm → w.before a' U = true) ∧ Cond.codeWith y bytes maxL ret hh ∈ ws) ∧
  (Cond.codeWith y bytes maxL ret hh).before args s = true ∧ (Cond.initialized y.cls).before args s = true ∧ (y.cls ≠ "java/lang/invoke/MethodHandle" ∧ y.cls ≠ "java/lang/invoke/VarHandle") ∧
  (∀ sig, parseMethodDescriptor y.desc = some sig → n = sig.parameters.length) ∧ (Cond.methodLink own index y).before args s = true ∧ (Cond.static y).before args s = true
theorem vx_cwSW {own : String} {index maxL mc ms : Nat} {y : MethodName} {bytes : ByteArray} {ret : Option FieldType} {hh : List (Nat × Nat × Nat × Nat)} {Ts ws ws' : List Cond} {rm : Room} (n : Nat) (ht : ∀ w ∈ Ts, w.before args s = true) (hT : GoodIn Ts (va_wsS own index y ws)) (hw : ws = Cond.codeWith y bytes maxL ret hh :: ws') (hrc : rm.cells = mc) (hrs : rm.slots = ms)
    (hd : y.cls ≠ "java/lang/invoke/MethodHandle" ∧ y.cls ≠ "java/lang/invoke/VarHandle" ∧ (parseMethodDescriptor y.desc).map (fun d => d.parameters.length) = some n) (hR : rm.frames + 1 ≤ R.frames ∧ 8 + (maxL + 11) + rm.locals ≤ R.locals) :
    vx_CSW R s args own index y bytes maxL ret hh ws rm mc ms n := by
  have ok : ∀ w ∈ va_wsS own index y ws, w.before args s = true := fun w h => ht w (hT w h).1
  have hG : GoodIn Ts ws := fun w h => hT w (by unfold va_wsS; exact List.mem_append_right _ h)
  have hc : Cond.codeWith y bytes maxL ret hh ∈ ws := by rw [hw]; exact List.mem_cons_self
  refine ⟨⟨hrc, hrs, hR.1, hR.2, pay_in ht hG, hc⟩, ht _ (hG _ hc).1, ok _ (by simp [va_wsS]), ⟨hd.1, hd.2.1⟩, fun sig h => ?_, ok _ (by simp [va_wsS]), ok _ (by simp [va_wsS])⟩
  have h2 := hd.2.2
  rw [h] at h2
  exact (Option.some.inj h2).symm
theorem vx_callSW (X : Stand p l e R s m args below meth c T locs cells slots) (hexec : p.tables.exec = Jvm.exec) {own : String} {index : Nat} {y : MethodName} {bytes : ByteArray} {maxL : Nat} {ret : Option FieldType} {hh : List (Nat × Nat × Nat × Nat)}
    (hown : s.vm.findClass own = some m.cls) (hlink : (Cond.methodLink own index y).before args s = true) (hstat : (Cond.static y).before args s = true) (hinit : (Cond.initialized y.cls).before args s = true)
    (hcode : (Cond.codeWith y bytes maxL ret hh).before args s = true) (hy : y.cls ≠ "java/lang/invoke/MethodHandle" ∧ y.cls ≠ "java/lang/invoke/VarHandle")
    {W9 : Nat} {Pre : Pt → Array Value → Prop} {Post : Pt → Array Value → Option Value → Pt → Prop} (hK : Back l R p e below s args y 3 W9 Pre Post)
    {g : JFrame} (hg : g.method = m) (hsize : g.locals.size = c.maxLocals) {argsL rest : List Value} (hlen : ∀ sig, parseMethodDescriptor y.desc = some sig → argsL.length = sig.parameters.length)
    (hstack : g.stack = argsL.reverse ++ rest) (hW : 2 * g.monitorRoom + (rest.map fun v => v.category).sum ≤ W9) (hdg : decode c.code g.pc = .ok (.invokestatic index, 3))
    (hpre : ∀ vm₁, s.WarmedH vm₁ → Pre ⟨T.setVm vm₁, locs, cells, slots⟩ argsL.toArray) :
    ∃ (v : Option Value) (vm₁ : Vm) (B : Pt), s.WarmedH vm₁ ∧ Stand p l e R s m args below meth c B.U B.locs B.cells B.slots ∧ Post ⟨T.setVm vm₁, locs, cells, slots⟩ argsL.toArray v B ∧
      ∀ target, Steps p.tables e below (B.U.setTop { g with pc := g.pc + 3, stack := v.toList ++ rest }) target → Steps p.tables e below (T.setTop g) target := by
  obtain ⟨mk, methM, cM, hnamed, hmethM, -, -, -, -, -, -, hsigM⟩ := Cond.codeWith_spec hcode
  have hstatic : methM.isStatic = true := Cond.static_spec hnamed hmethM hstat
  obtain ⟨kP, hkP, -⟩ := className_of_methodNamed hnamed
  have hinitP : kP.init = .initialized := Cond.initialized_spec (findClass_of_methodNamed hnamed) hkP hinit
  obtain ⟨vm₁, X₁, hstep₁⟩ := X.invokestatic hexec hown hlink hnamed hmethM hstatic hkP hinitP hy (g := g) hg (argsL := argsL) (rest := rest) (hlen _ hsigM) hstack hdg
  obtain ⟨v, B, X', hpost, hsteps⟩ := hK m meth c ⟨T.setVm vm₁, locs, cells, slots⟩ { g with stack := rest } (.invokestatic index) mk argsL.toArray X₁ hg hsize hdg hW (X₁.named hnamed) (hpre vm₁ X₁.warmed)
  exact ⟨v, vm₁, B, X₁.warmed, X', hpost, fun target h => hstep₁ _ fun acts => by rw [doInvoke_state]; exact hsteps.trans h⟩
theorem vx_runSW {y : MethodName} {bytes cc : ByteArray} {maxL nL mc ms n index : Nat} {ret : Option FieldType} {hh : List (Nat × Nat × Nat × Nat)} {ws : List Cond} {rm : Room} {Pc : Array Value → State → Prop} {Qc : Array Value → State → Outcome → State → Prop} {free : Addr → Prop} {Ts : List Cond} {own : String} {As rest : List Value} {g : JFrame}
    (S : CallFix p m c cc nL s args Ts own) (hM : Met l y ws rm Pc Qc mc ms free) (cw : vx_CSW R s args own index y bytes maxL ret hh ws rm mc ms n) (hp : PreS s H Pc As)
    (hg : g.method = m) (hn : As.length = n) (hsize : g.locals.size = nL) (hstack : g.stack = As.reverse ++ rest) (hW : 2 * g.monitorRoom + (rest.map fun v => v.category).sum ≤ 8) (hdg : decode cc g.pc = .ok (.invokestatic index, 3)) (hf : cells + mc ≤ R.cells ∧ slots + ms ≤ R.slots) :
    va_Run p l e R s m args below meth c H locs cells slots mc ms g rest (Qc As.toArray) (free) := by
  obtain ⟨⟨hrc, hrs, hfr, hlo, hws, hcw⟩, hcode, hini, hy, hlen, hl, hstt⟩ := cw
  have hK : Back l R p e below s args y 3 8 (PreOf R mc ms Pc) (PostOf Qc mc ms free) := va_backW (hh := hh) (bytes := bytes) (maxL := maxL) (ret := ret) hM hp.1 hrc hrs hfr hlo hws hcw (fun a' U hW => word_at hW (Or.inl (by first | rfl | simp [Cond.onTables, Cond.keeps, Cond.steady])) hini)
  obtain ⟨hx, hb, hml, ho, -⟩ := S
  intro T hT X
  obtain ⟨v, vm₁, ⟨U', l2, c2, s2⟩, hW₁, X', ⟨g', mk, t, L, e1, e2, hq, h1, hL, h2, h3⟩, st⟩ := vx_callSW X hx (hh := hh) (bytes := bytes) (maxL := maxL) (ret := ret) ho hl hstt hini hcode hy hK hg (hsize.trans hml.symm) (argsL := As) (rest := rest) (fun sig h => hn.trans (hlen sig h)) hstack hW (by rw [hb]; exact hdg)
    (fun vm₁ hW₁ => ⟨hf.1, hf.2, hp.2 (T.setVm vm₁) hT hW₁⟩)
  dsimp only [Pt.U, Pt.locs, Pt.cells, Pt.slots] at X' e1 e2 h1 h2 h3 st
  subst h1; subst h2; subst h3
  exact ⟨v, (T.setVm vm₁).calling g' mk As.toArray, t, U', L, hT, X', hL, e1, e2, hq, st⟩
/-- not caught here, past rows that name other classes: it goes on to the caller -/
theorem vx_outP {p : Program} {l : Launch} {e : Env} {R : Room} {s : State} {m : MethodId} {args : Array Value} {below : List Frame} {meth : Method} {c : Code} {H : Heap} {locs : List Loc} {cells slots : Nat} {free : Addr → Prop} {ls : Array Slot} {rest : List Value} {Qc : Array Value → State → Outcome → State → Prop} {XC : String → State → State → Prop}
    {pc : Nat} {own E : String} {ce : Cell} {q : Addr} {mc ms : Nat} (hown : s.vm.findClass own = some m.cls) (hlocks : meth.locks = false)
    (hpass : ∀ z ∈ c.exceptionTable.toList, covers z pc = false ∨ (z.catchType ≠ 0 ∧ ∃ nm : String, (Cond.classLink own z.catchType nm).before args s = true ∧ va_Nc E nm s)) (hcell : H[q]? = some ce) (hv : ce.vm = .none) (hcl : s.vm.findClass E = some ce.cls)
    (hx : ∀ t : State, t.heap = H → s.vm.Alike t.vm → XC E s t) (hf : ∀ z ∈ locs, free z.base) (hc : cells ≤ mc) (hs : slots ≤ ms) :
    vx_W p l e R s m args below meth c H locs cells slots (vx_MQ below Qc XC args s mc ms free) (F0 m pc ls rest) q := by
  intro T hT X
  have hpl : e.platform.magicAccessors = ({} : Platform).magicAccessors := by rw [X.admits.platform]
  obtain ⟨vm', hW', X', st⟩ := X.outThrough hlocks q (g := F0 m pc ls rest) rfl rfl rfl (cell := ce) (by rw [hT]; exact hcell) (by rw [hv]; rfl)
    (by obtain ⟨k9, h9, -⟩ := Vm.findClass_spec hcl; exact ⟨k9, h9⟩) (fun z hz => by
      rcases hpass z hz with h | ⟨hz0, nm, hl1, hn1⟩
      · exact Or.inl h
      · obtain ⟨c6, hc6, hcl6⟩ := Cond.classLink_spec hown hl1 e.platform hpl
        obtain ⟨a8, b8, h1, h2, h3⟩ := hn1
        cases Option.some.inj (h1.symm.trans hcl)
        cases Option.some.inj (h2.symm.trans hc6)
        exact Or.inr ⟨hz0, _, hcl6, h3⟩)
  obtain ⟨g₀, hfr⟩ := X'.frames_eq
  have hcell9 : ((T.setVm vm').setFrames (.throwing q :: below)).heap[q]? = some ce := by
    show T.heap[q]? = some ce
    rw [hT]; exact hcell
  have hend : Ended ((T.setVm vm').setFrames (.throwing q :: below)) below (.threw q) := State.frames_setFrames _ (State.cur_lt_of_frames hfr)
  refine ⟨(T.setVm vm').setFrames (.throwing q :: below), ?_, .threw q, X'.here.running, hend, Or.inr ⟨q, rfl, E, ce, locs, hx _ hT (X'.ends _).1.alike, hcell9, hv, hcl, (X'.ends _).1, (X'.ends _).2.mono hc hs, hf⟩⟩
  rw [X.pushThrowing_eq]
  exact st
/-- a thing of a world lies in the heap -/
theorem vx_lt {D : va_G} {cl : List vw_C} {ws : va_W} {H1 : Heap} (h : va_P D cl ws H1) {k : Nat} {q : Nat × va_E} (hk : ws[k]? = some q) : q.1 < H1.size := (h k q hk).lt
end VXS
/-! ===== END ===== -/
/-! ===== BEGIN methods with a table of their own: called by a name, returning or throwing ===== -/
section VXH
/-! vx_backW, vx_callVX, vx_callSX, vx_callVW, vx_runVW, vx_runVX, vx_runSX, vx_ofWH follow the same proofs as their sisters above (Free/Laws.lean, Shelf42/LK1.lean); vx_outP calls Shelf42/NT130.lean (outThrough). -/
section
variable {l : Launch} {R : Room} {p : Program} {e : Env} {below : List Frame} {s : State} {sargs : Array Value} {y : MethodName} {len W9 : Nat}
theorem vx_backW {ws : List Cond} {rm : Room} {Pc : Array Value → State → Prop} {Qc : Array Value → State → Outcome → State → Prop} {XC : String → State → State → Prop} {mc ms : Nat} {free : Addr → Prop} {bytes : ByteArray} {maxL : Nat} {ret : Option FieldType} {hh : List (Nat × Nat × Nat × Nat)}
    (hM : vx_Met l y ws rm Pc Qc XC mc ms free) (hblind : FrameBlind Pc) (hrc : rm.cells = mc) (hrs : rm.slots = ms)
    (hframes : rm.frames + 1 ≤ R.frames) (hlocals : W9 + (maxL + 11) + rm.locals ≤ R.locals)
    (hws : ∀ w ∈ ws, ∀ a' U, s.WarmedH U.vm → w.before a' U = true) (hcode : Cond.codeWith y bytes maxL ret hh ∈ ws) (hinit : ∀ a' U, s.WarmedH U.vm → (Cond.initialized y.cls).before a' U = true) :
    vx_Back l R p e below s sargs y len W9 (PreOf R mc ms Pc) (PostOf Qc mc ms free) (vx_Post XC mc ms free) := by
  intro m meth c A g ig mk a X hg hsize hdg hW hn hp
  have h1 : (headSpec ws rm).pre.before a A.U = true := atoms_intro fun w hw => hws w hw _ _ X.warmed
  have h2 : (Cond.codeWith y bytes maxL ret hh).before a A.U = true := hws _ hcode _ _ X.warmed
  have h3 : (Cond.initialized y.cls).before a A.U = true := hinit _ _ X.warmed
  have h4 : A.cells + (headSpec ws rm).room.cells ≤ R.cells := by rw [show (headSpec ws rm).room.cells = mc from hrc]; exact hp.1
  have h5 : A.slots + (headSpec ws rm).room.slots ≤ R.slots := by rw [show (headSpec ws rm).room.slots = ms from hrs]; exact hp.2.1
  have hPc : Pc a (A.U.calling g mk a) := hblind _ _ _ _ hp.2.2
  obtain ⟨U, Ls, c0, s0⟩ := A
  dsimp only [Pt.U, Pt.locs, Pt.cells, Pt.slots] at h1 h2 h3 h4 h5 X hn hPc ⊢
  obtain ⟨m9, methY, cY, hn9, hmY, hcY, -, hlY, -⟩ := Cond.codeWith_spec h2
  cases Option.some.inj (hn9.symm.trans hn)
  obtain ⟨kY, hkY, -⟩ := className_of_methodNamed hn
  have hinitY : kY.init = .initialized := Cond.initialized_spec (findClass_of_methodNamed hn) hkY h3
  have h : At U g.method c below := by rw [hg]; exact X.here
  have hlocals9 : W9 + (maxL + 11) + (headSpec ws rm).room.locals ≤ R.locals := hlocals
  have happ : (headSpec ws rm).appliesLoose y e.platform (U.calling g mk a) = true :=
    Spec.appliesLoose_calling (g := g) h hdg hn hkY hinitY
      (X.room_calling (g := g) (R' := (headSpec ws rm).room) hsize hmY hcY hframes (by rw [hlY]; omega) h4 h5) h1
  obtain ⟨mid, hmid⟩ := h.above
  have hfr : (U.setTop g).frames = (.java g :: mid) ++ below := by rw [State.frames_setTop' g h.top, hmid]; rfl
  obtain ⟨o, s₂, hsteps, -, hend, hq⟩ := Steps.callFree hM p X.admits X.cas X.clock (acts := []) hfr happ hPc trivial
  have hq' : vx_Q Qc XC mc ms free a (U.calling g mk a) o s₂ := hq
  rw [State.frames_setTop' g h.top] at hend
  obtain ⟨g₀, hg0⟩ := Option.isSome_iff_exists.mp h.top
  obtain ⟨r, hr⟩ := State.topJava?_eq_some.mp hg0
  have hr' : (({ U with heap := s₂.heap, slotsUsed := s₂.slotsUsed } : State).setVm s₂.vm).frames = .java g₀ :: r := hr
  rcases hq' with ⟨hqc, L, hfe, hL⟩ | ⟨q, rfl, E, ce, L, hx, hce, hcv, hcl, hW₂, hsm, hL⟩
  · obtain ⟨⟨v, rfl⟩, hW₂, e2, q2, q3, q4, q5, q6⟩ := id hfe
    have e3 : s₂ = ({ (U.calling g mk a).setFrames s₂.frames with heap := s₂.heap, slotsUsed := s₂.slotsUsed } : State).setVm s₂.vm := by
      have : s₂ = ({ s₂ with vm := (U.calling g mk a).vm } : State).setVm s₂.vm := rfl
      rw [e2] at this
      exact this
    obtain ⟨c₂, i₂, len₂, hc₂, hd₂, hf₂⟩ := hend
    have hW' : U.WarmedH s₂.vm := hW₂
    have hcc : c₂ = c := by
      have h1 : s₂.code? g.method = U.code? g.method := by
        rw [State.code?_eq, State.code?_eq, hW'.alike.method?]
      exact Option.some.inj (hc₂.symm.trans (h1.trans h.code))
    subst hcc
    have hlen : len₂ = len := by rw [hdg] at hd₂; cases hd₂; rfl
    subst hlen
    have hs₂ : s₂ = (({ U with heap := s₂.heap, slotsUsed := s₂.slotsUsed } : State).setVm s₂.vm).setTop { g with pc := g.pc + len₂, stack := v.toList ++ g.stack } := by
      refine e3.trans ?_
      rw [hf₂, State.calling_eq h.top, State.setFrames_setFrames, State.setTop_of_frames _ hr', hr]
      rfl
    have hsame : U.sameButNew ({ U with heap := s₂.heap, slotsUsed := s₂.slotsUsed } : State) L mc ms := by
      refine ⟨?_, q2, q3, q4, q5, q6⟩
      obtain ⟨t, ht, -⟩ := State.frames_cons hr
      show ({ U with heap := s₂.heap, slotsUsed := s₂.slotsUsed } : State) = { U.setFrames U.frames with heap := s₂.heap, slotsUsed := s₂.slotsUsed }
      rw [State.setFrames_self ht]
    subst hg
    refine Or.inl ⟨v, ⟨(({ U with heap := s₂.heap, slotsUsed := s₂.slotsUsed } : State).setVm s₂.vm), Ls ++ L, c0 + mc, s0 + ms⟩,
      ⟨X.admits, X.cas, X.clock, X.frames, X.room, X.hears, X.method, X.code, (X.here.setHeapUsed s₂.heap s₂.slotsUsed).setVm hW'.alike, X.tail, State.WarmedH.trans X.warmed hW', X.limits, X.bytes, X.same.trans (hsame.setVm s.vm)⟩,
      ⟨g, mk, s₂, L, rfl, rfl, hqc, rfl, hL, rfl, rfl⟩, ?_⟩
    show Steps p.tables e below _ ((({ U with heap := s₂.heap, slotsUsed := s₂.slotsUsed } : State).setVm s₂.vm).setTop { g with pc := g.pc + len₂, stack := v.toList ++ g.stack })
    rw [← hs₂]
    exact hsteps
  · obtain ⟨e2, q2, q3, q4, q5, q6⟩ := id hsm
    have e3 : s₂ = ({ (U.calling g mk a).setFrames s₂.frames with heap := s₂.heap, slotsUsed := s₂.slotsUsed } : State).setVm s₂.vm := by
      have : s₂ = ({ s₂ with vm := (U.calling g mk a).vm } : State).setVm s₂.vm := rfl
      rw [e2] at this
      exact this
    have hf₂ : s₂.frames = .throwing q :: .java g :: U.frames.tail := hend
    have hW' : U.WarmedH s₂.vm := hW₂
    have hs₂ : s₂ = ((({ U with heap := s₂.heap, slotsUsed := s₂.slotsUsed } : State).setVm s₂.vm).setTop g).pushFrame (.throwing q) := by
      refine e3.trans ?_
      rw [hf₂, State.calling_eq h.top, State.setFrames_setFrames, State.pushFrame, State.frames_setTop _ hr', State.setTop_of_frames _ hr', State.setFrames_setFrames, hr]
      rfl
    have hsame : U.sameButNew ({ U with heap := s₂.heap, slotsUsed := s₂.slotsUsed } : State) L mc ms := by
      refine ⟨?_, q2, q3, q4, q5, q6⟩
      obtain ⟨t, ht, -⟩ := State.frames_cons hr
      show ({ U with heap := s₂.heap, slotsUsed := s₂.slotsUsed } : State) = { U.setFrames U.frames with heap := s₂.heap, slotsUsed := s₂.slotsUsed }
      rw [State.setFrames_self ht]
    subst hg
    refine Or.inr ⟨q, ⟨(({ U with heap := s₂.heap, slotsUsed := s₂.slotsUsed } : State).setVm s₂.vm), Ls ++ L, c0 + mc, s0 + ms⟩,
      ⟨X.admits, X.cas, X.clock, X.frames, X.room, X.hears, X.method, X.code, (X.here.setHeapUsed s₂.heap s₂.slotsUsed).setVm hW'.alike, X.tail, State.WarmedH.trans X.warmed hW', X.limits, X.bytes, X.same.trans (hsame.setVm s.vm)⟩,
      ⟨g, mk, s₂, L, E, ce, rfl, rfl, hx, hce, hcv, hcl, rfl, hL, rfl, rfl⟩, ?_⟩
    show Steps p.tables e below _ (((({ U with heap := s₂.heap, slotsUsed := s₂.slotsUsed } : State).setVm s₂.vm).setTop g).pushFrame (.throwing q))
    rw [← hs₂]
    exact hsteps
end
variable {p : Program} {l : Launch} {e : Env} {R : Room} {s : State} {m : MethodId} {args : Array Value} {below : List Frame} {meth : Method} {c : Code} {T : State} {H : Heap} {locs : List Loc} {cells slots : Nat}
theorem vx_callVX (X : Stand p l e R s m args below meth c T locs cells slots) (hexec : p.tables.exec = Jvm.exec) {own C : String} {index : Nat} {y : MethodName} {bytes : ByteArray} {maxL : Nat} {ret : Option FieldType} {hh : List (Nat × Nat × Nat × Nat)}
    (hown : s.vm.findClass own = some m.cls) (hlink : (Cond.methodLink own index y).before args s = true) (hinst : (Cond.instanceMethod y).before args s = true) (hsel : (Cond.selects C y y).before args s = true)
    (hcode : (Cond.codeWith y bytes maxL ret hh).before args s = true) (hy : y.cls ≠ "java/lang/invoke/MethodHandle" ∧ y.cls ≠ "java/lang/invoke/VarHandle")
    {W9 : Nat} {Pre : Pt → Array Value → Prop} {Post : Pt → Array Value → Option Value → Pt → Prop} {PostX : Pt → Array Value → Addr → Pt → Prop} (hK : vx_Back l R p e below s args y 3 W9 Pre Post PostX)
    {b : Addr} {cellB : Cell} (hcell : T.heap[b]? = some cellB) (hobj : cellB.vm.isStatics = false) (hcls : s.vm.findClass C = some cellB.cls)
    {g : JFrame} (hg : g.method = m) (hsize : g.locals.size = c.maxLocals) {argsL rest : List Value} (hlen : ∀ sig, parseMethodDescriptor y.desc = some sig → argsL.length = sig.parameters.length)
    (hstack : g.stack = argsL.reverse ++ .ref b :: rest) (hW : 2 * g.monitorRoom + (rest.map fun v => v.category).sum ≤ W9) (hdg : decode c.code g.pc = .ok (.invokevirtual index, 3))
    (hpre : ∀ vm₁, s.WarmedH vm₁ → Pre ⟨T.setVm vm₁, locs, cells, slots⟩ (Value.ref b :: argsL).toArray) :
    (∃ (v : Option Value) (vm₁ : Vm) (B : Pt), s.WarmedH vm₁ ∧ Stand p l e R s m args below meth c B.U B.locs B.cells B.slots ∧ Post ⟨T.setVm vm₁, locs, cells, slots⟩ (Value.ref b :: argsL).toArray v B ∧
      ∀ target, Steps p.tables e below (B.U.setTop { g with pc := g.pc + 3, stack := v.toList ++ rest }) target → Steps p.tables e below (T.setTop g) target) ∨
    (∃ (q : Addr) (vm₁ : Vm) (B : Pt), s.WarmedH vm₁ ∧ Stand p l e R s m args below meth c B.U B.locs B.cells B.slots ∧ PostX ⟨T.setVm vm₁, locs, cells, slots⟩ (Value.ref b :: argsL).toArray q B ∧
      Steps p.tables e below (T.setTop g) ((B.U.setTop { g with stack := rest }).pushFrame (.throwing q))) := by
  obtain ⟨mk, methM, hnamed, hmethM, hstM, habM⟩ := Cond.instanceMethod_spec hinst
  obtain ⟨m8, methM', cM, hn8, hmethM', -, -, -, -, -, -, hsigM⟩ := Cond.codeWith_spec hcode
  cases Option.some.inj (hn8.symm.trans hnamed)
  cases hmethM.symm.trans hmethM'
  obtain ⟨c2, r2, m2, q1, q2, q3, q4, kP, hkP, hkPi⟩ := Cond.selects_spec hsel
  cases hcls.symm.trans q1
  cases (State.methodFound?_of_named hnamed hy).symm.trans q2
  cases hnamed.symm.trans q3
  have hselP : selectMethod e.platform s.vm cellB.cls mk = .method mk := by rw [Launch.admits_selectMethod X.admits]; exact q4
  obtain ⟨vm₁, X₁, hstep₁⟩ := X.invokevirtual hexec hown hlink hnamed hmethM hstM hkP hkPi hy (a := b) (cell := cellB) hcell
    (fun z h => by rw [h] at hobj; cases hobj) hselP hmethM habM hkP hkPi (g := g) hg (argsL := argsL) (rest := rest) (hlen _ hsigM) hstack hdg
  rcases hK m meth c ⟨T.setVm vm₁, locs, cells, slots⟩ { g with stack := rest } (.invokevirtual index) mk (Value.ref b :: argsL).toArray X₁ hg hsize hdg hW (X₁.named hnamed) (hpre vm₁ X₁.warmed) with ⟨v, B, X', hpost, hsteps⟩ | ⟨q, B, X', hpost, hsteps⟩
  · exact Or.inl ⟨v, vm₁, B, X₁.warmed, X', hpost, fun target h => hstep₁ _ fun acts => by rw [doInvoke_state]; exact hsteps.trans h⟩
  · exact Or.inr ⟨q, vm₁, B, X₁.warmed, X', hpost, hstep₁ _ fun acts => by rw [doInvoke_state]; exact hsteps⟩
theorem vx_callSX (X : Stand p l e R s m args below meth c T locs cells slots) (hexec : p.tables.exec = Jvm.exec) {own : String} {index : Nat} {y : MethodName} {bytes : ByteArray} {maxL : Nat} {ret : Option FieldType} {hh : List (Nat × Nat × Nat × Nat)}
    (hown : s.vm.findClass own = some m.cls) (hlink : (Cond.methodLink own index y).before args s = true) (hstat : (Cond.static y).before args s = true) (hinit : (Cond.initialized y.cls).before args s = true)
    (hcode : (Cond.codeWith y bytes maxL ret hh).before args s = true) (hy : y.cls ≠ "java/lang/invoke/MethodHandle" ∧ y.cls ≠ "java/lang/invoke/VarHandle")
    {W9 : Nat} {Pre : Pt → Array Value → Prop} {Post : Pt → Array Value → Option Value → Pt → Prop} {PostX : Pt → Array Value → Addr → Pt → Prop} (hK : vx_Back l R p e below s args y 3 W9 Pre Post PostX)
    {g : JFrame} (hg : g.method = m) (hsize : g.locals.size = c.maxLocals) {argsL rest : List Value} (hlen : ∀ sig, parseMethodDescriptor y.desc = some sig → argsL.length = sig.parameters.length)
    (hstack : g.stack = argsL.reverse ++ rest) (hW : 2 * g.monitorRoom + (rest.map fun v => v.category).sum ≤ W9) (hdg : decode c.code g.pc = .ok (.invokestatic index, 3))
    (hpre : ∀ vm₁, s.WarmedH vm₁ → Pre ⟨T.setVm vm₁, locs, cells, slots⟩ argsL.toArray) :
    (∃ (v : Option Value) (vm₁ : Vm) (B : Pt), s.WarmedH vm₁ ∧ Stand p l e R s m args below meth c B.U B.locs B.cells B.slots ∧ Post ⟨T.setVm vm₁, locs, cells, slots⟩ argsL.toArray v B ∧
      ∀ target, Steps p.tables e below (B.U.setTop { g with pc := g.pc + 3, stack := v.toList ++ rest }) target → Steps p.tables e below (T.setTop g) target) ∨
    (∃ (q : Addr) (vm₁ : Vm) (B : Pt), s.WarmedH vm₁ ∧ Stand p l e R s m args below meth c B.U B.locs B.cells B.slots ∧ PostX ⟨T.setVm vm₁, locs, cells, slots⟩ argsL.toArray q B ∧
      Steps p.tables e below (T.setTop g) ((B.U.setTop { g with stack := rest }).pushFrame (.throwing q))) := by
  obtain ⟨mk, methM, cM, hnamed, hmethM, -, -, -, -, -, -, hsigM⟩ := Cond.codeWith_spec hcode
  have hstatic : methM.isStatic = true := Cond.static_spec hnamed hmethM hstat
  obtain ⟨kP, hkP, -⟩ := className_of_methodNamed hnamed
  have hinitP : kP.init = .initialized := Cond.initialized_spec (findClass_of_methodNamed hnamed) hkP hinit
  obtain ⟨vm₁, X₁, hstep₁⟩ := X.invokestatic hexec hown hlink hnamed hmethM hstatic hkP hinitP hy (g := g) hg (argsL := argsL) (rest := rest) (hlen _ hsigM) hstack hdg
  rcases hK m meth c ⟨T.setVm vm₁, locs, cells, slots⟩ { g with stack := rest } (.invokestatic index) mk argsL.toArray X₁ hg hsize hdg hW (X₁.named hnamed) (hpre vm₁ X₁.warmed) with ⟨v, B, X', hpost, hsteps⟩ | ⟨q, B, X', hpost, hsteps⟩
  · exact Or.inl ⟨v, vm₁, B, X₁.warmed, X', hpost, fun target h => hstep₁ _ fun acts => by rw [doInvoke_state]; exact hsteps.trans h⟩
  · exact Or.inr ⟨q, vm₁, B, X₁.warmed, X', hpost, hstep₁ _ fun acts => by rw [doInvoke_state]; exact hsteps⟩
theorem vx_callVW (X : Stand p l e R s m args below meth c T locs cells slots) (hexec : p.tables.exec = Jvm.exec) {own C : String} {index : Nat} {y : MethodName} {bytes : ByteArray} {maxL : Nat} {ret : Option FieldType} {hh : List (Nat × Nat × Nat × Nat)}
    (hown : s.vm.findClass own = some m.cls) (hlink : (Cond.methodLink own index y).before args s = true) (hinst : (Cond.instanceMethod y).before args s = true) (hsel : (Cond.selects C y y).before args s = true)
    (hcode : (Cond.codeWith y bytes maxL ret hh).before args s = true) (hy : y.cls ≠ "java/lang/invoke/MethodHandle" ∧ y.cls ≠ "java/lang/invoke/VarHandle")
    {W9 : Nat} {Pre : Pt → Array Value → Prop} {Post : Pt → Array Value → Option Value → Pt → Prop} (hK : Back l R p e below s args y 3 W9 Pre Post)
    {b : Addr} {cellB : Cell} (hcell : T.heap[b]? = some cellB) (hobj : cellB.vm.isStatics = false) (hcls : s.vm.findClass C = some cellB.cls)
    {g : JFrame} (hg : g.method = m) (hsize : g.locals.size = c.maxLocals) {argsL rest : List Value} (hlen : ∀ sig, parseMethodDescriptor y.desc = some sig → argsL.length = sig.parameters.length)
    (hstack : g.stack = argsL.reverse ++ .ref b :: rest) (hW : 2 * g.monitorRoom + (rest.map fun v => v.category).sum ≤ W9) (hdg : decode c.code g.pc = .ok (.invokevirtual index, 3))
    (hpre : ∀ vm₁, s.WarmedH vm₁ → Pre ⟨T.setVm vm₁, locs, cells, slots⟩ (Value.ref b :: argsL).toArray) :
    ∃ (v : Option Value) (vm₁ : Vm) (B : Pt), s.WarmedH vm₁ ∧ Stand p l e R s m args below meth c B.U B.locs B.cells B.slots ∧ Post ⟨T.setVm vm₁, locs, cells, slots⟩ (Value.ref b :: argsL).toArray v B ∧
      ∀ target, Steps p.tables e below (B.U.setTop { g with pc := g.pc + 3, stack := v.toList ++ rest }) target → Steps p.tables e below (T.setTop g) target := by
  obtain ⟨mk, methM, hnamed, hmethM, hstM, habM⟩ := Cond.instanceMethod_spec hinst
  obtain ⟨m8, methM', cM, hn8, hmethM', -, -, -, -, -, -, hsigM⟩ := Cond.codeWith_spec hcode
  cases Option.some.inj (hn8.symm.trans hnamed)
  cases hmethM.symm.trans hmethM'
  obtain ⟨c2, r2, m2, q1, q2, q3, q4, kP, hkP, hkPi⟩ := Cond.selects_spec hsel
  cases hcls.symm.trans q1
  cases (State.methodFound?_of_named hnamed hy).symm.trans q2
  cases hnamed.symm.trans q3
  have hselP : selectMethod e.platform s.vm cellB.cls mk = .method mk := by rw [Launch.admits_selectMethod X.admits]; exact q4
  obtain ⟨vm₁, X₁, hstep₁⟩ := X.invokevirtual hexec hown hlink hnamed hmethM hstM hkP hkPi hy (a := b) (cell := cellB) hcell
    (fun z h => by rw [h] at hobj; cases hobj) hselP hmethM habM hkP hkPi (g := g) hg (argsL := argsL) (rest := rest) (hlen _ hsigM) hstack hdg
  obtain ⟨v, B, X', hpost, hsteps⟩ := hK m meth c ⟨T.setVm vm₁, locs, cells, slots⟩ { g with stack := rest } (.invokevirtual index) mk (Value.ref b :: argsL).toArray X₁ hg hsize hdg hW (X₁.named hnamed) (hpre vm₁ X₁.warmed)
  exact ⟨v, vm₁, B, X₁.warmed, X', hpost, fun target h => hstep₁ _ fun acts => by rw [doInvoke_state]; exact hsteps.trans h⟩
abbrev vx_CVW (R : Room) (s : State) (args : Array Value) (own C : String) (index : Nat) (y : MethodName) (bytes : ByteArray) (maxL : Nat) (ret : Option FieldType) (hh : List (Nat × Nat × Nat × Nat)) (ws : List Cond) (rm : Room) (mc ms n : Nat) : Prop :=
  (rm.cells = mc ∧ rm.slots = ms ∧ rm.frames + 1 ≤ R.frames ∧ 8 + (maxL + 11) + rm.locals ≤ R.locals ∧ (∀ w ∈ ws, ∀ (a' : Array Value) (U : State), s.WarmedH U.vm → w.before a' U = true) ∧ Cond.codeWith y bytes maxL ret hh ∈ ws) ∧
  (Cond.codeWith y bytes maxL ret hh).before args s = true ∧ (Cond.initialized y.cls).before args s = true ∧ (y.cls ≠ "java/lang/invoke/MethodHandle" ∧ y.cls ≠ "java/lang/invoke/VarHandle") ∧
  (∀ sig, parseMethodDescriptor y.desc = some sig → n = sig.parameters.length) ∧ (Cond.methodLink own index y).before args s = true ∧ (Cond.instanceMethod y).before args s = true ∧ (Cond.selects C y y).before args s = true
theorem vx_cwVW {own C : String} {index maxL mc ms : Nat} {y : MethodName} {bytes : ByteArray} {ret : Option FieldType} {hh : List (Nat × Nat × Nat × Nat)} {Ts ws ws' : List Cond} {rm : Room} (n : Nat) (ht : ∀ w ∈ Ts, w.before args s = true) (hT : GoodIn Ts (wsV own index C y ws)) (hw : ws = Cond.codeWith y bytes maxL ret hh :: ws') (hrc : rm.cells = mc) (hrs : rm.slots = ms)
    (hd : y.cls = C ∧ y.cls ≠ "java/lang/invoke/MethodHandle" ∧ y.cls ≠ "java/lang/invoke/VarHandle" ∧ (parseMethodDescriptor y.desc).map (fun d => d.parameters.length) = some n) (hR : rm.frames + 1 ≤ R.frames ∧ 8 + (maxL + 11) + rm.locals ≤ R.locals) :
    vx_CVW R s args own C index y bytes maxL ret hh ws rm mc ms n := by
  obtain ⟨hC, hd⟩ := hd
  subst hC
  have ok : ∀ w ∈ wsV own index y.cls y ws, w.before args s = true := fun w h => ht w (hT w h).1
  have hG : GoodIn Ts ws := fun w h => hT w (by unfold wsV; exact List.mem_append_right _ h)
  have hc : Cond.codeWith y bytes maxL ret hh ∈ ws := by rw [hw]; exact List.mem_cons_self
  refine ⟨⟨hrc, hrs, hR.1, hR.2, pay_in ht hG, hc⟩, ht _ (hG _ hc).1, ok _ (by simp [wsV]), ⟨hd.1, hd.2.1⟩, fun sig h => ?_, ok _ (by simp [wsV]), ok _ (by simp [wsV]), ok _ (by simp [wsV])⟩
  have h2 := hd.2.2
  rw [h] at h2
  exact (Option.some.inj h2).symm
theorem vx_runVW {y : MethodName} {bytes cc : ByteArray} {maxL nL mc ms n index : Nat} {ret : Option FieldType} {hh : List (Nat × Nat × Nat × Nat)} {ws : List Cond} {rm : Room} {Pc : Array Value → State → Prop} {Qc : Array Value → State → Outcome → State → Prop} {free : Addr → Prop} {Ts : List Cond} {own C : String} {b : Addr} {As rest : List Value} {g : JFrame}
    (S : CallFix p m c cc nL s args Ts own) (hM : Met l y ws rm Pc Qc mc ms free) (cw : vx_CVW R s args own C index y bytes maxL ret hh ws rm mc ms n) (hp : PreV s H C b Pc As)
    (hg : g.method = m) (hn : As.length = n) (hsize : g.locals.size = nL) (hstack : g.stack = As.reverse ++ .ref b :: rest) (hW : 2 * g.monitorRoom + (rest.map fun v => v.category).sum ≤ 8) (hdg : decode cc g.pc = .ok (.invokevirtual index, 3)) (hf : cells + mc ≤ R.cells ∧ slots + ms ≤ R.slots) :
    va_Run p l e R s m args below meth c H locs cells slots mc ms g rest (Qc (Value.ref b :: As).toArray) free := by
  obtain ⟨⟨hrc, hrs, hfr, hlo, hws, hcw⟩, hcode, hini, hy, hlen, hl, hin, hse⟩ := cw
  have hK : Back l R p e below s args y 3 8 (PreOf R mc ms Pc) (PostOf Qc mc ms free) := va_backW (hh := hh) (bytes := bytes) (maxL := maxL) (ret := ret) hM hp.1 hrc hrs hfr hlo hws hcw (fun a' U hW => word_at hW (Or.inl (by first | rfl | simp [Cond.onTables, Cond.keeps, Cond.steady])) hini)
  obtain ⟨hx, hb, hml, ho, -⟩ := S
  obtain ⟨-, ⟨cellB, hcB, hoB, hclB⟩, hPc⟩ := hp
  intro T hT X
  obtain ⟨v, vm₁, ⟨U', l2, c2, s2⟩, hW₁, X', ⟨g', mk, t, L, e1, e2, hq, h1, hL, h2, h3⟩, st⟩ := vx_callVW X hx (C := C) (hh := hh) (bytes := bytes) (maxL := maxL) (ret := ret) ho hl hin hse hcode hy hK (by rw [hT]; exact hcB) hoB hclB hg (hsize.trans hml.symm) (argsL := As) (rest := rest) (fun sig h => hn.trans (hlen sig h)) hstack hW (by rw [hb]; exact hdg)
    (fun vm₁ hW₁ => ⟨hf.1, hf.2, hPc (T.setVm vm₁) hT hW₁⟩)
  dsimp only [Pt.U, Pt.locs, Pt.cells, Pt.slots] at X' e1 e2 h1 h2 h3 st
  subst h1; subst h2; subst h3
  exact ⟨v, (T.setVm vm₁).calling g' mk (Value.ref b :: As).toArray, t, U', L, hT, X', hL, e1, e2, hq, st⟩
section
variable {y : MethodName} {bytes cc : ByteArray} {maxL nL mc ms n index : Nat} {ret : Option FieldType} {ws : List Cond} {rm : Room} {Pc : Array Value → State → Prop} {Qc : Array Value → State → Outcome → State → Prop} {XC : String → State → State → Prop} {free : Addr → Prop} {Ts : List Cond} {own C : String} {b : Addr} {As rest : List Value} {g : JFrame}
theorem vx_runVX {hh : List (Nat × Nat × Nat × Nat)} (S : CallFix p m c cc nL s args Ts own) (hM : vx_Met l y ws rm Pc Qc XC mc ms free) (cw : vx_CVW R s args own C index y bytes maxL ret hh ws rm mc ms n) (hp : PreV s H C b Pc As)
    (hg : g.method = m) (hn : As.length = n) (hsize : g.locals.size = nL) (hstack : g.stack = As.reverse ++ .ref b :: rest) (hW : 2 * g.monitorRoom + (rest.map fun v => v.category).sum ≤ 8) (hdg : decode cc g.pc = .ok (.invokevirtual index, 3)) (hf : cells + mc ≤ R.cells ∧ slots + ms ≤ R.slots) :
    vx_Run p l e R s m args below meth c H locs cells slots mc ms g rest (Qc (Value.ref b :: As).toArray) XC free := by
  obtain ⟨⟨hrc, hrs, hfr, hlo, hws, hcw⟩, hcode, hini, hy, hlen, hl, hin, hse⟩ := cw
  have hK : vx_Back l R p e below s args y 3 8 (PreOf R mc ms Pc) (PostOf Qc mc ms free) (vx_Post XC mc ms free) := vx_backW (hh := hh) (bytes := bytes) (maxL := maxL) (ret := ret) hM hp.1 hrc hrs hfr hlo hws hcw (fun a' U hW => word_at hW (Or.inl (by first | rfl | simp [Cond.onTables, Cond.keeps, Cond.steady])) hini)
  obtain ⟨hx, hb, hml, ho, -⟩ := S
  obtain ⟨-, ⟨cellB, hcB, hoB, hclB⟩, hPc⟩ := hp
  intro T hT X
  rcases vx_callVX X hx (C := C) (hh := hh) (bytes := bytes) (maxL := maxL) (ret := ret) ho hl hin hse hcode hy hK (by rw [hT]; exact hcB) hoB hclB hg (hsize.trans hml.symm) (argsL := As) (rest := rest) (fun sig h => hn.trans (hlen sig h)) hstack hW (by rw [hb]; exact hdg)
    (fun vm₁ hW₁ => ⟨hf.1, hf.2, hPc (T.setVm vm₁) hT hW₁⟩) with ⟨v, vm₁, ⟨U', l2, c2, s2⟩, hW₁, X', ⟨g', mk, t, L, e1, e2, hq, h1, hL, h2, h3⟩, st⟩ | ⟨q, vm₁, ⟨U', l2, c2, s2⟩, hW₁, X', ⟨g', mk, t, L, E, ce, e1, e2, hq, hce, hcv, hcl, h1, hL, h2, h3⟩, st⟩
  · dsimp only [Pt.U, Pt.locs, Pt.cells, Pt.slots] at X' e1 e2 h1 h2 h3 st
    subst h1; subst h2; subst h3
    exact Or.inl ⟨v, (T.setVm vm₁).calling g' mk (Value.ref b :: As).toArray, t, U', L, hT, X', hL, e1, e2, hq, st⟩
  · dsimp only [Pt.U, Pt.locs, Pt.cells, Pt.slots] at X' e1 e2 h1 h2 h3 st hcl
    subst h1; subst h2; subst h3
    exact Or.inr ⟨q, (T.setVm vm₁).calling g' mk (Value.ref b :: As).toArray, t, U', L, E, ce, hT, X', hL, e1, e2, hq, hce, hcv, vx_cls hW₁ hcl, st⟩
theorem vx_runSX {hh : List (Nat × Nat × Nat × Nat)} (S : CallFix p m c cc nL s args Ts own) (hM : vx_Met l y ws rm Pc Qc XC mc ms free) (cw : vx_CSW R s args own index y bytes maxL ret hh ws rm mc ms n) (hp : PreS s H Pc As)
    (hg : g.method = m) (hn : As.length = n) (hsize : g.locals.size = nL) (hstack : g.stack = As.reverse ++ rest) (hW : 2 * g.monitorRoom + (rest.map fun v => v.category).sum ≤ 8) (hdg : decode cc g.pc = .ok (.invokestatic index, 3)) (hf : cells + mc ≤ R.cells ∧ slots + ms ≤ R.slots) :
    vx_Run p l e R s m args below meth c H locs cells slots mc ms g rest (Qc As.toArray) XC free := by
  obtain ⟨⟨hrc, hrs, hfr, hlo, hws, hcw⟩, hcode, hini, hy, hlen, hl, hstt⟩ := cw
  have hK : vx_Back l R p e below s args y 3 8 (PreOf R mc ms Pc) (PostOf Qc mc ms free) (vx_Post XC mc ms free) := vx_backW (hh := hh) (bytes := bytes) (maxL := maxL) (ret := ret) hM hp.1 hrc hrs hfr hlo hws hcw (fun a' U hW => word_at hW (Or.inl (by first | rfl | simp [Cond.onTables, Cond.keeps, Cond.steady])) hini)
  obtain ⟨hx, hb, hml, ho, -⟩ := S
  intro T hT X
  rcases vx_callSX X hx (hh := hh) (bytes := bytes) (maxL := maxL) (ret := ret) ho hl hstt hini hcode hy hK hg (hsize.trans hml.symm) (argsL := As) (rest := rest) (fun sig h => hn.trans (hlen sig h)) hstack hW (by rw [hb]; exact hdg)
    (fun vm₁ hW₁ => ⟨hf.1, hf.2, hp.2 (T.setVm vm₁) hT hW₁⟩) with ⟨v, vm₁, ⟨U', l2, c2, s2⟩, hW₁, X', ⟨g', mk, t, L, e1, e2, hq, h1, hL, h2, h3⟩, st⟩ | ⟨q, vm₁, ⟨U', l2, c2, s2⟩, hW₁, X', ⟨g', mk, t, L, E, ce, e1, e2, hq, hce, hcv, hcl, h1, hL, h2, h3⟩, st⟩
  · dsimp only [Pt.U, Pt.locs, Pt.cells, Pt.slots] at X' e1 e2 h1 h2 h3 st
    subst h1; subst h2; subst h3
    exact Or.inl ⟨v, (T.setVm vm₁).calling g' mk As.toArray, t, U', L, hT, X', hL, e1, e2, hq, st⟩
  · dsimp only [Pt.U, Pt.locs, Pt.cells, Pt.slots] at X' e1 e2 h1 h2 h3 st hcl
    subst h1; subst h2; subst h3
    exact Or.inr ⟨q, (T.setVm vm₁).calling g' mk As.toArray, t, U', L, E, ce, hT, X', hL, e1, e2, hq, hce, hcv, vx_cls hW₁ hcl, st⟩
end
end VXH
theorem vx_ofWH {l : Launch} {y : MethodName} {ws ws' : List Cond} {rm : Room} {Pc : Array Value → State → Prop} {Qc : Array Value → State → Outcome → State → Prop} {XC : String → State → State → Prop} {mc ms : Nat} {free : Addr → Prop} {cc : ByteArray} {maxL : Nat} {ret : Option FieldType} {hh : List (Nat × Nat × Nat × Nat)}
    (hy : plainName y.cls = true) (hw : ws = Cond.codeWith y cc maxL ret hh :: ws')
    (body : ∀ p e s m args below meth c s₁, BodyLoose p l y (headSpec ws rm) cc maxL ret e s m args below meth c s₁ → c.maxLocals = maxL → Pc args s →
      W p l e (headSpec ws rm).room s m args below meth c s.heap [] 0 0 (vx_MQ below Qc XC args s mc ms free) (entryFrame m args maxL)) : vx_Met l y ws rm Pc Qc XC mc ms free := by
  refine MetFree.of_bodyS (code := cc) (maxLocals := maxL) (ret := ret) hy ?_ ?_
  · intro args s m h hn
    obtain ⟨m9, meth, c, hn9, h1, h2, h3, h4, -, h5, h6, -⟩ := Cond.codeWith_spec (atoms_spec (ws := ws) h _ (by rw [hw]; exact List.mem_cons_self))
    cases hn.symm.trans hn9
    exact ⟨meth, c, h1, h2, h3, h4, h5, h6⟩
  · intro p e s m args below meth c s₁ B hml hP _
    have hh0 : s₁.heap = s.heap := by rw [B.state]; rfl
    obtain ⟨t, a1, o, b1, b2, b3⟩ := body p e s m args below meth c s₁ B hml hP s₁ hh0 (Stand.of_body B)
    exact ⟨t, o, a1, b1, b2, b3⟩
/-! ===== END ===== -/
end
section
/-! ===== BEGIN printed: names, fields, word lists, decode rows ===== -/
def RX0 : String := "UnibusMachine$Bus"
def TX0 : u_T := fun k => match k with
  | 0 => ("UnibusMachine$Bus", "memory", "[I", true)
  | 1 => ("UnibusMachine$Bus", "map", "LUnibusMachine$PageMap;", true)
  | 2 => ("UnibusMachine$Bus", "status", "LUnibusMachine$Status;", true)
  | 3 => ("UnibusMachine$Bus", "keyboard", "LUnibusMachine$Keyboard;", true)
  | 4 => ("UnibusMachine$Bus", "printer", "LUnibusMachine$Printer;", true)
  | _ => ("UnibusMachine$Bus", "drive", "LUnibusMachine$Drive;", true)
def tyX0 : Nat → FieldType := fun k => match k with
  | 0 => .array .int
  | 1 => .object "UnibusMachine$PageMap"
  | 2 => .object "UnibusMachine$Status"
  | 3 => .object "UnibusMachine$Keyboard"
  | 4 => .object "UnibusMachine$Printer"
  | _ => .object "UnibusMachine$Drive"
abbrev wsX00 : List Cond := u_ws RX0 TX0 6
theorem nmX0 : ∀ a, a < 6 → ∀ b, b < 6 → a ≠ b → (TX0 a).2.1 ≠ (TX0 b).2.1 := by decide +kernel
theorem tyX0_ok : ∀ k, k < 6 → parseFieldDescriptor (TX0 k).2.2.1 = some (tyX0 k) := by decide +kernel
abbrev cX0_init : ByteArray := prog_2_method_1_code
def yX0_init : MethodName := ⟨RX0, "<init>", "()V"⟩
abbrev cX0_peek : ByteArray := prog_2_method_2_code
def yX0_peek : MethodName := ⟨RX0, "peek", "(I)I"⟩
abbrev cX0_read : ByteArray := prog_2_method_3_code
def yX0_read : MethodName := ⟨RX0, "read", "(I)I"⟩
abbrev cX0_write : ByteArray := prog_2_method_4_code
def yX0_write : MethodName := ⟨RX0, "write", "(II)Z"⟩
abbrev cX0_nextInstruction : ByteArray := prog_2_method_5_code
def yX0_nextInstruction : MethodName := ⟨RX0, "nextInstruction", "()V"⟩
abbrev cX0_goOn : ByteArray := prog_2_method_6_code
def yX0_goOn : MethodName := ⟨RX0, "goOn", "()V"⟩
abbrev cX0_reset : ByteArray := prog_2_method_7_code
def yX0_reset : MethodName := ⟨RX0, "reset", "()V"⟩
def RX1 : String := "UnibusMachine$Drive"
def TX1 : u_T := fun k => match k with
  | 0 => ("UnibusMachine$Line", "bits", "I", false)
  | 1 => ("UnibusMachine$Line", "wanting", "Z", false)
  | 2 => ("UnibusMachine$Drive", "words", "[I", true)
  | 3 => ("UnibusMachine$Drive", "writing", "I", false)
  | 4 => ("UnibusMachine$Drive", "wrong", "I", false)
  | 5 => ("UnibusMachine$Drive", "count", "I", false)
  | 6 => ("UnibusMachine$Drive", "address", "I", false)
  | 7 => ("UnibusMachine$Drive", "sector", "I", false)
  | 8 => ("UnibusMachine$Drive", "left", "I", false)
  | _ => ("UnibusMachine$Drive", "fresh", "Z", false)
def tyX1 : Nat → FieldType := fun k => match k with
  | 0 => .int
  | 1 => .boolean
  | 2 => .array .int
  | 3 => .int
  | 4 => .int
  | 5 => .int
  | 6 => .int
  | 7 => .int
  | 8 => .int
  | _ => .boolean
abbrev wsX10 : List Cond := u_ws RX1 TX1 10
theorem nmX1 : ∀ a, a < 10 → ∀ b, b < 10 → a ≠ b → (TX1 a).2.1 ≠ (TX1 b).2.1 := by decide +kernel
theorem tyX1_ok : ∀ k, k < 10 → parseFieldDescriptor (TX1 k).2.2.1 = some (tyX1 k) := by decide +kernel
abbrev cX1_init : ByteArray := prog_3_method_1_code
def yX1_init : MethodName := ⟨RX1, "<init>", "()V"⟩
abbrev cX1_begin : ByteArray := prog_3_method_2_code
def yX1_begin : MethodName := ⟨RX1, "begin", "(I)V"⟩
abbrev cX1_goOn : ByteArray := prog_3_method_3_code
def yX1_goOn : MethodName := ⟨RX1, "goOn", "([I)V"⟩
abbrev cX1_transfer : ByteArray := prog_3_method_4_code
def yX1_transfer : MethodName := ⟨RX1, "transfer", "([I)V"⟩
abbrev cX1_reset : ByteArray := prog_3_method_5_code
def yX1_reset : MethodName := ⟨RX1, "reset", "()V"⟩
def RX2 : String := "UnibusMachine$Keyboard"
def TX2 : u_T := fun k => match k with
  | 0 => ("UnibusMachine$Line", "bits", "I", false)
  | 1 => ("UnibusMachine$Line", "wanting", "Z", false)
  | _ => ("UnibusMachine$Keyboard", "character", "I", false)
def tyX2 : Nat → FieldType := fun k => match k with
  | 0 => .int
  | 1 => .boolean
  | _ => .int
abbrev wsX20 : List Cond := u_ws RX2 TX2 3
theorem nmX2 : ∀ a, a < 3 → ∀ b, b < 3 → a ≠ b → (TX2 a).2.1 ≠ (TX2 b).2.1 := by decide +kernel
theorem tyX2_ok : ∀ k, k < 3 → parseFieldDescriptor (TX2 k).2.2.1 = some (tyX2 k) := by decide +kernel
abbrev cX2_init : ByteArray := prog_4_method_1_code
def yX2_init : MethodName := ⟨RX2, "<init>", "()V"⟩
abbrev cX2_type : ByteArray := prog_4_method_2_code
def yX2_type : MethodName := ⟨RX2, "type", "(I)V"⟩
def RX3 : String := "UnibusMachine$Line"
def TX3 : u_T := fun k => match k with
  | _ => ("", "", "", false)
def tyX3 : Nat → FieldType := fun k => match k with
  | _ => .int
abbrev wsX30 : List Cond := u_ws RX3 TX3 0
theorem nmX3 : ∀ a, a < 0 → ∀ b, b < 0 → a ≠ b → (TX3 a).2.1 ≠ (TX3 b).2.1 := by decide +kernel
theorem tyX3_ok : ∀ k, k < 0 → parseFieldDescriptor (TX3 k).2.2.1 = some (tyX3 k) := by decide +kernel
abbrev cX3_init : ByteArray := prog_5_method_1_code
def yX3_init : MethodName := ⟨RX3, "<init>", "()V"⟩
abbrev cX3_become : ByteArray := prog_5_method_2_code
def yX3_become : MethodName := ⟨RX3, "become", "(I)V"⟩
def RX4 : String := "UnibusMachine$PageMap"
def TX4 : u_T := fun k => match k with
  | 0 => ("UnibusMachine$PageMap", "descriptors", "[I", true)
  | 1 => ("UnibusMachine$PageMap", "bases", "[I", true)
  | _ => ("UnibusMachine$PageMap", "control", "I", false)
def tyX4 : Nat → FieldType := fun k => match k with
  | 0 => .array .int
  | 1 => .array .int
  | _ => .int
abbrev wsX40 : List Cond := u_ws RX4 TX4 3
theorem nmX4 : ∀ a, a < 3 → ∀ b, b < 3 → a ≠ b → (TX4 a).2.1 ≠ (TX4 b).2.1 := by decide +kernel
theorem tyX4_ok : ∀ k, k < 3 → parseFieldDescriptor (TX4 k).2.2.1 = some (tyX4 k) := by decide +kernel
abbrev cX4_init : ByteArray := prog_6_method_1_code
def yX4_init : MethodName := ⟨RX4, "<init>", "()V"⟩
abbrev cX4_locate : ByteArray := prog_6_method_2_code
def yX4_locate : MethodName := ⟨RX4, "locate", "(IIZ)I"⟩
def RX5 : String := "UnibusMachine$Printer"
def TX5 : u_T := fun k => match k with
  | 0 => ("UnibusMachine$Line", "bits", "I", false)
  | 1 => ("UnibusMachine$Line", "wanting", "Z", false)
  | 2 => ("UnibusMachine$Printer", "paper", "[I", true)
  | 3 => ("UnibusMachine$Printer", "count", "I", false)
  | 4 => ("UnibusMachine$Printer", "character", "I", false)
  | 5 => ("UnibusMachine$Printer", "left", "I", false)
  | _ => ("UnibusMachine$Printer", "fresh", "Z", false)
def tyX5 : Nat → FieldType := fun k => match k with
  | 0 => .int
  | 1 => .boolean
  | 2 => .array .int
  | 3 => .int
  | 4 => .int
  | 5 => .int
  | _ => .boolean
abbrev wsX50 : List Cond := u_ws RX5 TX5 7
theorem nmX5 : ∀ a, a < 7 → ∀ b, b < 7 → a ≠ b → (TX5 a).2.1 ≠ (TX5 b).2.1 := by decide +kernel
theorem tyX5_ok : ∀ k, k < 7 → parseFieldDescriptor (TX5 k).2.2.1 = some (tyX5 k) := by decide +kernel
abbrev cX5_init : ByteArray := prog_7_method_1_code
def yX5_init : MethodName := ⟨RX5, "<init>", "()V"⟩
abbrev cX5_begin : ByteArray := prog_7_method_2_code
def yX5_begin : MethodName := ⟨RX5, "begin", "(I)V"⟩
abbrev cX5_goOn : ByteArray := prog_7_method_3_code
def yX5_goOn : MethodName := ⟨RX5, "goOn", "()V"⟩
abbrev cX5_reset : ByteArray := prog_7_method_4_code
def yX5_reset : MethodName := ⟨RX5, "reset", "()V"⟩
def RX6 : String := "UnibusMachine$Processor"
def TX6 : u_T := fun k => match k with
  | 0 => ("UnibusMachine$Processor", "registers", "[I", true)
  | 1 => ("UnibusMachine$Processor", "bus", "LUnibusMachine$Bus;", true)
  | 2 => ("UnibusMachine$Processor", "status", "LUnibusMachine$Status;", true)
  | 3 => ("UnibusMachine$Processor", "otherStack", "I", false)
  | 4 => ("UnibusMachine$Processor", "halted", "I", false)
  | 5 => ("UnibusMachine$Processor", "waiting", "Z", false)
  | 6 => ("UnibusMachine$Processor", "vector", "I", false)
  | 7 => ("UnibusMachine$Processor", "named", "I", false)
  | _ => ("UnibusMachine$Processor", "flags", "I", false)
def tyX6 : Nat → FieldType := fun k => match k with
  | 0 => .array .int
  | 1 => .object "UnibusMachine$Bus"
  | 2 => .object "UnibusMachine$Status"
  | 3 => .int
  | 4 => .int
  | 5 => .boolean
  | 6 => .int
  | 7 => .int
  | _ => .int
abbrev wsX60 : List Cond := u_ws RX6 TX6 9
theorem nmX6 : ∀ a, a < 9 → ∀ b, b < 9 → a ≠ b → (TX6 a).2.1 ≠ (TX6 b).2.1 := by decide +kernel
theorem tyX6_ok : ∀ k, k < 9 → parseFieldDescriptor (TX6 k).2.2.1 = some (tyX6 k) := by decide +kernel
abbrev cX6_init : ByteArray := prog_8_method_1_code
def yX6_init : MethodName := ⟨RX6, "<init>", "(LUnibusMachine$Bus;)V"⟩
abbrev cX6_mode : ByteArray := prog_8_method_2_code
def yX6_mode : MethodName := ⟨RX6, "mode", "()I"⟩
abbrev cX6_modeBefore : ByteArray := prog_8_method_3_code
def yX6_modeBefore : MethodName := ⟨RX6, "modeBefore", "()I"⟩
abbrev cX6_takeStatus : ByteArray := prog_8_method_4_code
def yX6_takeStatus : MethodName := ⟨RX6, "takeStatus", "(I)V"⟩
abbrev cX6_perform : ByteArray := prog_8_method_5_code
def yX6_perform : MethodName := ⟨RX6, "perform", "()V"⟩
abbrev cX6_settle : ByteArray := prog_8_method_6_code
def yX6_settle : MethodName := ⟨RX6, "settle", "()V"⟩
abbrev cX6_lookForInterrupt : ByteArray := prog_8_method_7_code
def yX6_lookForInterrupt : MethodName := ⟨RX6, "lookForInterrupt", "()V"⟩
abbrev cX6_enter : ByteArray := prog_8_method_8_code
def yX6_enter : MethodName := ⟨RX6, "enter", "(I)V"⟩
abbrev cX6_trap : ByteArray := prog_8_method_9_code
def yX6_trap : MethodName := ⟨RX6, "trap", "(I)V"⟩
abbrev cX6_stop : ByteArray := prog_8_method_10_code
def yX6_stop : MethodName := ⟨RX6, "stop", "(I)V"⟩
abbrev cX6_readWord : ByteArray := prog_8_method_11_code
def yX6_readWord : MethodName := ⟨RX6, "readWord", "(II)I"⟩
abbrev cX6_writeWord : ByteArray := prog_8_method_12_code
def yX6_writeWord : MethodName := ⟨RX6, "writeWord", "(III)V"⟩
abbrev cX6_readByte : ByteArray := prog_8_method_13_code
def yX6_readByte : MethodName := ⟨RX6, "readByte", "(I)I"⟩
abbrev cX6_writeByte : ByteArray := prog_8_method_14_code
def yX6_writeByte : MethodName := ⟨RX6, "writeByte", "(II)V"⟩
abbrev cX6_place : ByteArray := prog_8_method_15_code
def yX6_place : MethodName := ⟨RX6, "place", "(IIZ)I"⟩
abbrev cX6_push : ByteArray := prog_8_method_16_code
def yX6_push : MethodName := ⟨RX6, "push", "(I)V"⟩
abbrev cX6_pop : ByteArray := prog_8_method_17_code
def yX6_pop : MethodName := ⟨RX6, "pop", "()I"⟩
abbrev cX6_grow : ByteArray := prog_8_method_18_code
def yX6_grow : MethodName := ⟨RX6, "grow", "(II)I"⟩
abbrev cX6_fall : ByteArray := prog_8_method_19_code
def yX6_fall : MethodName := ⟨RX6, "fall", "(II)I"⟩
abbrev cX6_find : ByteArray := prog_8_method_20_code
def yX6_find : MethodName := ⟨RX6, "find", "(IZ)I"⟩
abbrev cX6_contents : ByteArray := prog_8_method_21_code
def yX6_contents : MethodName := ⟨RX6, "contents", "(IZ)I"⟩
abbrev cX6_put : ByteArray := prog_8_method_22_code
def yX6_put : MethodName := ⟨RX6, "put", "(IIZ)V"⟩
abbrev cX6_execute : ByteArray := prog_8_method_23_code
def yX6_execute : MethodName := ⟨RX6, "execute", "(I)V"⟩
abbrev cX6_mark : ByteArray := prog_8_method_24_code
def yX6_mark : MethodName := ⟨RX6, "mark", "(IIZI)V"⟩
abbrev cX6_doubleOperand : ByteArray := prog_8_method_25_code
def yX6_doubleOperand : MethodName := ⟨RX6, "doubleOperand", "(I)V"⟩
abbrev cX6_joined : ByteArray := prog_8_method_26_code
def yX6_joined : MethodName := ⟨RX6, "joined", "(IIII)I"⟩
abbrev cX6_overflowOfDouble : ByteArray := prog_8_method_27_code
def yX6_overflowOfDouble : MethodName := ⟨RX6, "overflowOfDouble", "(IIIII)Z"⟩
abbrev cX6_carryOfDouble : ByteArray := prog_8_method_28_code
def yX6_carryOfDouble : MethodName := ⟨RX6, "carryOfDouble", "(III)I"⟩
abbrev cX6_singleOperand : ByteArray := prog_8_method_29_code
def yX6_singleOperand : MethodName := ⟨RX6, "singleOperand", "(IIZ)V"⟩
abbrev cX6_changed : ByteArray := prog_8_method_30_code
def yX6_changed : MethodName := ⟨RX6, "changed", "(IIII)I"⟩
abbrev cX6_carryOfSingle : ByteArray := prog_8_method_31_code
def yX6_carryOfSingle : MethodName := ⟨RX6, "carryOfSingle", "(IIIII)I"⟩
abbrev cX6_overflowOfSingle : ByteArray := prog_8_method_32_code
def yX6_overflowOfSingle : MethodName := ⟨RX6, "overflowOfSingle", "(IIIII)Z"⟩
abbrev cX6_multiply : ByteArray := prog_8_method_33_code
def yX6_multiply : MethodName := ⟨RX6, "multiply", "(I)V"⟩
abbrev cX6_exclusiveOr : ByteArray := prog_8_method_34_code
def yX6_exclusiveOr : MethodName := ⟨RX6, "exclusiveOr", "(I)V"⟩
abbrev cX6_countDown : ByteArray := prog_8_method_35_code
def yX6_countDown : MethodName := ⟨RX6, "countDown", "(I)V"⟩
abbrev cX6_signed : ByteArray := prog_8_method_36_code
def yX6_signed : MethodName := ⟨RX6, "signed", "(I)I"⟩
abbrev cX6_branch : ByteArray := prog_8_method_37_code
def yX6_branch : MethodName := ⟨RX6, "branch", "(I)V"⟩
abbrev cX6_branches : ByteArray := prog_8_method_38_code
def yX6_branches : MethodName := ⟨RX6, "branches", "(I)Z"⟩
abbrev cX6_withoutOperand : ByteArray := prog_8_method_39_code
def yX6_withoutOperand : MethodName := ⟨RX6, "withoutOperand", "(I)V"⟩
abbrev cX6_returnFromTrap : ByteArray := prog_8_method_40_code
def yX6_returnFromTrap : MethodName := ⟨RX6, "returnFromTrap", "()V"⟩
abbrev cX6_returnOrFlags : ByteArray := prog_8_method_41_code
def yX6_returnOrFlags : MethodName := ⟨RX6, "returnOrFlags", "(I)V"⟩
abbrev cX6_jump : ByteArray := prog_8_method_42_code
def yX6_jump : MethodName := ⟨RX6, "jump", "(I)V"⟩
abbrev cX6_jumpToSubroutine : ByteArray := prog_8_method_43_code
def yX6_jumpToSubroutine : MethodName := ⟨RX6, "jumpToSubroutine", "(I)V"⟩
abbrev cX6_swapBytes : ByteArray := prog_8_method_44_code
def yX6_swapBytes : MethodName := ⟨RX6, "swapBytes", "(I)V"⟩
abbrev cX6_extendSign : ByteArray := prog_8_method_45_code
def yX6_extendSign : MethodName := ⟨RX6, "extendSign", "(I)V"⟩
abbrev cX6_moveFromBefore : ByteArray := prog_8_method_46_code
def yX6_moveFromBefore : MethodName := ⟨RX6, "moveFromBefore", "(I)V"⟩
abbrev cX6_moveToBefore : ByteArray := prog_8_method_47_code
def yX6_moveToBefore : MethodName := ⟨RX6, "moveToBefore", "(I)V"⟩
abbrev cX6_isOtherStack : ByteArray := prog_8_method_48_code
def yX6_isOtherStack : MethodName := ⟨RX6, "isOtherStack", "(I)Z"⟩
def RX7 : String := "UnibusMachine$Status"
def TX7 : u_T := fun k => match k with
  | 0 => ("UnibusMachine$Status", "now", "I", false)
  | _ => ("UnibusMachine$Status", "written", "I", false)
def tyX7 : Nat → FieldType := fun k => match k with
  | 0 => .int
  | _ => .int
abbrev wsX70 : List Cond := u_ws RX7 TX7 2
theorem nmX7 : ∀ a, a < 2 → ∀ b, b < 2 → a ≠ b → (TX7 a).2.1 ≠ (TX7 b).2.1 := by decide +kernel
theorem tyX7_ok : ∀ k, k < 2 → parseFieldDescriptor (TX7 k).2.2.1 = some (tyX7 k) := by decide +kernel
abbrev cX7_init : ByteArray := prog_9_method_1_code
def yX7_init : MethodName := ⟨RX7, "<init>", "()V"⟩
def RX8 : String := "UnibusMachine"
def TX8 : u_T := fun k => match k with
  | 0 => ("UnibusMachine", "bus", "LUnibusMachine$Bus;", true)
  | _ => ("UnibusMachine", "processor", "LUnibusMachine$Processor;", true)
def tyX8 : Nat → FieldType := fun k => match k with
  | 0 => .object "UnibusMachine$Bus"
  | _ => .object "UnibusMachine$Processor"
abbrev wsX80 : List Cond := u_ws RX8 TX8 2
theorem nmX8 : ∀ a, a < 2 → ∀ b, b < 2 → a ≠ b → (TX8 a).2.1 ≠ (TX8 b).2.1 := by decide +kernel
theorem tyX8_ok : ∀ k, k < 2 → parseFieldDescriptor (TX8 k).2.2.1 = some (tyX8 k) := by decide +kernel
abbrev cX8_init : ByteArray := prog_1_method_1_code
def yX8_init : MethodName := ⟨RX8, "<init>", "()V"⟩
abbrev cX8_deposit : ByteArray := prog_1_method_2_code
def yX8_deposit : MethodName := ⟨RX8, "deposit", "(II)V"⟩
abbrev cX8_examine : ByteArray := prog_1_method_3_code
def yX8_examine : MethodName := ⟨RX8, "examine", "(I)I"⟩
abbrev cX8_set : ByteArray := prog_1_method_4_code
def yX8_set : MethodName := ⟨RX8, "set", "(II)V"⟩
abbrev cX8_register : ByteArray := prog_1_method_5_code
def yX8_register : MethodName := ⟨RX8, "register", "(I)I"⟩
abbrev cX8_start : ByteArray := prog_1_method_6_code
def yX8_start : MethodName := ⟨RX8, "start", "(I)V"⟩
abbrev cX8_run : ByteArray := prog_1_method_7_code
def yX8_run : MethodName := ⟨RX8, "run", "(I)I"⟩
abbrev cX8_key : ByteArray := prog_1_method_8_code
def yX8_key : MethodName := ⟨RX8, "key", "(I)V"⟩
abbrev cX8_printed : ByteArray := prog_1_method_9_code
def yX8_printed : MethodName := ⟨RX8, "printed", "(I)I"⟩
abbrev cX8_load : ByteArray := prog_1_method_10_code
def yX8_load : MethodName := ⟨RX8, "load", "(III)V"⟩
abbrev cX8_disk : ByteArray := prog_1_method_11_code
def yX8_disk : MethodName := ⟨RX8, "disk", "(II)I"⟩
abbrev cX8_device : ByteArray := prog_1_method_12_code
def yX8_device : MethodName := ⟨RX8, "device", "(I)I"⟩
abbrev cX8_state : ByteArray := prog_1_method_13_code
def yX8_state : MethodName := ⟨RX8, "state", "()I"⟩
abbrev cX8_isWord : ByteArray := prog_1_method_14_code
def yX8_isWord : MethodName := ⟨RX8, "isWord", "(I)Z"⟩
abbrev cX8_isMemory : ByteArray := prog_1_method_15_code
def yX8_isMemory : MethodName := ⟨RX8, "isMemory", "(I)Z"⟩
abbrev cX8_isDiskWord : ByteArray := prog_1_method_16_code
def yX8_isDiskWord : MethodName := ⟨RX8, "isDiskWord", "(II)Z"⟩
def RX9 : String := "UnibusMachineModel"
def TX9 : u_T := fun k => match k with
  | 0 => ("UnibusMachineModel", "thrown", "I", false)
  | 1 => ("UnibusMachineModel", "memory", "[I", true)
  | 2 => ("UnibusMachineModel", "descriptor", "[I", true)
  | 3 => ("UnibusMachineModel", "base", "[I", true)
  | 4 => ("UnibusMachineModel", "control", "I", false)
  | 5 => ("UnibusMachineModel", "status", "I", false)
  | 6 => ("UnibusMachineModel", "reg", "[I", true)
  | 7 => ("UnibusMachineModel", "farStack", "I", false)
  | 8 => ("UnibusMachineModel", "mode", "I", false)
  | 9 => ("UnibusMachineModel", "state", "I", false)
  | 10 => ("UnibusMachineModel", "wrong", "I", false)
  | 11 => ("UnibusMachineModel", "over", "Z", false)
  | 12 => ("UnibusMachineModel", "carry", "Z", false)
  | 13 => ("UnibusMachineModel", "ready", "[Z", true)
  | 14 => ("UnibusMachineModel", "enabled", "[Z", true)
  | 15 => ("UnibusMachineModel", "both", "[Z", true)
  | 16 => ("UnibusMachineModel", "wants", "[Z", true)
  | 17 => ("UnibusMachineModel", "busy", "[I", true)
  | 18 => ("UnibusMachineModel", "typed", "I", false)
  | 19 => ("UnibusMachineModel", "printing", "I", false)
  | 20 => ("UnibusMachineModel", "count", "I", false)
  | 21 => ("UnibusMachineModel", "paper", "[I", true)
  | 22 => ("UnibusMachineModel", "sectors", "[I", true)
  | 23 => ("UnibusMachineModel", "writes", "Z", false)
  | 24 => ("UnibusMachineModel", "failed", "Z", false)
  | 25 => ("UnibusMachineModel", "many", "I", false)
  | 26 => ("UnibusMachineModel", "from", "I", false)
  | _ => ("UnibusMachineModel", "sector", "I", false)
def tyX9 : Nat → FieldType := fun k => match k with
  | 0 => .int
  | 1 => .array .int
  | 2 => .array .int
  | 3 => .array .int
  | 4 => .int
  | 5 => .int
  | 6 => .array .int
  | 7 => .int
  | 8 => .int
  | 9 => .int
  | 10 => .int
  | 11 => .boolean
  | 12 => .boolean
  | 13 => .array .boolean
  | 14 => .array .boolean
  | 15 => .array .boolean
  | 16 => .array .boolean
  | 17 => .array .int
  | 18 => .int
  | 19 => .int
  | 20 => .int
  | 21 => .array .int
  | 22 => .array .int
  | 23 => .boolean
  | 24 => .boolean
  | 25 => .int
  | 26 => .int
  | _ => .int
abbrev wsX90 : List Cond := u_ws RX9 TX9 28
theorem nmX9 : ∀ a, a < 28 → ∀ b, b < 28 → a ≠ b → (TX9 a).2.1 ≠ (TX9 b).2.1 := by decide +kernel
theorem tyX9_ok : ∀ k, k < 28 → parseFieldDescriptor (TX9 k).2.2.1 = some (tyX9 k) := by decide +kernel
abbrev cX9_init : ByteArray := prog_11_method_1_code
def yX9_init : MethodName := ⟨RX9, "<init>", "()V"⟩
abbrev cX9_thrown : ByteArray := prog_11_method_2_code
def yX9_thrown : MethodName := ⟨RX9, "thrown", "()I"⟩
abbrev cX9_out : ByteArray := prog_11_method_3_code
def yX9_out : MethodName := ⟨RX9, "out", "(II)Z"⟩
abbrev cX9_fail : ByteArray := prog_11_method_4_code
def yX9_fail : MethodName := ⟨RX9, "fail", "(I)I"⟩
abbrev cX9_signed : ByteArray := prog_11_method_5_code
def yX9_signed : MethodName := ⟨RX9, "signed", "(I)I"⟩
abbrev cX9_bit : ByteArray := prog_11_method_6_code
def yX9_bit : MethodName := ⟨RX9, "bit", "(ZI)I"⟩
abbrev cX9_statusOf : ByteArray := prog_11_method_7_code
def yX9_statusOf : MethodName := ⟨RX9, "statusOf", "(I)I"⟩
abbrev cX9_at : ByteArray := prog_11_method_8_code
def yX9_at : MethodName := ⟨RX9, "at", "(I)I"⟩
abbrev cX9_read : ByteArray := prog_11_method_9_code
def yX9_read : MethodName := ⟨RX9, "read", "(I)I"⟩
abbrev cX9_write : ByteArray := prog_11_method_10_code
def yX9_write : MethodName := ⟨RX9, "write", "(II)V"⟩
abbrev cX9_print : ByteArray := prog_11_method_11_code
def yX9_print : MethodName := ⟨RX9, "print", "(I)V"⟩
abbrev cX9_order : ByteArray := prog_11_method_12_code
def yX9_order : MethodName := ⟨RX9, "order", "(I)V"⟩
abbrev cX9_move : ByteArray := prog_11_method_13_code
def yX9_move : MethodName := ⟨RX9, "move", "()V"⟩
abbrev cX9_mapped : ByteArray := prog_11_method_14_code
def yX9_mapped : MethodName := ⟨RX9, "mapped", "(IIZ)I"⟩
abbrev cX9_wordAt : ByteArray := prog_11_method_15_code
def yX9_wordAt : MethodName := ⟨RX9, "wordAt", "(II)I"⟩
abbrev cX9_setWord : ByteArray := prog_11_method_16_code
def yX9_setWord : MethodName := ⟨RX9, "setWord", "(III)V"⟩
abbrev cX9_byteAt : ByteArray := prog_11_method_17_code
def yX9_byteAt : MethodName := ⟨RX9, "byteAt", "(II)I"⟩
abbrev cX9_setByte : ByteArray := prog_11_method_18_code
def yX9_setByte : MethodName := ⟨RX9, "setByte", "(III)V"⟩
abbrev cX9_settle : ByteArray := prog_11_method_19_code
def yX9_settle : MethodName := ⟨RX9, "settle", "()V"⟩
abbrev cX9_put : ByteArray := prog_11_method_20_code
def yX9_put : MethodName := ⟨RX9, "put", "(II)V"⟩
abbrev cX9_fetch : ByteArray := prog_11_method_21_code
def yX9_fetch : MethodName := ⟨RX9, "fetch", "()I"⟩
abbrev cX9_push : ByteArray := prog_11_method_22_code
def yX9_push : MethodName := ⟨RX9, "push", "(I)V"⟩
abbrev cX9_pop : ByteArray := prog_11_method_23_code
def yX9_pop : MethodName := ⟨RX9, "pop", "()I"⟩
abbrev cX9_find : ByteArray := prog_11_method_24_code
def yX9_find : MethodName := ⟨RX9, "find", "(IZ)I"⟩
abbrev cX9_value : ByteArray := prog_11_method_25_code
def yX9_value : MethodName := ⟨RX9, "value", "(IZ)I"⟩
abbrev cX9_keep : ByteArray := prog_11_method_26_code
def yX9_keep : MethodName := ⟨RX9, "keep", "(IZI)V"⟩
abbrev cX9_isSet : ByteArray := prog_11_method_27_code
def yX9_isSet : MethodName := ⟨RX9, "isSet", "(I)Z"⟩
abbrev cX9_setFlags : ByteArray := prog_11_method_28_code
def yX9_setFlags : MethodName := ⟨RX9, "setFlags", "(ZZZZ)V"⟩
abbrev cX9_show : ByteArray := prog_11_method_29_code
def yX9_show : MethodName := ⟨RX9, "show", "(IZ)V"⟩
abbrev cX9_number : ByteArray := prog_11_method_30_code
def yX9_number : MethodName := ⟨RX9, "number", "(IZ)I"⟩
abbrev cX9_sum : ByteArray := prog_11_method_31_code
def yX9_sum : MethodName := ⟨RX9, "sum", "(IIIZ)I"⟩
abbrev cX9_step : ByteArray := prog_11_method_32_code
def yX9_step : MethodName := ⟨RX9, "step", "()V"⟩
abbrev cX9_two : ByteArray := prog_11_method_33_code
def yX9_two : MethodName := ⟨RX9, "two", "(II)V"⟩
abbrev cX9_extended : ByteArray := prog_11_method_34_code
def yX9_extended : MethodName := ⟨RX9, "extended", "(I)V"⟩
abbrev cX9_multiply : ByteArray := prog_11_method_35_code
def yX9_multiply : MethodName := ⟨RX9, "multiply", "(II)V"⟩
abbrev cX9_rest : ByteArray := prog_11_method_36_code
def yX9_rest : MethodName := ⟨RX9, "rest", "(I)V"⟩
abbrev cX9_branch : ByteArray := prog_11_method_37_code
def yX9_branch : MethodName := ⟨RX9, "branch", "(I)V"⟩
abbrev cX9_call : ByteArray := prog_11_method_38_code
def yX9_call : MethodName := ⟨RX9, "call", "(I)V"⟩
abbrev cX9_small : ByteArray := prog_11_method_39_code
def yX9_small : MethodName := ⟨RX9, "small", "(I)V"⟩
abbrev cX9_special : ByteArray := prog_11_method_40_code
def yX9_special : MethodName := ⟨RX9, "special", "(I)V"⟩
abbrev cX9_comeBack : ByteArray := prog_11_method_41_code
def yX9_comeBack : MethodName := ⟨RX9, "comeBack", "()V"⟩
abbrev cX9_reset : ByteArray := prog_11_method_42_code
def yX9_reset : MethodName := ⟨RX9, "reset", "()V"⟩
abbrev cX9_swap : ByteArray := prog_11_method_43_code
def yX9_swap : MethodName := ⟨RX9, "swap", "(I)V"⟩
abbrev cX9_one : ByteArray := prog_11_method_44_code
def yX9_one : MethodName := ⟨RX9, "one", "(IZ)V"⟩
abbrev cX9_signs : ByteArray := prog_11_method_45_code
def yX9_signs : MethodName := ⟨RX9, "signs", "(I)V"⟩
abbrev cX9_fromBefore : ByteArray := prog_11_method_46_code
def yX9_fromBefore : MethodName := ⟨RX9, "fromBefore", "(I)V"⟩
abbrev cX9_toBefore : ByteArray := prog_11_method_47_code
def yX9_toBefore : MethodName := ⟨RX9, "toBefore", "(I)V"⟩
abbrev cX9_single : ByteArray := prog_11_method_48_code
def yX9_single : MethodName := ⟨RX9, "single", "(IIZ)V"⟩
abbrev cX9_turned : ByteArray := prog_11_method_49_code
def yX9_turned : MethodName := ⟨RX9, "turned", "(IIII)I"⟩
abbrev cX9_trap : ByteArray := prog_11_method_50_code
def yX9_trap : MethodName := ⟨RX9, "trap", "(I)V"⟩
abbrev cX9_goOn : ByteArray := prog_11_method_51_code
def yX9_goOn : MethodName := ⟨RX9, "goOn", "()V"⟩
abbrev cX9_finish : ByteArray := prog_11_method_52_code
def yX9_finish : MethodName := ⟨RX9, "finish", "(I)V"⟩
abbrev cX9_isWord : ByteArray := prog_11_method_53_code
def yX9_isWord : MethodName := ⟨RX9, "isWord", "(I)Z"⟩
abbrev cX9_cell : ByteArray := prog_11_method_54_code
def yX9_cell : MethodName := ⟨RX9, "cell", "(I)Z"⟩
abbrev cX9_deposit : ByteArray := prog_11_method_55_code
def yX9_deposit : MethodName := ⟨RX9, "deposit", "(II)V"⟩
abbrev cX9_examine : ByteArray := prog_11_method_56_code
def yX9_examine : MethodName := ⟨RX9, "examine", "(I)I"⟩
abbrev cX9_set : ByteArray := prog_11_method_57_code
def yX9_set : MethodName := ⟨RX9, "set", "(II)V"⟩
abbrev cX9_register : ByteArray := prog_11_method_58_code
def yX9_register : MethodName := ⟨RX9, "register", "(I)I"⟩
abbrev cX9_start : ByteArray := prog_11_method_59_code
def yX9_start : MethodName := ⟨RX9, "start", "(I)V"⟩
abbrev cX9_run : ByteArray := prog_11_method_60_code
def yX9_run : MethodName := ⟨RX9, "run", "(I)I"⟩
abbrev cX9_key : ByteArray := prog_11_method_61_code
def yX9_key : MethodName := ⟨RX9, "key", "(I)V"⟩
abbrev cX9_printed : ByteArray := prog_11_method_62_code
def yX9_printed : MethodName := ⟨RX9, "printed", "(I)I"⟩
abbrev cX9_load : ByteArray := prog_11_method_63_code
def yX9_load : MethodName := ⟨RX9, "load", "(III)V"⟩
abbrev cX9_disk : ByteArray := prog_11_method_64_code
def yX9_disk : MethodName := ⟨RX9, "disk", "(II)I"⟩
abbrev cX9_device : ByteArray := prog_11_method_65_code
def yX9_device : MethodName := ⟨RX9, "device", "(I)I"⟩
abbrev cX9_state : ByteArray := prog_11_method_66_code
def yX9_state : MethodName := ⟨RX9, "state", "()I"⟩
def RL : String := "UnibusMachineLaw"
abbrev cL_deposit : ByteArray := method_3_code
def yL_deposit : MethodName := ⟨RL, "deposit", "(LUnibusMachine;II)I"⟩
abbrev cL_examine : ByteArray := method_4_code
def yL_examine : MethodName := ⟨RL, "examine", "(LUnibusMachine;I[J)I"⟩
abbrev cL_set : ByteArray := method_5_code
def yL_set : MethodName := ⟨RL, "set", "(LUnibusMachine;II)I"⟩
abbrev cL_register : ByteArray := method_6_code
def yL_register : MethodName := ⟨RL, "register", "(LUnibusMachine;I[J)I"⟩
abbrev cL_start : ByteArray := method_7_code
def yL_start : MethodName := ⟨RL, "start", "(LUnibusMachine;I)I"⟩
abbrev cL_run : ByteArray := method_8_code
def yL_run : MethodName := ⟨RL, "run", "(LUnibusMachine;I[J)I"⟩
abbrev cL_key : ByteArray := method_9_code
def yL_key : MethodName := ⟨RL, "key", "(LUnibusMachine;I)I"⟩
abbrev cL_printed : ByteArray := method_10_code
def yL_printed : MethodName := ⟨RL, "printed", "(LUnibusMachine;I[J)I"⟩
abbrev cL_load : ByteArray := method_11_code
def yL_load : MethodName := ⟨RL, "load", "(LUnibusMachine;III)I"⟩
abbrev cL_disk : ByteArray := method_12_code
def yL_disk : MethodName := ⟨RL, "disk", "(LUnibusMachine;II[J)I"⟩
abbrev cL_law : ByteArray := code
def yL_law : MethodName := ⟨RL, "law", "([I)Z"⟩
def wsX0_peek_r1 : List Cond := [Cond.fieldLink RX0 9 "UnibusMachine$Bus" "memory" "[I", Cond.constant RX0 48 (57344), Cond.constant RX0 49 (57376), Cond.fieldLink RX0 16 "UnibusMachine$Bus" "map" "LUnibusMachine$PageMap;", Cond.fieldLink RX0 50 "UnibusMachine$PageMap" "descriptors" "[I", Cond.constant RX0 53 (57408), Cond.fieldLink RX0 54 "UnibusMachine$PageMap" "bases" "[I", Cond.fieldLink RX0 57 "UnibusMachine$PageMap" "control" "I", Cond.fieldLink RX0 30 "UnibusMachine$Bus" "keyboard" "LUnibusMachine$Keyboard;", Cond.fieldLink RX0 61 "UnibusMachine$Keyboard" "bits" "I", Cond.sameField "UnibusMachine$Keyboard" "UnibusMachine$Line" "bits" "I", Cond.fieldLink RX0 64 "UnibusMachine$Keyboard" "character" "I", Cond.fieldLink RX0 37 "UnibusMachine$Bus" "printer" "LUnibusMachine$Printer;", Cond.fieldLink RX0 67 "UnibusMachine$Printer" "bits" "I", Cond.sameField "UnibusMachine$Printer" "UnibusMachine$Line" "bits" "I", Cond.fieldLink RX0 44 "UnibusMachine$Bus" "drive" "LUnibusMachine$Drive;", Cond.fieldLink RX0 68 "UnibusMachine$Drive" "bits" "I", Cond.sameField "UnibusMachine$Drive" "UnibusMachine$Line" "bits" "I", Cond.fieldLink RX0 69 "UnibusMachine$Drive" "writing" "I", Cond.fieldLink RX0 72 "UnibusMachine$Drive" "wrong" "I", Cond.fieldLink RX0 75 "UnibusMachine$Drive" "count" "I", Cond.fieldLink RX0 78 "UnibusMachine$Drive" "address" "I", Cond.fieldLink RX0 81 "UnibusMachine$Drive" "sector" "I", Cond.fieldLink RX0 23 "UnibusMachine$Bus" "status" "LUnibusMachine$Status;"]
def wsX0_peek_r2 : List Cond := [Cond.fieldLink RX0 84 "UnibusMachine$Status" "now" "I"]
def wsX0_peek : List Cond := .code yX0_peek cX0_peek 2 (some .int) :: ((wsX0_peek_r1 ++ wsX0_peek_r2) ++ wsX00 ++ wsX40 ++ wsX10 ++ wsX20 ++ wsX50 ++ wsX70)
def wsX0_read_r1 : List Cond := [Cond.constant RX0 91 (57426), Cond.fieldLink RX0 30 "UnibusMachine$Bus" "keyboard" "LUnibusMachine$Keyboard;", Cond.fieldLink RX0 61 "UnibusMachine$Keyboard" "bits" "I", Cond.sameField "UnibusMachine$Keyboard" "UnibusMachine$Line" "bits" "I", Cond.methodLink RX0 87 yX0_peek, Cond.instanceMethod yX0_peek, Cond.selects RX0 yX0_peek yX0_peek, Cond.initialized RX0, Cond.code yX0_peek cX0_peek 2 (some .int), Cond.fieldLink RX0 9 "UnibusMachine$Bus" "memory" "[I", Cond.constant RX0 48 (57344), Cond.constant RX0 49 (57376), Cond.fieldLink RX0 16 "UnibusMachine$Bus" "map" "LUnibusMachine$PageMap;", Cond.fieldLink RX0 50 "UnibusMachine$PageMap" "descriptors" "[I", Cond.constant RX0 53 (57408), Cond.fieldLink RX0 54 "UnibusMachine$PageMap" "bases" "[I", Cond.fieldLink RX0 57 "UnibusMachine$PageMap" "control" "I", Cond.fieldLink RX0 64 "UnibusMachine$Keyboard" "character" "I", Cond.fieldLink RX0 37 "UnibusMachine$Bus" "printer" "LUnibusMachine$Printer;", Cond.fieldLink RX0 67 "UnibusMachine$Printer" "bits" "I", Cond.sameField "UnibusMachine$Printer" "UnibusMachine$Line" "bits" "I", Cond.fieldLink RX0 44 "UnibusMachine$Bus" "drive" "LUnibusMachine$Drive;", Cond.fieldLink RX0 68 "UnibusMachine$Drive" "bits" "I", Cond.sameField "UnibusMachine$Drive" "UnibusMachine$Line" "bits" "I"]
def wsX0_read_r2 : List Cond := [Cond.fieldLink RX0 69 "UnibusMachine$Drive" "writing" "I", Cond.fieldLink RX0 72 "UnibusMachine$Drive" "wrong" "I", Cond.fieldLink RX0 75 "UnibusMachine$Drive" "count" "I", Cond.fieldLink RX0 78 "UnibusMachine$Drive" "address" "I", Cond.fieldLink RX0 81 "UnibusMachine$Drive" "sector" "I", Cond.fieldLink RX0 23 "UnibusMachine$Bus" "status" "LUnibusMachine$Status;", Cond.fieldLink RX0 84 "UnibusMachine$Status" "now" "I", Cond.methodLink RX0 94 ⟨"UnibusMachine$Keyboard", "become", "(I)V"⟩, Cond.sameMethod "UnibusMachine$Keyboard" "UnibusMachine$Line" "become" "(I)V", Cond.selects RX2 ⟨"UnibusMachine$Keyboard", "become", "(I)V"⟩ yX3_become, Cond.instanceMethod yX3_become, Cond.initialized RX3, Cond.code yX3_become cX3_become 2 none, Cond.fieldLink RX3 13 "UnibusMachine$Line" "wanting" "Z", Cond.fieldLink RX3 9 "UnibusMachine$Line" "bits" "I"]
def wsX0_read : List Cond := .code yX0_read cX0_read 3 (some .int) :: ((wsX0_read_r1 ++ wsX0_read_r2) ++ wsX00 ++ wsX10 ++ wsX20 ++ wsX50 ++ wsX40 ++ wsX70)
def wsX0_write_r1 : List Cond := [Cond.fieldLink RX0 9 "UnibusMachine$Bus" "memory" "[I", Cond.constant RX0 48 (57344), Cond.constant RX0 49 (57376), Cond.fieldLink RX0 16 "UnibusMachine$Bus" "map" "LUnibusMachine$PageMap;", Cond.fieldLink RX0 50 "UnibusMachine$PageMap" "descriptors" "[I", Cond.constant RX0 53 (57408), Cond.fieldLink RX0 54 "UnibusMachine$PageMap" "bases" "[I", Cond.constant RX0 98 (57375), Cond.fieldLink RX0 57 "UnibusMachine$PageMap" "control" "I", Cond.fieldLink RX0 30 "UnibusMachine$Bus" "keyboard" "LUnibusMachine$Keyboard;", Cond.fieldLink RX0 61 "UnibusMachine$Keyboard" "bits" "I", Cond.sameField "UnibusMachine$Keyboard" "UnibusMachine$Line" "bits" "I", Cond.fieldLink RX0 37 "UnibusMachine$Bus" "printer" "LUnibusMachine$Printer;", Cond.fieldLink RX0 67 "UnibusMachine$Printer" "bits" "I", Cond.sameField "UnibusMachine$Printer" "UnibusMachine$Line" "bits" "I", Cond.fieldLink RX0 44 "UnibusMachine$Bus" "drive" "LUnibusMachine$Drive;", Cond.fieldLink RX0 69 "UnibusMachine$Drive" "writing" "I", Cond.fieldLink RX0 68 "UnibusMachine$Drive" "bits" "I", Cond.sameField "UnibusMachine$Drive" "UnibusMachine$Line" "bits" "I", Cond.fieldLink RX0 75 "UnibusMachine$Drive" "count" "I", Cond.fieldLink RX0 78 "UnibusMachine$Drive" "address" "I", Cond.fieldLink RX0 81 "UnibusMachine$Drive" "sector" "I", Cond.fieldLink RX0 23 "UnibusMachine$Bus" "status" "LUnibusMachine$Status;", Cond.fieldLink RX0 105 "UnibusMachine$Status" "written" "I"]
def wsX0_write_r2 : List Cond := [Cond.methodLink RX0 94 ⟨"UnibusMachine$Keyboard", "become", "(I)V"⟩, Cond.sameMethod "UnibusMachine$Keyboard" "UnibusMachine$Line" "become" "(I)V", Cond.selects RX2 ⟨"UnibusMachine$Keyboard", "become", "(I)V"⟩ yX3_become, Cond.instanceMethod yX3_become, Cond.initialized RX3, Cond.code yX3_become cX3_become 2 none, Cond.fieldLink RX3 13 "UnibusMachine$Line" "wanting" "Z", Cond.fieldLink RX3 9 "UnibusMachine$Line" "bits" "I", Cond.methodLink RX0 99 ⟨"UnibusMachine$Printer", "become", "(I)V"⟩, Cond.sameMethod "UnibusMachine$Printer" "UnibusMachine$Line" "become" "(I)V", Cond.selects RX5 ⟨"UnibusMachine$Printer", "become", "(I)V"⟩ yX3_become, Cond.methodLink RX0 100 yX5_begin, Cond.instanceMethod yX5_begin, Cond.selects RX5 yX5_begin yX5_begin, Cond.initialized RX5, Cond.code yX5_begin cX5_begin 2 none, Cond.fieldLink RX5 17 "UnibusMachine$Printer" "character" "I", Cond.fieldLink RX5 20 "UnibusMachine$Printer" "left" "I", Cond.fieldLink RX5 23 "UnibusMachine$Printer" "fresh" "Z", Cond.fieldLink RX5 27 "UnibusMachine$Printer" "bits" "I", Cond.fieldLink RX5 30 "UnibusMachine$Printer" "wanting" "Z", Cond.sameField "UnibusMachine$Printer" "UnibusMachine$Line" "wanting" "Z", Cond.methodLink RX0 103 yX1_begin, Cond.instanceMethod yX1_begin]
def wsX0_write_r3 : List Cond := [Cond.selects RX1 yX1_begin yX1_begin, Cond.initialized RX1, Cond.code yX1_begin cX1_begin 2 none, Cond.fieldLink RX1 29 "UnibusMachine$Drive" "left" "I", Cond.fieldLink RX1 32 "UnibusMachine$Drive" "fresh" "Z", Cond.fieldLink RX1 17 "UnibusMachine$Drive" "wrong" "I", Cond.fieldLink RX1 36 "UnibusMachine$Drive" "bits" "I", Cond.fieldLink RX1 39 "UnibusMachine$Drive" "wanting" "Z", Cond.sameField "UnibusMachine$Drive" "UnibusMachine$Line" "wanting" "Z", Cond.methodLink RX0 104 ⟨"UnibusMachine$Drive", "become", "(I)V"⟩, Cond.sameMethod "UnibusMachine$Drive" "UnibusMachine$Line" "become" "(I)V", Cond.selects RX1 ⟨"UnibusMachine$Drive", "become", "(I)V"⟩ yX3_become]
def wsX0_write : List Cond := .code yX0_write cX0_write 3 (some .boolean) :: ((wsX0_write_r1 ++ (wsX0_write_r2 ++ wsX0_write_r3)) ++ wsX00 ++ wsX40 ++ wsX10 ++ wsX20 ++ wsX50 ++ wsX70)
def wsX0_nextInstruction : List Cond := .code yX0_nextInstruction cX0_nextInstruction 1 none :: ([.fieldLink RX0 37 "UnibusMachine$Bus" "printer" "LUnibusMachine$Printer;", .fieldLink RX0 108 "UnibusMachine$Printer" "fresh" "Z", .fieldLink RX0 44 "UnibusMachine$Bus" "drive" "LUnibusMachine$Drive;", .fieldLink RX0 112 "UnibusMachine$Drive" "fresh" "Z"] ++ wsX00 ++ wsX50 ++ wsX10)
def wsX5_goOn : List Cond := .code yX5_goOn cX5_goOn 1 none :: ([.fieldLink RX5 20 "UnibusMachine$Printer" "left" "I", .fieldLink RX5 23 "UnibusMachine$Printer" "fresh" "Z", .fieldLink RX5 9 "UnibusMachine$Printer" "paper" "[I", .fieldLink RX5 13 "UnibusMachine$Printer" "count" "I", .fieldLink RX5 17 "UnibusMachine$Printer" "character" "I", .fieldLink RX5 27 "UnibusMachine$Printer" "bits" "I", .sameField "UnibusMachine$Printer" "UnibusMachine$Line" "bits" "I", .methodLink RX5 33 ⟨"UnibusMachine$Printer", "become", "(I)V"⟩, .sameMethod "UnibusMachine$Printer" "UnibusMachine$Line" "become" "(I)V", .selects RX5 ⟨"UnibusMachine$Printer", "become", "(I)V"⟩ yX3_become, .instanceMethod yX3_become, .initialized RX3, .code yX3_become cX3_become 2 none, .fieldLink RX3 13 "UnibusMachine$Line" "wanting" "Z", .fieldLink RX3 9 "UnibusMachine$Line" "bits" "I"] ++ wsX50 ++ wsX10 ++ wsX20)
def wsX1_goOn : List Cond := .code yX1_goOn cX1_goOn 2 none :: ([.fieldLink RX1 29 "UnibusMachine$Drive" "left" "I", .fieldLink RX1 32 "UnibusMachine$Drive" "fresh" "Z", .fieldLink RX1 36 "UnibusMachine$Drive" "bits" "I", .sameField "UnibusMachine$Drive" "UnibusMachine$Line" "bits" "I", .methodLink RX1 42 yX1_transfer, .instanceMethod yX1_transfer, .selects RX1 yX1_transfer yX1_transfer, .initialized RX1, .code yX1_transfer cX1_transfer 5 none, .fieldLink RX1 20 "UnibusMachine$Drive" "count" "I", .fieldLink RX1 23 "UnibusMachine$Drive" "address" "I", .constant RX1 52 (32768), .fieldLink RX1 17 "UnibusMachine$Drive" "wrong" "I", .fieldLink RX1 26 "UnibusMachine$Drive" "sector" "I", .fieldLink RX1 13 "UnibusMachine$Drive" "writing" "I", .fieldLink RX1 9 "UnibusMachine$Drive" "words" "[I", .methodLink RX1 46 ⟨"UnibusMachine$Drive", "become", "(I)V"⟩, .sameMethod "UnibusMachine$Drive" "UnibusMachine$Line" "become" "(I)V", .selects RX1 ⟨"UnibusMachine$Drive", "become", "(I)V"⟩ yX3_become, .instanceMethod yX3_become, .initialized RX3, .code yX3_become cX3_become 2 none, .fieldLink RX3 13 "UnibusMachine$Line" "wanting" "Z", .fieldLink RX3 9 "UnibusMachine$Line" "bits" "I"] ++ wsX10 ++ wsX20 ++ wsX50)
def wsX0_goOn_r1 : List Cond := [Cond.fieldLink RX0 37 "UnibusMachine$Bus" "printer" "LUnibusMachine$Printer;", Cond.fieldLink RX0 44 "UnibusMachine$Bus" "drive" "LUnibusMachine$Drive;", Cond.fieldLink RX0 9 "UnibusMachine$Bus" "memory" "[I", Cond.methodLink RX0 113 yX5_goOn, Cond.instanceMethod yX5_goOn, Cond.selects RX5 yX5_goOn yX5_goOn, Cond.initialized RX5, Cond.code yX5_goOn cX5_goOn 1 none, Cond.fieldLink RX5 20 "UnibusMachine$Printer" "left" "I", Cond.fieldLink RX5 23 "UnibusMachine$Printer" "fresh" "Z", Cond.fieldLink RX5 9 "UnibusMachine$Printer" "paper" "[I", Cond.fieldLink RX5 13 "UnibusMachine$Printer" "count" "I", Cond.fieldLink RX5 17 "UnibusMachine$Printer" "character" "I", Cond.fieldLink RX5 27 "UnibusMachine$Printer" "bits" "I", Cond.sameField "UnibusMachine$Printer" "UnibusMachine$Line" "bits" "I", Cond.methodLink RX5 33 ⟨"UnibusMachine$Printer", "become", "(I)V"⟩, Cond.sameMethod "UnibusMachine$Printer" "UnibusMachine$Line" "become" "(I)V", Cond.selects RX5 ⟨"UnibusMachine$Printer", "become", "(I)V"⟩ yX3_become, Cond.instanceMethod yX3_become, Cond.initialized RX3, Cond.code yX3_become cX3_become 2 none, Cond.fieldLink RX3 13 "UnibusMachine$Line" "wanting" "Z", Cond.fieldLink RX3 9 "UnibusMachine$Line" "bits" "I", Cond.methodLink RX0 116 yX1_goOn]
def wsX0_goOn_r2 : List Cond := [Cond.instanceMethod yX1_goOn, Cond.selects RX1 yX1_goOn yX1_goOn, Cond.initialized RX1, Cond.code yX1_goOn cX1_goOn 2 none, Cond.fieldLink RX1 29 "UnibusMachine$Drive" "left" "I", Cond.fieldLink RX1 32 "UnibusMachine$Drive" "fresh" "Z", Cond.fieldLink RX1 36 "UnibusMachine$Drive" "bits" "I", Cond.sameField "UnibusMachine$Drive" "UnibusMachine$Line" "bits" "I", Cond.methodLink RX1 42 yX1_transfer, Cond.instanceMethod yX1_transfer, Cond.selects RX1 yX1_transfer yX1_transfer, Cond.code yX1_transfer cX1_transfer 5 none, Cond.fieldLink RX1 20 "UnibusMachine$Drive" "count" "I", Cond.fieldLink RX1 23 "UnibusMachine$Drive" "address" "I", Cond.constant RX1 52 (32768), Cond.fieldLink RX1 17 "UnibusMachine$Drive" "wrong" "I", Cond.fieldLink RX1 26 "UnibusMachine$Drive" "sector" "I", Cond.fieldLink RX1 13 "UnibusMachine$Drive" "writing" "I", Cond.fieldLink RX1 9 "UnibusMachine$Drive" "words" "[I", Cond.methodLink RX1 46 ⟨"UnibusMachine$Drive", "become", "(I)V"⟩, Cond.sameMethod "UnibusMachine$Drive" "UnibusMachine$Line" "become" "(I)V", Cond.selects RX1 ⟨"UnibusMachine$Drive", "become", "(I)V"⟩ yX3_become]
def wsX0_goOn : List Cond := .code yX0_goOn cX0_goOn 1 none :: ((wsX0_goOn_r1 ++ wsX0_goOn_r2) ++ wsX00 ++ wsX50 ++ wsX10 ++ wsX20)
def wsX4_locate : List Cond := .code yX4_locate cX4_locate 9 (some .int) :: ([.fieldLink RX4 16 "UnibusMachine$PageMap" "control" "I", .fieldLink RX4 9 "UnibusMachine$PageMap" "descriptors" "[I", .constant RX4 20 (32768), .fieldLink RX4 13 "UnibusMachine$PageMap" "bases" "[I", .constant RX4 21 (65535), .constant RX4 22 (57344)] ++ wsX40)
def wsX6_mode : List Cond := .code yX6_mode cX6_mode 1 (some .int) :: ([.fieldLink RX6 43 "UnibusMachine$Processor" "status" "LUnibusMachine$Status;", .fieldLink RX6 44 "UnibusMachine$Status" "now" "I"] ++ wsX60 ++ wsX70)
def wsX6_takeStatus : List Cond := .code yX6_takeStatus cX6_takeStatus 3 none :: ([.fieldLink RX6 43 "UnibusMachine$Processor" "status" "LUnibusMachine$Status;", .fieldLink RX6 44 "UnibusMachine$Status" "now" "I", .fieldLink RX6 7 "UnibusMachine$Processor" "registers" "[I", .fieldLink RX6 13 "UnibusMachine$Processor" "otherStack" "I"] ++ wsX60 ++ wsX70)
def wsX6_stop : List Cond := .code yX6_stop cX6_stop 2 none :: ([.classLink RX6 65 "java/lang/UnsupportedOperationException", .initialized "java/lang/UnsupportedOperationException", .fieldLink RX6 24 "UnibusMachine$Processor" "vector" "I"] ++ wsX60 ++ (vx_at0 RX6 111 "java/lang/UnsupportedOperationException" ["java/lang/RuntimeException", "java/lang/Exception"]).filter goodWord)
def wsX6_place : List Cond := .code yX6_place cX6_place 5 (some .int) :: ([.fieldLink RX6 33 "UnibusMachine$Processor" "bus" "LUnibusMachine$Bus;", .fieldLink RX6 132 "UnibusMachine$Bus" "map" "LUnibusMachine$PageMap;", .methodLink RX6 136 yX4_locate, .instanceMethod yX4_locate, .selects RX4 yX4_locate yX4_locate, .initialized RX4, .code yX4_locate cX4_locate 9 (some .int), .fieldLink RX4 16 "UnibusMachine$PageMap" "control" "I", .fieldLink RX4 9 "UnibusMachine$PageMap" "descriptors" "[I", .constant RX4 20 (32768), .fieldLink RX4 13 "UnibusMachine$PageMap" "bases" "[I", .constant RX4 21 (65535), .constant RX4 22 (57344), .methodLink RX6 112 yX6_stop, .instanceMethod yX6_stop, .selects RX6 yX6_stop yX6_stop, .initialized RX6, .code yX6_stop cX6_stop 2 none, .classLink RX6 65 "java/lang/UnsupportedOperationException", .initialized "java/lang/UnsupportedOperationException", .fieldLink RX6 24 "UnibusMachine$Processor" "vector" "I"] ++ wsX60 ++ wsX00 ++ wsX40 ++ (vx_at0 RX6 111 "java/lang/UnsupportedOperationException" ["java/lang/RuntimeException", "java/lang/Exception"]).filter goodWord)
def wsX6_readWord_r1 : List Cond := [Cond.fieldLink RX6 33 "UnibusMachine$Processor" "bus" "LUnibusMachine$Bus;", Cond.methodLink RX6 112 yX6_stop, Cond.instanceMethod yX6_stop, Cond.selects RX6 yX6_stop yX6_stop, Cond.initialized RX6, Cond.code yX6_stop cX6_stop 2 none, Cond.classLink RX6 65 "java/lang/UnsupportedOperationException", Cond.initialized "java/lang/UnsupportedOperationException", Cond.fieldLink RX6 24 "UnibusMachine$Processor" "vector" "I", Cond.methodLink RX6 115 yX6_place, Cond.instanceMethod yX6_place, Cond.selects RX6 yX6_place yX6_place, Cond.code yX6_place cX6_place 5 (some .int), Cond.fieldLink RX6 132 "UnibusMachine$Bus" "map" "LUnibusMachine$PageMap;", Cond.methodLink RX6 136 yX4_locate, Cond.instanceMethod yX4_locate, Cond.selects RX4 yX4_locate yX4_locate, Cond.initialized RX4, Cond.code yX4_locate cX4_locate 9 (some .int), Cond.fieldLink RX4 16 "UnibusMachine$PageMap" "control" "I", Cond.fieldLink RX4 9 "UnibusMachine$PageMap" "descriptors" "[I", Cond.constant RX4 20 (32768), Cond.fieldLink RX4 13 "UnibusMachine$PageMap" "bases" "[I", Cond.constant RX4 21 (65535)]
def wsX6_readWord_r2 : List Cond := [Cond.constant RX4 22 (57344), Cond.methodLink RX6 119 yX0_read, Cond.instanceMethod yX0_read, Cond.selects RX0 yX0_read yX0_read, Cond.initialized RX0, Cond.code yX0_read cX0_read 3 (some .int), Cond.constant RX0 91 (57426), Cond.fieldLink RX0 30 "UnibusMachine$Bus" "keyboard" "LUnibusMachine$Keyboard;", Cond.fieldLink RX0 61 "UnibusMachine$Keyboard" "bits" "I", Cond.sameField "UnibusMachine$Keyboard" "UnibusMachine$Line" "bits" "I", Cond.methodLink RX0 87 yX0_peek, Cond.instanceMethod yX0_peek, Cond.selects RX0 yX0_peek yX0_peek, Cond.code yX0_peek cX0_peek 2 (some .int), Cond.fieldLink RX0 9 "UnibusMachine$Bus" "memory" "[I", Cond.constant RX0 48 (57344), Cond.constant RX0 49 (57376), Cond.fieldLink RX0 16 "UnibusMachine$Bus" "map" "LUnibusMachine$PageMap;", Cond.fieldLink RX0 50 "UnibusMachine$PageMap" "descriptors" "[I", Cond.constant RX0 53 (57408), Cond.fieldLink RX0 54 "UnibusMachine$PageMap" "bases" "[I", Cond.fieldLink RX0 57 "UnibusMachine$PageMap" "control" "I", Cond.fieldLink RX0 64 "UnibusMachine$Keyboard" "character" "I", Cond.fieldLink RX0 37 "UnibusMachine$Bus" "printer" "LUnibusMachine$Printer;"]
def wsX6_readWord_r3 : List Cond := [Cond.fieldLink RX0 67 "UnibusMachine$Printer" "bits" "I", Cond.sameField "UnibusMachine$Printer" "UnibusMachine$Line" "bits" "I", Cond.fieldLink RX0 44 "UnibusMachine$Bus" "drive" "LUnibusMachine$Drive;", Cond.fieldLink RX0 68 "UnibusMachine$Drive" "bits" "I", Cond.sameField "UnibusMachine$Drive" "UnibusMachine$Line" "bits" "I", Cond.fieldLink RX0 69 "UnibusMachine$Drive" "writing" "I", Cond.fieldLink RX0 72 "UnibusMachine$Drive" "wrong" "I", Cond.fieldLink RX0 75 "UnibusMachine$Drive" "count" "I", Cond.fieldLink RX0 78 "UnibusMachine$Drive" "address" "I", Cond.fieldLink RX0 81 "UnibusMachine$Drive" "sector" "I", Cond.fieldLink RX0 23 "UnibusMachine$Bus" "status" "LUnibusMachine$Status;", Cond.fieldLink RX0 84 "UnibusMachine$Status" "now" "I", Cond.methodLink RX0 94 ⟨"UnibusMachine$Keyboard", "become", "(I)V"⟩, Cond.sameMethod "UnibusMachine$Keyboard" "UnibusMachine$Line" "become" "(I)V", Cond.selects RX2 ⟨"UnibusMachine$Keyboard", "become", "(I)V"⟩ yX3_become, Cond.instanceMethod yX3_become, Cond.initialized RX3, Cond.code yX3_become cX3_become 2 none, Cond.fieldLink RX3 13 "UnibusMachine$Line" "wanting" "Z", Cond.fieldLink RX3 9 "UnibusMachine$Line" "bits" "I"]
def wsX6_readWord : List Cond := .code yX6_readWord cX6_readWord 4 (some .int) :: ((wsX6_readWord_r1 ++ (wsX6_readWord_r2 ++ wsX6_readWord_r3)) ++ wsX60 ++ wsX00 ++ wsX40 ++ wsX10 ++ wsX20 ++ wsX50 ++ wsX70 ++ (vx_at0 RX6 111 "java/lang/UnsupportedOperationException" ["java/lang/RuntimeException", "java/lang/Exception"]).filter goodWord)
def wsX6_fall : List Cond := .code yX6_fall cX6_fall 3 (some .int) :: ([.fieldLink RX6 7 "UnibusMachine$Processor" "registers" "[I", .constant RX6 60 (65535)] ++ wsX60)
def wsX6_writeWord_r1 : List Cond := [Cond.fieldLink RX6 33 "UnibusMachine$Processor" "bus" "LUnibusMachine$Bus;", Cond.methodLink RX6 112 yX6_stop, Cond.instanceMethod yX6_stop, Cond.selects RX6 yX6_stop yX6_stop, Cond.initialized RX6, Cond.code yX6_stop cX6_stop 2 none, Cond.classLink RX6 65 "java/lang/UnsupportedOperationException", Cond.initialized "java/lang/UnsupportedOperationException", Cond.fieldLink RX6 24 "UnibusMachine$Processor" "vector" "I", Cond.methodLink RX6 115 yX6_place, Cond.instanceMethod yX6_place, Cond.selects RX6 yX6_place yX6_place, Cond.code yX6_place cX6_place 5 (some .int), Cond.fieldLink RX6 132 "UnibusMachine$Bus" "map" "LUnibusMachine$PageMap;", Cond.methodLink RX6 136 yX4_locate, Cond.instanceMethod yX4_locate, Cond.selects RX4 yX4_locate yX4_locate, Cond.initialized RX4, Cond.code yX4_locate cX4_locate 9 (some .int), Cond.fieldLink RX4 16 "UnibusMachine$PageMap" "control" "I", Cond.fieldLink RX4 9 "UnibusMachine$PageMap" "descriptors" "[I", Cond.constant RX4 20 (32768), Cond.fieldLink RX4 13 "UnibusMachine$PageMap" "bases" "[I", Cond.constant RX4 21 (65535)]
def wsX6_writeWord_r2 : List Cond := [Cond.constant RX4 22 (57344), Cond.methodLink RX6 123 yX0_write, Cond.instanceMethod yX0_write, Cond.selects RX0 yX0_write yX0_write, Cond.initialized RX0, Cond.code yX0_write cX0_write 3 (some .boolean), Cond.fieldLink RX0 9 "UnibusMachine$Bus" "memory" "[I", Cond.constant RX0 48 (57344), Cond.constant RX0 49 (57376), Cond.fieldLink RX0 16 "UnibusMachine$Bus" "map" "LUnibusMachine$PageMap;", Cond.fieldLink RX0 50 "UnibusMachine$PageMap" "descriptors" "[I", Cond.constant RX0 53 (57408), Cond.fieldLink RX0 54 "UnibusMachine$PageMap" "bases" "[I", Cond.constant RX0 98 (57375), Cond.fieldLink RX0 57 "UnibusMachine$PageMap" "control" "I", Cond.fieldLink RX0 30 "UnibusMachine$Bus" "keyboard" "LUnibusMachine$Keyboard;", Cond.fieldLink RX0 61 "UnibusMachine$Keyboard" "bits" "I", Cond.sameField "UnibusMachine$Keyboard" "UnibusMachine$Line" "bits" "I", Cond.fieldLink RX0 37 "UnibusMachine$Bus" "printer" "LUnibusMachine$Printer;", Cond.fieldLink RX0 67 "UnibusMachine$Printer" "bits" "I", Cond.sameField "UnibusMachine$Printer" "UnibusMachine$Line" "bits" "I", Cond.fieldLink RX0 44 "UnibusMachine$Bus" "drive" "LUnibusMachine$Drive;", Cond.fieldLink RX0 69 "UnibusMachine$Drive" "writing" "I", Cond.fieldLink RX0 68 "UnibusMachine$Drive" "bits" "I"]
def wsX6_writeWord_r3 : List Cond := [Cond.sameField "UnibusMachine$Drive" "UnibusMachine$Line" "bits" "I", Cond.fieldLink RX0 75 "UnibusMachine$Drive" "count" "I", Cond.fieldLink RX0 78 "UnibusMachine$Drive" "address" "I", Cond.fieldLink RX0 81 "UnibusMachine$Drive" "sector" "I", Cond.fieldLink RX0 23 "UnibusMachine$Bus" "status" "LUnibusMachine$Status;", Cond.fieldLink RX0 105 "UnibusMachine$Status" "written" "I", Cond.methodLink RX0 94 ⟨"UnibusMachine$Keyboard", "become", "(I)V"⟩, Cond.sameMethod "UnibusMachine$Keyboard" "UnibusMachine$Line" "become" "(I)V", Cond.selects RX2 ⟨"UnibusMachine$Keyboard", "become", "(I)V"⟩ yX3_become, Cond.instanceMethod yX3_become, Cond.initialized RX3, Cond.code yX3_become cX3_become 2 none, Cond.fieldLink RX3 13 "UnibusMachine$Line" "wanting" "Z", Cond.fieldLink RX3 9 "UnibusMachine$Line" "bits" "I", Cond.methodLink RX0 99 ⟨"UnibusMachine$Printer", "become", "(I)V"⟩, Cond.sameMethod "UnibusMachine$Printer" "UnibusMachine$Line" "become" "(I)V", Cond.selects RX5 ⟨"UnibusMachine$Printer", "become", "(I)V"⟩ yX3_become, Cond.methodLink RX0 100 yX5_begin, Cond.instanceMethod yX5_begin, Cond.selects RX5 yX5_begin yX5_begin, Cond.initialized RX5, Cond.code yX5_begin cX5_begin 2 none, Cond.fieldLink RX5 17 "UnibusMachine$Printer" "character" "I", Cond.fieldLink RX5 20 "UnibusMachine$Printer" "left" "I"]
def wsX6_writeWord_r4 : List Cond := [Cond.fieldLink RX5 23 "UnibusMachine$Printer" "fresh" "Z", Cond.fieldLink RX5 27 "UnibusMachine$Printer" "bits" "I", Cond.fieldLink RX5 30 "UnibusMachine$Printer" "wanting" "Z", Cond.sameField "UnibusMachine$Printer" "UnibusMachine$Line" "wanting" "Z", Cond.methodLink RX0 103 yX1_begin, Cond.instanceMethod yX1_begin, Cond.selects RX1 yX1_begin yX1_begin, Cond.initialized RX1, Cond.code yX1_begin cX1_begin 2 none, Cond.fieldLink RX1 29 "UnibusMachine$Drive" "left" "I", Cond.fieldLink RX1 32 "UnibusMachine$Drive" "fresh" "Z", Cond.fieldLink RX1 17 "UnibusMachine$Drive" "wrong" "I", Cond.fieldLink RX1 36 "UnibusMachine$Drive" "bits" "I", Cond.fieldLink RX1 39 "UnibusMachine$Drive" "wanting" "Z", Cond.sameField "UnibusMachine$Drive" "UnibusMachine$Line" "wanting" "Z", Cond.methodLink RX0 104 ⟨"UnibusMachine$Drive", "become", "(I)V"⟩, Cond.sameMethod "UnibusMachine$Drive" "UnibusMachine$Line" "become" "(I)V", Cond.selects RX1 ⟨"UnibusMachine$Drive", "become", "(I)V"⟩ yX3_become]
def wsX6_writeWord : List Cond := .code yX6_writeWord cX6_writeWord 4 none :: ((wsX6_writeWord_r1 ++ (wsX6_writeWord_r2 ++ (wsX6_writeWord_r3 ++ wsX6_writeWord_r4))) ++ wsX60 ++ wsX00 ++ wsX40 ++ wsX10 ++ wsX20 ++ wsX50 ++ wsX70 ++ (vx_at0 RX6 111 "java/lang/UnsupportedOperationException" ["java/lang/RuntimeException", "java/lang/Exception"]).filter goodWord)
def wsX6_push_r1 : List Cond := [Cond.methodLink RX6 52 yX6_mode, Cond.instanceMethod yX6_mode, Cond.selects RX6 yX6_mode yX6_mode, Cond.initialized RX6, Cond.code yX6_mode cX6_mode 1 (some .int), Cond.fieldLink RX6 43 "UnibusMachine$Processor" "status" "LUnibusMachine$Status;", Cond.fieldLink RX6 44 "UnibusMachine$Status" "now" "I", Cond.methodLink RX6 141 yX6_fall, Cond.instanceMethod yX6_fall, Cond.selects RX6 yX6_fall yX6_fall, Cond.code yX6_fall cX6_fall 3 (some .int), Cond.fieldLink RX6 7 "UnibusMachine$Processor" "registers" "[I", Cond.constant RX6 60 (65535), Cond.methodLink RX6 144 yX6_writeWord, Cond.instanceMethod yX6_writeWord, Cond.selects RX6 yX6_writeWord yX6_writeWord, Cond.code yX6_writeWord cX6_writeWord 4 none, Cond.fieldLink RX6 33 "UnibusMachine$Processor" "bus" "LUnibusMachine$Bus;", Cond.methodLink RX6 112 yX6_stop, Cond.instanceMethod yX6_stop, Cond.selects RX6 yX6_stop yX6_stop, Cond.code yX6_stop cX6_stop 2 none, Cond.classLink RX6 65 "java/lang/UnsupportedOperationException", Cond.initialized "java/lang/UnsupportedOperationException"]
def wsX6_push_r2 : List Cond := [Cond.fieldLink RX6 24 "UnibusMachine$Processor" "vector" "I", Cond.methodLink RX6 115 yX6_place, Cond.instanceMethod yX6_place, Cond.selects RX6 yX6_place yX6_place, Cond.code yX6_place cX6_place 5 (some .int), Cond.fieldLink RX6 132 "UnibusMachine$Bus" "map" "LUnibusMachine$PageMap;", Cond.methodLink RX6 136 yX4_locate, Cond.instanceMethod yX4_locate, Cond.selects RX4 yX4_locate yX4_locate, Cond.initialized RX4, Cond.code yX4_locate cX4_locate 9 (some .int), Cond.fieldLink RX4 16 "UnibusMachine$PageMap" "control" "I", Cond.fieldLink RX4 9 "UnibusMachine$PageMap" "descriptors" "[I", Cond.constant RX4 20 (32768), Cond.fieldLink RX4 13 "UnibusMachine$PageMap" "bases" "[I", Cond.constant RX4 21 (65535), Cond.constant RX4 22 (57344), Cond.methodLink RX6 123 yX0_write, Cond.instanceMethod yX0_write, Cond.selects RX0 yX0_write yX0_write, Cond.initialized RX0, Cond.code yX0_write cX0_write 3 (some .boolean), Cond.fieldLink RX0 9 "UnibusMachine$Bus" "memory" "[I", Cond.constant RX0 48 (57344)]
def wsX6_push_r3 : List Cond := [Cond.constant RX0 49 (57376), Cond.fieldLink RX0 16 "UnibusMachine$Bus" "map" "LUnibusMachine$PageMap;", Cond.fieldLink RX0 50 "UnibusMachine$PageMap" "descriptors" "[I", Cond.constant RX0 53 (57408), Cond.fieldLink RX0 54 "UnibusMachine$PageMap" "bases" "[I", Cond.constant RX0 98 (57375), Cond.fieldLink RX0 57 "UnibusMachine$PageMap" "control" "I", Cond.fieldLink RX0 30 "UnibusMachine$Bus" "keyboard" "LUnibusMachine$Keyboard;", Cond.fieldLink RX0 61 "UnibusMachine$Keyboard" "bits" "I", Cond.sameField "UnibusMachine$Keyboard" "UnibusMachine$Line" "bits" "I", Cond.fieldLink RX0 37 "UnibusMachine$Bus" "printer" "LUnibusMachine$Printer;", Cond.fieldLink RX0 67 "UnibusMachine$Printer" "bits" "I", Cond.sameField "UnibusMachine$Printer" "UnibusMachine$Line" "bits" "I", Cond.fieldLink RX0 44 "UnibusMachine$Bus" "drive" "LUnibusMachine$Drive;", Cond.fieldLink RX0 69 "UnibusMachine$Drive" "writing" "I", Cond.fieldLink RX0 68 "UnibusMachine$Drive" "bits" "I", Cond.sameField "UnibusMachine$Drive" "UnibusMachine$Line" "bits" "I", Cond.fieldLink RX0 75 "UnibusMachine$Drive" "count" "I", Cond.fieldLink RX0 78 "UnibusMachine$Drive" "address" "I", Cond.fieldLink RX0 81 "UnibusMachine$Drive" "sector" "I", Cond.fieldLink RX0 23 "UnibusMachine$Bus" "status" "LUnibusMachine$Status;", Cond.fieldLink RX0 105 "UnibusMachine$Status" "written" "I", Cond.methodLink RX0 94 ⟨"UnibusMachine$Keyboard", "become", "(I)V"⟩, Cond.sameMethod "UnibusMachine$Keyboard" "UnibusMachine$Line" "become" "(I)V"]
def wsX6_push_r4 : List Cond := [Cond.selects RX2 ⟨"UnibusMachine$Keyboard", "become", "(I)V"⟩ yX3_become, Cond.instanceMethod yX3_become, Cond.initialized RX3, Cond.code yX3_become cX3_become 2 none, Cond.fieldLink RX3 13 "UnibusMachine$Line" "wanting" "Z", Cond.fieldLink RX3 9 "UnibusMachine$Line" "bits" "I", Cond.methodLink RX0 99 ⟨"UnibusMachine$Printer", "become", "(I)V"⟩, Cond.sameMethod "UnibusMachine$Printer" "UnibusMachine$Line" "become" "(I)V", Cond.selects RX5 ⟨"UnibusMachine$Printer", "become", "(I)V"⟩ yX3_become, Cond.methodLink RX0 100 yX5_begin, Cond.instanceMethod yX5_begin, Cond.selects RX5 yX5_begin yX5_begin, Cond.initialized RX5, Cond.code yX5_begin cX5_begin 2 none, Cond.fieldLink RX5 17 "UnibusMachine$Printer" "character" "I", Cond.fieldLink RX5 20 "UnibusMachine$Printer" "left" "I", Cond.fieldLink RX5 23 "UnibusMachine$Printer" "fresh" "Z", Cond.fieldLink RX5 27 "UnibusMachine$Printer" "bits" "I", Cond.fieldLink RX5 30 "UnibusMachine$Printer" "wanting" "Z", Cond.sameField "UnibusMachine$Printer" "UnibusMachine$Line" "wanting" "Z", Cond.methodLink RX0 103 yX1_begin, Cond.instanceMethod yX1_begin, Cond.selects RX1 yX1_begin yX1_begin, Cond.initialized RX1]
def wsX6_push_r5 : List Cond := [Cond.code yX1_begin cX1_begin 2 none, Cond.fieldLink RX1 29 "UnibusMachine$Drive" "left" "I", Cond.fieldLink RX1 32 "UnibusMachine$Drive" "fresh" "Z", Cond.fieldLink RX1 17 "UnibusMachine$Drive" "wrong" "I", Cond.fieldLink RX1 36 "UnibusMachine$Drive" "bits" "I", Cond.fieldLink RX1 39 "UnibusMachine$Drive" "wanting" "Z", Cond.sameField "UnibusMachine$Drive" "UnibusMachine$Line" "wanting" "Z", Cond.methodLink RX0 104 ⟨"UnibusMachine$Drive", "become", "(I)V"⟩, Cond.sameMethod "UnibusMachine$Drive" "UnibusMachine$Line" "become" "(I)V", Cond.selects RX1 ⟨"UnibusMachine$Drive", "become", "(I)V"⟩ yX3_become]
def wsX6_push : List Cond := .code yX6_push cX6_push 2 none :: ((wsX6_push_r1 ++ (wsX6_push_r2 ++ (wsX6_push_r3 ++ (wsX6_push_r4 ++ wsX6_push_r5)))) ++ wsX60 ++ wsX70 ++ wsX00 ++ wsX40 ++ wsX10 ++ wsX20 ++ wsX50 ++ (vx_at0 RX6 111 "java/lang/UnsupportedOperationException" ["java/lang/RuntimeException", "java/lang/Exception"]).filter goodWord)
def wsX6_trap_r1 : List Cond := [Cond.fieldLink RX6 43 "UnibusMachine$Processor" "status" "LUnibusMachine$Status;", Cond.fieldLink RX6 44 "UnibusMachine$Status" "now" "I", Cond.fieldLink RX6 7 "UnibusMachine$Processor" "registers" "[I", Cond.methodLink RX6 56 yX6_readWord, Cond.instanceMethod yX6_readWord, Cond.selects RX6 yX6_readWord yX6_readWord, Cond.initialized RX6, Cond.code yX6_readWord cX6_readWord 4 (some .int), Cond.fieldLink RX6 33 "UnibusMachine$Processor" "bus" "LUnibusMachine$Bus;", Cond.methodLink RX6 112 yX6_stop, Cond.instanceMethod yX6_stop, Cond.selects RX6 yX6_stop yX6_stop, Cond.code yX6_stop cX6_stop 2 none, Cond.classLink RX6 65 "java/lang/UnsupportedOperationException", Cond.initialized "java/lang/UnsupportedOperationException", Cond.fieldLink RX6 24 "UnibusMachine$Processor" "vector" "I", Cond.methodLink RX6 115 yX6_place, Cond.instanceMethod yX6_place, Cond.selects RX6 yX6_place yX6_place, Cond.code yX6_place cX6_place 5 (some .int), Cond.fieldLink RX6 132 "UnibusMachine$Bus" "map" "LUnibusMachine$PageMap;", Cond.methodLink RX6 136 yX4_locate, Cond.instanceMethod yX4_locate, Cond.selects RX4 yX4_locate yX4_locate]
def wsX6_trap_r2 : List Cond := [Cond.initialized RX4, Cond.code yX4_locate cX4_locate 9 (some .int), Cond.fieldLink RX4 16 "UnibusMachine$PageMap" "control" "I", Cond.fieldLink RX4 9 "UnibusMachine$PageMap" "descriptors" "[I", Cond.constant RX4 20 (32768), Cond.fieldLink RX4 13 "UnibusMachine$PageMap" "bases" "[I", Cond.constant RX4 21 (65535), Cond.constant RX4 22 (57344), Cond.methodLink RX6 119 yX0_read, Cond.instanceMethod yX0_read, Cond.selects RX0 yX0_read yX0_read, Cond.initialized RX0, Cond.code yX0_read cX0_read 3 (some .int), Cond.constant RX0 91 (57426), Cond.fieldLink RX0 30 "UnibusMachine$Bus" "keyboard" "LUnibusMachine$Keyboard;", Cond.fieldLink RX0 61 "UnibusMachine$Keyboard" "bits" "I", Cond.sameField "UnibusMachine$Keyboard" "UnibusMachine$Line" "bits" "I", Cond.methodLink RX0 87 yX0_peek, Cond.instanceMethod yX0_peek, Cond.selects RX0 yX0_peek yX0_peek, Cond.code yX0_peek cX0_peek 2 (some .int), Cond.fieldLink RX0 9 "UnibusMachine$Bus" "memory" "[I", Cond.constant RX0 48 (57344), Cond.constant RX0 49 (57376)]
def wsX6_trap_r3 : List Cond := [Cond.fieldLink RX0 16 "UnibusMachine$Bus" "map" "LUnibusMachine$PageMap;", Cond.fieldLink RX0 50 "UnibusMachine$PageMap" "descriptors" "[I", Cond.constant RX0 53 (57408), Cond.fieldLink RX0 54 "UnibusMachine$PageMap" "bases" "[I", Cond.fieldLink RX0 57 "UnibusMachine$PageMap" "control" "I", Cond.fieldLink RX0 64 "UnibusMachine$Keyboard" "character" "I", Cond.fieldLink RX0 37 "UnibusMachine$Bus" "printer" "LUnibusMachine$Printer;", Cond.fieldLink RX0 67 "UnibusMachine$Printer" "bits" "I", Cond.sameField "UnibusMachine$Printer" "UnibusMachine$Line" "bits" "I", Cond.fieldLink RX0 44 "UnibusMachine$Bus" "drive" "LUnibusMachine$Drive;", Cond.fieldLink RX0 68 "UnibusMachine$Drive" "bits" "I", Cond.sameField "UnibusMachine$Drive" "UnibusMachine$Line" "bits" "I", Cond.fieldLink RX0 69 "UnibusMachine$Drive" "writing" "I", Cond.fieldLink RX0 72 "UnibusMachine$Drive" "wrong" "I", Cond.fieldLink RX0 75 "UnibusMachine$Drive" "count" "I", Cond.fieldLink RX0 78 "UnibusMachine$Drive" "address" "I", Cond.fieldLink RX0 81 "UnibusMachine$Drive" "sector" "I", Cond.fieldLink RX0 23 "UnibusMachine$Bus" "status" "LUnibusMachine$Status;", Cond.fieldLink RX0 84 "UnibusMachine$Status" "now" "I", Cond.methodLink RX0 94 ⟨"UnibusMachine$Keyboard", "become", "(I)V"⟩, Cond.sameMethod "UnibusMachine$Keyboard" "UnibusMachine$Line" "become" "(I)V", Cond.selects RX2 ⟨"UnibusMachine$Keyboard", "become", "(I)V"⟩ yX3_become, Cond.instanceMethod yX3_become, Cond.initialized RX3]
def wsX6_trap_r4 : List Cond := [Cond.code yX3_become cX3_become 2 none, Cond.fieldLink RX3 13 "UnibusMachine$Line" "wanting" "Z", Cond.fieldLink RX3 9 "UnibusMachine$Line" "bits" "I", Cond.methodLink RX6 52 yX6_mode, Cond.instanceMethod yX6_mode, Cond.selects RX6 yX6_mode yX6_mode, Cond.code yX6_mode cX6_mode 1 (some .int), Cond.methodLink RX6 76 yX6_takeStatus, Cond.instanceMethod yX6_takeStatus, Cond.selects RX6 yX6_takeStatus yX6_takeStatus, Cond.code yX6_takeStatus cX6_takeStatus 3 none, Cond.fieldLink RX6 13 "UnibusMachine$Processor" "otherStack" "I", Cond.methodLink RX6 108 yX6_push, Cond.instanceMethod yX6_push, Cond.selects RX6 yX6_push yX6_push, Cond.code yX6_push cX6_push 2 none, Cond.methodLink RX6 141 yX6_fall, Cond.instanceMethod yX6_fall, Cond.selects RX6 yX6_fall yX6_fall, Cond.code yX6_fall cX6_fall 3 (some .int), Cond.constant RX6 60 (65535), Cond.methodLink RX6 144 yX6_writeWord, Cond.instanceMethod yX6_writeWord, Cond.selects RX6 yX6_writeWord yX6_writeWord]
def wsX6_trap_r5 : List Cond := [Cond.code yX6_writeWord cX6_writeWord 4 none, Cond.methodLink RX6 123 yX0_write, Cond.instanceMethod yX0_write, Cond.selects RX0 yX0_write yX0_write, Cond.code yX0_write cX0_write 3 (some .boolean), Cond.constant RX0 98 (57375), Cond.fieldLink RX0 105 "UnibusMachine$Status" "written" "I", Cond.methodLink RX0 99 ⟨"UnibusMachine$Printer", "become", "(I)V"⟩, Cond.sameMethod "UnibusMachine$Printer" "UnibusMachine$Line" "become" "(I)V", Cond.selects RX5 ⟨"UnibusMachine$Printer", "become", "(I)V"⟩ yX3_become, Cond.methodLink RX0 100 yX5_begin, Cond.instanceMethod yX5_begin, Cond.selects RX5 yX5_begin yX5_begin, Cond.initialized RX5, Cond.code yX5_begin cX5_begin 2 none, Cond.fieldLink RX5 17 "UnibusMachine$Printer" "character" "I", Cond.fieldLink RX5 20 "UnibusMachine$Printer" "left" "I", Cond.fieldLink RX5 23 "UnibusMachine$Printer" "fresh" "Z", Cond.fieldLink RX5 27 "UnibusMachine$Printer" "bits" "I", Cond.fieldLink RX5 30 "UnibusMachine$Printer" "wanting" "Z", Cond.sameField "UnibusMachine$Printer" "UnibusMachine$Line" "wanting" "Z", Cond.methodLink RX0 103 yX1_begin, Cond.instanceMethod yX1_begin, Cond.selects RX1 yX1_begin yX1_begin]
def wsX6_trap_r6 : List Cond := [Cond.initialized RX1, Cond.code yX1_begin cX1_begin 2 none, Cond.fieldLink RX1 29 "UnibusMachine$Drive" "left" "I", Cond.fieldLink RX1 32 "UnibusMachine$Drive" "fresh" "Z", Cond.fieldLink RX1 17 "UnibusMachine$Drive" "wrong" "I", Cond.fieldLink RX1 36 "UnibusMachine$Drive" "bits" "I", Cond.fieldLink RX1 39 "UnibusMachine$Drive" "wanting" "Z", Cond.sameField "UnibusMachine$Drive" "UnibusMachine$Line" "wanting" "Z", Cond.methodLink RX0 104 ⟨"UnibusMachine$Drive", "become", "(I)V"⟩, Cond.sameMethod "UnibusMachine$Drive" "UnibusMachine$Line" "become" "(I)V", Cond.selects RX1 ⟨"UnibusMachine$Drive", "become", "(I)V"⟩ yX3_become]
def wsX6_trap : List Cond := .code yX6_trap cX6_trap 6 none :: ((wsX6_trap_r1 ++ (wsX6_trap_r2 ++ (wsX6_trap_r3 ++ (wsX6_trap_r4 ++ (wsX6_trap_r5 ++ wsX6_trap_r6))))) ++ wsX60 ++ wsX70 ++ wsX00 ++ wsX40 ++ wsX10 ++ wsX20 ++ wsX50 ++ (vx_at0 RX6 111 "java/lang/UnsupportedOperationException" ["java/lang/RuntimeException", "java/lang/Exception"]).filter goodWord)
def wsX6_settle : List Cond := .code yX6_settle cX6_settle 2 none :: ([.fieldLink RX6 43 "UnibusMachine$Processor" "status" "LUnibusMachine$Status;", .fieldLink RX6 73 "UnibusMachine$Status" "written" "I", .fieldLink RX6 44 "UnibusMachine$Status" "now" "I", .fieldLink RX6 27 "UnibusMachine$Processor" "named" "I", .fieldLink RX6 30 "UnibusMachine$Processor" "flags" "I", .methodLink RX6 76 yX6_takeStatus, .instanceMethod yX6_takeStatus, .selects RX6 yX6_takeStatus yX6_takeStatus, .initialized RX6, .code yX6_takeStatus cX6_takeStatus 3 none, .fieldLink RX6 7 "UnibusMachine$Processor" "registers" "[I", .fieldLink RX6 13 "UnibusMachine$Processor" "otherStack" "I"] ++ wsX60 ++ wsX70)
def wsX6_enter_r1 : List Cond := [Cond.classLink RX6 65 "java/lang/UnsupportedOperationException", Cond.fieldLink RX6 17 "UnibusMachine$Processor" "halted" "I", Cond.methodLink RX6 105 yX6_trap, Cond.instanceMethod yX6_trap, Cond.selects RX6 yX6_trap yX6_trap, Cond.initialized RX6, Cond.code yX6_trap cX6_trap 6 none, Cond.fieldLink RX6 43 "UnibusMachine$Processor" "status" "LUnibusMachine$Status;", Cond.fieldLink RX6 44 "UnibusMachine$Status" "now" "I", Cond.fieldLink RX6 7 "UnibusMachine$Processor" "registers" "[I", Cond.methodLink RX6 56 yX6_readWord, Cond.instanceMethod yX6_readWord, Cond.selects RX6 yX6_readWord yX6_readWord, Cond.code yX6_readWord cX6_readWord 4 (some .int), Cond.fieldLink RX6 33 "UnibusMachine$Processor" "bus" "LUnibusMachine$Bus;", Cond.methodLink RX6 112 yX6_stop, Cond.instanceMethod yX6_stop, Cond.selects RX6 yX6_stop yX6_stop, Cond.code yX6_stop cX6_stop 2 none, Cond.initialized "java/lang/UnsupportedOperationException", Cond.fieldLink RX6 24 "UnibusMachine$Processor" "vector" "I", Cond.methodLink RX6 115 yX6_place, Cond.instanceMethod yX6_place, Cond.selects RX6 yX6_place yX6_place]
def wsX6_enter_r2 : List Cond := [Cond.code yX6_place cX6_place 5 (some .int), Cond.fieldLink RX6 132 "UnibusMachine$Bus" "map" "LUnibusMachine$PageMap;", Cond.methodLink RX6 136 yX4_locate, Cond.instanceMethod yX4_locate, Cond.selects RX4 yX4_locate yX4_locate, Cond.initialized RX4, Cond.code yX4_locate cX4_locate 9 (some .int), Cond.fieldLink RX4 16 "UnibusMachine$PageMap" "control" "I", Cond.fieldLink RX4 9 "UnibusMachine$PageMap" "descriptors" "[I", Cond.constant RX4 20 (32768), Cond.fieldLink RX4 13 "UnibusMachine$PageMap" "bases" "[I", Cond.constant RX4 21 (65535), Cond.constant RX4 22 (57344), Cond.methodLink RX6 119 yX0_read, Cond.instanceMethod yX0_read, Cond.selects RX0 yX0_read yX0_read, Cond.initialized RX0, Cond.code yX0_read cX0_read 3 (some .int), Cond.constant RX0 91 (57426), Cond.fieldLink RX0 30 "UnibusMachine$Bus" "keyboard" "LUnibusMachine$Keyboard;", Cond.fieldLink RX0 61 "UnibusMachine$Keyboard" "bits" "I", Cond.sameField "UnibusMachine$Keyboard" "UnibusMachine$Line" "bits" "I", Cond.methodLink RX0 87 yX0_peek, Cond.instanceMethod yX0_peek]
def wsX6_enter_r3 : List Cond := [Cond.selects RX0 yX0_peek yX0_peek, Cond.code yX0_peek cX0_peek 2 (some .int), Cond.fieldLink RX0 9 "UnibusMachine$Bus" "memory" "[I", Cond.constant RX0 48 (57344), Cond.constant RX0 49 (57376), Cond.fieldLink RX0 16 "UnibusMachine$Bus" "map" "LUnibusMachine$PageMap;", Cond.fieldLink RX0 50 "UnibusMachine$PageMap" "descriptors" "[I", Cond.constant RX0 53 (57408), Cond.fieldLink RX0 54 "UnibusMachine$PageMap" "bases" "[I", Cond.fieldLink RX0 57 "UnibusMachine$PageMap" "control" "I", Cond.fieldLink RX0 64 "UnibusMachine$Keyboard" "character" "I", Cond.fieldLink RX0 37 "UnibusMachine$Bus" "printer" "LUnibusMachine$Printer;", Cond.fieldLink RX0 67 "UnibusMachine$Printer" "bits" "I", Cond.sameField "UnibusMachine$Printer" "UnibusMachine$Line" "bits" "I", Cond.fieldLink RX0 44 "UnibusMachine$Bus" "drive" "LUnibusMachine$Drive;", Cond.fieldLink RX0 68 "UnibusMachine$Drive" "bits" "I", Cond.sameField "UnibusMachine$Drive" "UnibusMachine$Line" "bits" "I", Cond.fieldLink RX0 69 "UnibusMachine$Drive" "writing" "I", Cond.fieldLink RX0 72 "UnibusMachine$Drive" "wrong" "I", Cond.fieldLink RX0 75 "UnibusMachine$Drive" "count" "I", Cond.fieldLink RX0 78 "UnibusMachine$Drive" "address" "I", Cond.fieldLink RX0 81 "UnibusMachine$Drive" "sector" "I", Cond.fieldLink RX0 23 "UnibusMachine$Bus" "status" "LUnibusMachine$Status;", Cond.fieldLink RX0 84 "UnibusMachine$Status" "now" "I"]
def wsX6_enter_r4 : List Cond := [Cond.methodLink RX0 94 ⟨"UnibusMachine$Keyboard", "become", "(I)V"⟩, Cond.sameMethod "UnibusMachine$Keyboard" "UnibusMachine$Line" "become" "(I)V", Cond.selects RX2 ⟨"UnibusMachine$Keyboard", "become", "(I)V"⟩ yX3_become, Cond.instanceMethod yX3_become, Cond.initialized RX3, Cond.code yX3_become cX3_become 2 none, Cond.fieldLink RX3 13 "UnibusMachine$Line" "wanting" "Z", Cond.fieldLink RX3 9 "UnibusMachine$Line" "bits" "I", Cond.methodLink RX6 52 yX6_mode, Cond.instanceMethod yX6_mode, Cond.selects RX6 yX6_mode yX6_mode, Cond.code yX6_mode cX6_mode 1 (some .int), Cond.methodLink RX6 76 yX6_takeStatus, Cond.instanceMethod yX6_takeStatus, Cond.selects RX6 yX6_takeStatus yX6_takeStatus, Cond.code yX6_takeStatus cX6_takeStatus 3 none, Cond.fieldLink RX6 13 "UnibusMachine$Processor" "otherStack" "I", Cond.methodLink RX6 108 yX6_push, Cond.instanceMethod yX6_push, Cond.selects RX6 yX6_push yX6_push, Cond.code yX6_push cX6_push 2 none, Cond.methodLink RX6 141 yX6_fall, Cond.instanceMethod yX6_fall, Cond.selects RX6 yX6_fall yX6_fall]
def wsX6_enter_r5 : List Cond := [Cond.code yX6_fall cX6_fall 3 (some .int), Cond.constant RX6 60 (65535), Cond.methodLink RX6 144 yX6_writeWord, Cond.instanceMethod yX6_writeWord, Cond.selects RX6 yX6_writeWord yX6_writeWord, Cond.code yX6_writeWord cX6_writeWord 4 none, Cond.methodLink RX6 123 yX0_write, Cond.instanceMethod yX0_write, Cond.selects RX0 yX0_write yX0_write, Cond.code yX0_write cX0_write 3 (some .boolean), Cond.constant RX0 98 (57375), Cond.fieldLink RX0 105 "UnibusMachine$Status" "written" "I", Cond.methodLink RX0 99 ⟨"UnibusMachine$Printer", "become", "(I)V"⟩, Cond.sameMethod "UnibusMachine$Printer" "UnibusMachine$Line" "become" "(I)V", Cond.selects RX5 ⟨"UnibusMachine$Printer", "become", "(I)V"⟩ yX3_become, Cond.methodLink RX0 100 yX5_begin, Cond.instanceMethod yX5_begin, Cond.selects RX5 yX5_begin yX5_begin, Cond.initialized RX5, Cond.code yX5_begin cX5_begin 2 none, Cond.fieldLink RX5 17 "UnibusMachine$Printer" "character" "I", Cond.fieldLink RX5 20 "UnibusMachine$Printer" "left" "I", Cond.fieldLink RX5 23 "UnibusMachine$Printer" "fresh" "Z", Cond.fieldLink RX5 27 "UnibusMachine$Printer" "bits" "I"]
def wsX6_enter_r6 : List Cond := [Cond.fieldLink RX5 30 "UnibusMachine$Printer" "wanting" "Z", Cond.sameField "UnibusMachine$Printer" "UnibusMachine$Line" "wanting" "Z", Cond.methodLink RX0 103 yX1_begin, Cond.instanceMethod yX1_begin, Cond.selects RX1 yX1_begin yX1_begin, Cond.initialized RX1, Cond.code yX1_begin cX1_begin 2 none, Cond.fieldLink RX1 29 "UnibusMachine$Drive" "left" "I", Cond.fieldLink RX1 32 "UnibusMachine$Drive" "fresh" "Z", Cond.fieldLink RX1 17 "UnibusMachine$Drive" "wrong" "I", Cond.fieldLink RX1 36 "UnibusMachine$Drive" "bits" "I", Cond.fieldLink RX1 39 "UnibusMachine$Drive" "wanting" "Z", Cond.sameField "UnibusMachine$Drive" "UnibusMachine$Line" "wanting" "Z", Cond.methodLink RX0 104 ⟨"UnibusMachine$Drive", "become", "(I)V"⟩, Cond.sameMethod "UnibusMachine$Drive" "UnibusMachine$Line" "become" "(I)V", Cond.selects RX1 ⟨"UnibusMachine$Drive", "become", "(I)V"⟩ yX3_become, Cond.methodLink RX6 70 yX6_settle, Cond.instanceMethod yX6_settle, Cond.selects RX6 yX6_settle yX6_settle, Cond.code yX6_settle cX6_settle 2 none, Cond.fieldLink RX6 73 "UnibusMachine$Status" "written" "I", Cond.fieldLink RX6 27 "UnibusMachine$Processor" "named" "I", Cond.fieldLink RX6 30 "UnibusMachine$Processor" "flags" "I"]
def wsX6_enter : List Cond := .codeWith yX6_enter cX6_enter 3 none [(0, 5, 8, 65)] :: ((wsX6_enter_r1 ++ (wsX6_enter_r2 ++ (wsX6_enter_r3 ++ (wsX6_enter_r4 ++ (wsX6_enter_r5 ++ wsX6_enter_r6))))) ++ wsX60 ++ wsX70 ++ wsX00 ++ wsX40 ++ wsX10 ++ wsX20 ++ wsX50 ++ (vx_at0 RX6 111 "java/lang/UnsupportedOperationException" ["java/lang/RuntimeException", "java/lang/Exception"]).filter goodWord)
theorem dX0_peek_0 : decode cX0_peek 0 = .ok (.iload_n 1, 1) := by decide +kernel
theorem dX0_peek_1 : decode cX0_peek 1 = .ok (.iconst 1, 1) := by decide +kernel
theorem dX0_peek_2 : decode cX0_peek 2 = .ok (.iand, 1) := by decide +kernel
theorem dX0_peek_3 : decode cX0_peek 3 = .ok (.ifCond .eq 5, 3) := by decide +kernel
theorem dX0_peek_6 : decode cX0_peek 6 = .ok (.iconst (-1), 1) := by decide +kernel
theorem dX0_peek_7 : decode cX0_peek 7 = .ok (.ireturn, 1) := by decide +kernel
theorem dX0_peek_8 : decode cX0_peek 8 = .ok (.iload_n 1, 1) := by decide +kernel
theorem dX0_peek_9 : decode cX0_peek 9 = .ok (.ifCond .lt 19, 3) := by decide +kernel
theorem dX0_peek_12 : decode cX0_peek 12 = .ok (.iload_n 1, 1) := by decide +kernel
theorem dX0_peek_13 : decode cX0_peek 13 = .ok (.sipush 1024, 3) := by decide +kernel
theorem dX0_peek_16 : decode cX0_peek 16 = .ok (.if_icmp .ge 12, 3) := by decide +kernel
theorem dX0_peek_19 : decode cX0_peek 19 = .ok (.aload_n 0, 1) := by decide +kernel
theorem dX0_peek_20 : decode cX0_peek 20 = .ok (.getfield 9, 3) := by decide +kernel
theorem dX0_peek_23 : decode cX0_peek 23 = .ok (.iload_n 1, 1) := by decide +kernel
theorem dX0_peek_24 : decode cX0_peek 24 = .ok (.iconst 1, 1) := by decide +kernel
theorem dX0_peek_25 : decode cX0_peek 25 = .ok (.ishr, 1) := by decide +kernel
theorem dX0_peek_26 : decode cX0_peek 26 = .ok (.iaload, 1) := by decide +kernel
theorem dX0_peek_27 : decode cX0_peek 27 = .ok (.ireturn, 1) := by decide +kernel
theorem dX0_peek_28 : decode cX0_peek 28 = .ok (.iload_n 1, 1) := by decide +kernel
theorem dX0_peek_29 : decode cX0_peek 29 = .ok (.ldc 48, 2) := by decide +kernel
theorem dX0_peek_31 : decode cX0_peek 31 = .ok (.if_icmp .lt 24, 3) := by decide +kernel
theorem dX0_peek_34 : decode cX0_peek 34 = .ok (.iload_n 1, 1) := by decide +kernel
theorem dX0_peek_35 : decode cX0_peek 35 = .ok (.ldc 49, 2) := by decide +kernel
theorem dX0_peek_37 : decode cX0_peek 37 = .ok (.if_icmp .ge 18, 3) := by decide +kernel
theorem dX0_peek_40 : decode cX0_peek 40 = .ok (.aload_n 0, 1) := by decide +kernel
theorem dX0_peek_41 : decode cX0_peek 41 = .ok (.getfield 16, 3) := by decide +kernel
theorem dX0_peek_44 : decode cX0_peek 44 = .ok (.getfield 50, 3) := by decide +kernel
theorem dX0_peek_47 : decode cX0_peek 47 = .ok (.iload_n 1, 1) := by decide +kernel
theorem dX0_peek_48 : decode cX0_peek 48 = .ok (.ldc 48, 2) := by decide +kernel
theorem dX0_peek_50 : decode cX0_peek 50 = .ok (.isub, 1) := by decide +kernel
theorem dX0_peek_51 : decode cX0_peek 51 = .ok (.iconst 1, 1) := by decide +kernel
theorem dX0_peek_52 : decode cX0_peek 52 = .ok (.ishr, 1) := by decide +kernel
theorem dX0_peek_53 : decode cX0_peek 53 = .ok (.iaload, 1) := by decide +kernel
theorem dX0_peek_54 : decode cX0_peek 54 = .ok (.ireturn, 1) := by decide +kernel
theorem dX0_peek_55 : decode cX0_peek 55 = .ok (.iload_n 1, 1) := by decide +kernel
theorem dX0_peek_56 : decode cX0_peek 56 = .ok (.ldc 49, 2) := by decide +kernel
theorem dX0_peek_58 : decode cX0_peek 58 = .ok (.if_icmp .lt 24, 3) := by decide +kernel
theorem dX0_peek_61 : decode cX0_peek 61 = .ok (.iload_n 1, 1) := by decide +kernel
theorem dX0_peek_62 : decode cX0_peek 62 = .ok (.ldc 53, 2) := by decide +kernel
theorem dX0_peek_64 : decode cX0_peek 64 = .ok (.if_icmp .ge 18, 3) := by decide +kernel
theorem dX0_peek_67 : decode cX0_peek 67 = .ok (.aload_n 0, 1) := by decide +kernel
theorem dX0_peek_68 : decode cX0_peek 68 = .ok (.getfield 16, 3) := by decide +kernel
theorem dX0_peek_71 : decode cX0_peek 71 = .ok (.getfield 54, 3) := by decide +kernel
theorem dX0_peek_74 : decode cX0_peek 74 = .ok (.iload_n 1, 1) := by decide +kernel
theorem dX0_peek_75 : decode cX0_peek 75 = .ok (.ldc 49, 2) := by decide +kernel
theorem dX0_peek_77 : decode cX0_peek 77 = .ok (.isub, 1) := by decide +kernel
theorem dX0_peek_78 : decode cX0_peek 78 = .ok (.iconst 1, 1) := by decide +kernel
theorem dX0_peek_79 : decode cX0_peek 79 = .ok (.ishr, 1) := by decide +kernel
theorem dX0_peek_80 : decode cX0_peek 80 = .ok (.iaload, 1) := by decide +kernel
theorem dX0_peek_81 : decode cX0_peek 81 = .ok (.ireturn, 1) := by decide +kernel
theorem dX0_peek_82 : decode cX0_peek 82 = .ok (.iload_n 1, 1) := by decide +kernel
theorem dX0_peek_83 : decode cX0_peek 83 = .ok (.lookupswitch 179 #[(57408, 89), (57424, 97), (57426, 105), (57428, 113), (57430, 121), (57440, 123), (57442, 147), (57444, 155), (57446, 163), (57470, 171)], 89) := by decide +kernel
theorem dX0_peek_172 : decode cX0_peek 172 = .ok (.aload_n 0, 1) := by decide +kernel
theorem dX0_peek_173 : decode cX0_peek 173 = .ok (.getfield 16, 3) := by decide +kernel
theorem dX0_peek_176 : decode cX0_peek 176 = .ok (.getfield 57, 3) := by decide +kernel
theorem dX0_peek_179 : decode cX0_peek 179 = .ok (.ireturn, 1) := by decide +kernel
theorem dX0_peek_180 : decode cX0_peek 180 = .ok (.aload_n 0, 1) := by decide +kernel
theorem dX0_peek_181 : decode cX0_peek 181 = .ok (.getfield 30, 3) := by decide +kernel
theorem dX0_peek_184 : decode cX0_peek 184 = .ok (.getfield 61, 3) := by decide +kernel
theorem dX0_peek_187 : decode cX0_peek 187 = .ok (.ireturn, 1) := by decide +kernel
theorem dX0_peek_188 : decode cX0_peek 188 = .ok (.aload_n 0, 1) := by decide +kernel
theorem dX0_peek_189 : decode cX0_peek 189 = .ok (.getfield 30, 3) := by decide +kernel
theorem dX0_peek_192 : decode cX0_peek 192 = .ok (.getfield 64, 3) := by decide +kernel
theorem dX0_peek_195 : decode cX0_peek 195 = .ok (.ireturn, 1) := by decide +kernel
theorem dX0_peek_196 : decode cX0_peek 196 = .ok (.aload_n 0, 1) := by decide +kernel
theorem dX0_peek_197 : decode cX0_peek 197 = .ok (.getfield 37, 3) := by decide +kernel
theorem dX0_peek_200 : decode cX0_peek 200 = .ok (.getfield 67, 3) := by decide +kernel
theorem dX0_peek_203 : decode cX0_peek 203 = .ok (.ireturn, 1) := by decide +kernel
theorem dX0_peek_204 : decode cX0_peek 204 = .ok (.iconst 0, 1) := by decide +kernel
theorem dX0_peek_205 : decode cX0_peek 205 = .ok (.ireturn, 1) := by decide +kernel
theorem dX0_peek_206 : decode cX0_peek 206 = .ok (.aload_n 0, 1) := by decide +kernel
theorem dX0_peek_207 : decode cX0_peek 207 = .ok (.getfield 44, 3) := by decide +kernel
theorem dX0_peek_210 : decode cX0_peek 210 = .ok (.getfield 68, 3) := by decide +kernel
theorem dX0_peek_213 : decode cX0_peek 213 = .ok (.aload_n 0, 1) := by decide +kernel
theorem dX0_peek_214 : decode cX0_peek 214 = .ok (.getfield 44, 3) := by decide +kernel
theorem dX0_peek_217 : decode cX0_peek 217 = .ok (.getfield 69, 3) := by decide +kernel
theorem dX0_peek_220 : decode cX0_peek 220 = .ok (.ior, 1) := by decide +kernel
theorem dX0_peek_221 : decode cX0_peek 221 = .ok (.aload_n 0, 1) := by decide +kernel
theorem dX0_peek_222 : decode cX0_peek 222 = .ok (.getfield 44, 3) := by decide +kernel
theorem dX0_peek_225 : decode cX0_peek 225 = .ok (.getfield 72, 3) := by decide +kernel
theorem dX0_peek_228 : decode cX0_peek 228 = .ok (.ior, 1) := by decide +kernel
theorem dX0_peek_229 : decode cX0_peek 229 = .ok (.ireturn, 1) := by decide +kernel
theorem dX0_peek_230 : decode cX0_peek 230 = .ok (.aload_n 0, 1) := by decide +kernel
theorem dX0_peek_231 : decode cX0_peek 231 = .ok (.getfield 44, 3) := by decide +kernel
theorem dX0_peek_234 : decode cX0_peek 234 = .ok (.getfield 75, 3) := by decide +kernel
theorem dX0_peek_237 : decode cX0_peek 237 = .ok (.ireturn, 1) := by decide +kernel
theorem dX0_peek_238 : decode cX0_peek 238 = .ok (.aload_n 0, 1) := by decide +kernel
theorem dX0_peek_239 : decode cX0_peek 239 = .ok (.getfield 44, 3) := by decide +kernel
theorem dX0_peek_242 : decode cX0_peek 242 = .ok (.getfield 78, 3) := by decide +kernel
theorem dX0_peek_245 : decode cX0_peek 245 = .ok (.ireturn, 1) := by decide +kernel
theorem dX0_peek_246 : decode cX0_peek 246 = .ok (.aload_n 0, 1) := by decide +kernel
theorem dX0_peek_247 : decode cX0_peek 247 = .ok (.getfield 44, 3) := by decide +kernel
theorem dX0_peek_250 : decode cX0_peek 250 = .ok (.getfield 81, 3) := by decide +kernel
theorem dX0_peek_253 : decode cX0_peek 253 = .ok (.ireturn, 1) := by decide +kernel
theorem dX0_peek_254 : decode cX0_peek 254 = .ok (.aload_n 0, 1) := by decide +kernel
theorem dX0_peek_255 : decode cX0_peek 255 = .ok (.getfield 23, 3) := by decide +kernel
theorem dX0_peek_258 : decode cX0_peek 258 = .ok (.getfield 84, 3) := by decide +kernel
theorem dX0_peek_261 : decode cX0_peek 261 = .ok (.ireturn, 1) := by decide +kernel
theorem dX0_peek_262 : decode cX0_peek 262 = .ok (.iconst (-1), 1) := by decide +kernel
theorem dX0_peek_263 : decode cX0_peek 263 = .ok (.ireturn, 1) := by decide +kernel
def wsX6_lookForInterrupt_r1 : List Cond := [Cond.fieldLink RX6 43 "UnibusMachine$Processor" "status" "LUnibusMachine$Status;", Cond.fieldLink RX6 44 "UnibusMachine$Status" "now" "I", Cond.fieldLink RX6 33 "UnibusMachine$Processor" "bus" "LUnibusMachine$Bus;", Cond.fieldLink RX6 79 "UnibusMachine$Bus" "drive" "LUnibusMachine$Drive;", Cond.fieldLink RX6 83 "UnibusMachine$Drive" "wanting" "Z", Cond.sameField "UnibusMachine$Drive" "UnibusMachine$Line" "wanting" "Z", Cond.fieldLink RX6 88 "UnibusMachine$Bus" "keyboard" "LUnibusMachine$Keyboard;", Cond.fieldLink RX6 92 "UnibusMachine$Keyboard" "wanting" "Z", Cond.sameField "UnibusMachine$Keyboard" "UnibusMachine$Line" "wanting" "Z", Cond.fieldLink RX6 95 "UnibusMachine$Bus" "printer" "LUnibusMachine$Printer;", Cond.fieldLink RX6 99 "UnibusMachine$Printer" "wanting" "Z", Cond.sameField "UnibusMachine$Printer" "UnibusMachine$Line" "wanting" "Z", Cond.fieldLink RX6 102 "UnibusMachine$Line" "wanting" "Z", Cond.fieldLink RX6 20 "UnibusMachine$Processor" "waiting" "Z", Cond.initialized "java/lang/UnsupportedOperationException", Cond.sameField "UnibusMachine$Keyboard" "UnibusMachine$Line" "bits" "I", Cond.sameField "UnibusMachine$Printer" "UnibusMachine$Line" "bits" "I", Cond.sameField "UnibusMachine$Drive" "UnibusMachine$Line" "bits" "I"]
def wsX6_lookForInterrupt : List Cond := .code yX6_lookForInterrupt cX6_lookForInterrupt 4 none :: (wsX6_lookForInterrupt_r1 ++ wsX60 ++ wsX70 ++ wsX00 ++ wsX10 ++ wsX20 ++ wsX50 ++ wsX40 ++ (vx_at0 RX6 111 "java/lang/UnsupportedOperationException" ["java/lang/RuntimeException", "java/lang/Exception"]).filter goodWord)
def wsX6_perform_r1 : List Cond := [Cond.classLink RX6 65 "java/lang/UnsupportedOperationException", Cond.fieldLink RX6 33 "UnibusMachine$Processor" "bus" "LUnibusMachine$Bus;", Cond.fieldLink RX6 20 "UnibusMachine$Processor" "waiting" "Z", Cond.fieldLink RX6 7 "UnibusMachine$Processor" "registers" "[I", Cond.constant RX6 60 (65535), Cond.fieldLink RX6 24 "UnibusMachine$Processor" "vector" "I", Cond.methodLink RX6 49 yX0_nextInstruction, Cond.instanceMethod yX0_nextInstruction, Cond.selects RX0 yX0_nextInstruction yX0_nextInstruction, Cond.initialized RX0, Cond.code yX0_nextInstruction cX0_nextInstruction 1 none, Cond.fieldLink RX0 37 "UnibusMachine$Bus" "printer" "LUnibusMachine$Printer;", Cond.fieldLink RX0 108 "UnibusMachine$Printer" "fresh" "Z", Cond.fieldLink RX0 44 "UnibusMachine$Bus" "drive" "LUnibusMachine$Drive;", Cond.fieldLink RX0 112 "UnibusMachine$Drive" "fresh" "Z", Cond.methodLink RX6 52 yX6_mode, Cond.instanceMethod yX6_mode, Cond.selects RX6 yX6_mode yX6_mode, Cond.initialized RX6, Cond.code yX6_mode cX6_mode 1 (some .int), Cond.fieldLink RX6 43 "UnibusMachine$Processor" "status" "LUnibusMachine$Status;", Cond.fieldLink RX6 44 "UnibusMachine$Status" "now" "I", Cond.methodLink RX6 56 yX6_readWord, Cond.instanceMethod yX6_readWord]
def wsX6_perform_r2 : List Cond := [Cond.selects RX6 yX6_readWord yX6_readWord, Cond.code yX6_readWord cX6_readWord 4 (some .int), Cond.methodLink RX6 112 yX6_stop, Cond.instanceMethod yX6_stop, Cond.selects RX6 yX6_stop yX6_stop, Cond.code yX6_stop cX6_stop 2 none, Cond.initialized "java/lang/UnsupportedOperationException", Cond.methodLink RX6 115 yX6_place, Cond.instanceMethod yX6_place, Cond.selects RX6 yX6_place yX6_place, Cond.code yX6_place cX6_place 5 (some .int), Cond.fieldLink RX6 132 "UnibusMachine$Bus" "map" "LUnibusMachine$PageMap;", Cond.methodLink RX6 136 yX4_locate, Cond.instanceMethod yX4_locate, Cond.selects RX4 yX4_locate yX4_locate, Cond.initialized RX4, Cond.code yX4_locate cX4_locate 9 (some .int), Cond.fieldLink RX4 16 "UnibusMachine$PageMap" "control" "I", Cond.fieldLink RX4 9 "UnibusMachine$PageMap" "descriptors" "[I", Cond.constant RX4 20 (32768), Cond.fieldLink RX4 13 "UnibusMachine$PageMap" "bases" "[I", Cond.constant RX4 21 (65535), Cond.constant RX4 22 (57344), Cond.methodLink RX6 119 yX0_read]
def wsX6_perform_r3 : List Cond := [Cond.instanceMethod yX0_read, Cond.selects RX0 yX0_read yX0_read, Cond.code yX0_read cX0_read 3 (some .int), Cond.constant RX0 91 (57426), Cond.fieldLink RX0 30 "UnibusMachine$Bus" "keyboard" "LUnibusMachine$Keyboard;", Cond.fieldLink RX0 61 "UnibusMachine$Keyboard" "bits" "I", Cond.sameField "UnibusMachine$Keyboard" "UnibusMachine$Line" "bits" "I", Cond.methodLink RX0 87 yX0_peek, Cond.instanceMethod yX0_peek, Cond.selects RX0 yX0_peek yX0_peek, Cond.code yX0_peek cX0_peek 2 (some .int), Cond.fieldLink RX0 9 "UnibusMachine$Bus" "memory" "[I", Cond.constant RX0 48 (57344), Cond.constant RX0 49 (57376), Cond.fieldLink RX0 16 "UnibusMachine$Bus" "map" "LUnibusMachine$PageMap;", Cond.fieldLink RX0 50 "UnibusMachine$PageMap" "descriptors" "[I", Cond.constant RX0 53 (57408), Cond.fieldLink RX0 54 "UnibusMachine$PageMap" "bases" "[I", Cond.fieldLink RX0 57 "UnibusMachine$PageMap" "control" "I", Cond.fieldLink RX0 64 "UnibusMachine$Keyboard" "character" "I", Cond.fieldLink RX0 67 "UnibusMachine$Printer" "bits" "I", Cond.sameField "UnibusMachine$Printer" "UnibusMachine$Line" "bits" "I", Cond.fieldLink RX0 68 "UnibusMachine$Drive" "bits" "I", Cond.sameField "UnibusMachine$Drive" "UnibusMachine$Line" "bits" "I"]
def wsX6_perform_r4 : List Cond := [Cond.fieldLink RX0 69 "UnibusMachine$Drive" "writing" "I", Cond.fieldLink RX0 72 "UnibusMachine$Drive" "wrong" "I", Cond.fieldLink RX0 75 "UnibusMachine$Drive" "count" "I", Cond.fieldLink RX0 78 "UnibusMachine$Drive" "address" "I", Cond.fieldLink RX0 81 "UnibusMachine$Drive" "sector" "I", Cond.fieldLink RX0 23 "UnibusMachine$Bus" "status" "LUnibusMachine$Status;", Cond.fieldLink RX0 84 "UnibusMachine$Status" "now" "I", Cond.methodLink RX0 94 ⟨"UnibusMachine$Keyboard", "become", "(I)V"⟩, Cond.sameMethod "UnibusMachine$Keyboard" "UnibusMachine$Line" "become" "(I)V", Cond.selects RX2 ⟨"UnibusMachine$Keyboard", "become", "(I)V"⟩ yX3_become, Cond.instanceMethod yX3_become, Cond.initialized RX3, Cond.code yX3_become cX3_become 2 none, Cond.fieldLink RX3 13 "UnibusMachine$Line" "wanting" "Z", Cond.fieldLink RX3 9 "UnibusMachine$Line" "bits" "I", Cond.methodLink RX6 141 yX6_fall, Cond.instanceMethod yX6_fall, Cond.selects RX6 yX6_fall yX6_fall, Cond.code yX6_fall cX6_fall 3 (some .int), Cond.methodLink RX6 123 yX0_write, Cond.instanceMethod yX0_write, Cond.selects RX0 yX0_write yX0_write, Cond.code yX0_write cX0_write 3 (some .boolean), Cond.constant RX0 98 (57375)]
def wsX6_perform_r5 : List Cond := [Cond.fieldLink RX0 105 "UnibusMachine$Status" "written" "I", Cond.methodLink RX0 99 ⟨"UnibusMachine$Printer", "become", "(I)V"⟩, Cond.sameMethod "UnibusMachine$Printer" "UnibusMachine$Line" "become" "(I)V", Cond.selects RX5 ⟨"UnibusMachine$Printer", "become", "(I)V"⟩ yX3_become, Cond.methodLink RX0 100 yX5_begin, Cond.instanceMethod yX5_begin, Cond.selects RX5 yX5_begin yX5_begin, Cond.initialized RX5, Cond.code yX5_begin cX5_begin 2 none, Cond.fieldLink RX5 17 "UnibusMachine$Printer" "character" "I", Cond.fieldLink RX5 20 "UnibusMachine$Printer" "left" "I", Cond.fieldLink RX5 23 "UnibusMachine$Printer" "fresh" "Z", Cond.fieldLink RX5 27 "UnibusMachine$Printer" "bits" "I", Cond.fieldLink RX5 30 "UnibusMachine$Printer" "wanting" "Z", Cond.sameField "UnibusMachine$Printer" "UnibusMachine$Line" "wanting" "Z", Cond.methodLink RX0 103 yX1_begin, Cond.instanceMethod yX1_begin, Cond.selects RX1 yX1_begin yX1_begin, Cond.initialized RX1, Cond.code yX1_begin cX1_begin 2 none, Cond.fieldLink RX1 29 "UnibusMachine$Drive" "left" "I", Cond.fieldLink RX1 32 "UnibusMachine$Drive" "fresh" "Z", Cond.fieldLink RX1 17 "UnibusMachine$Drive" "wrong" "I", Cond.fieldLink RX1 36 "UnibusMachine$Drive" "bits" "I"]
def wsX6_perform_r6 : List Cond := [Cond.fieldLink RX1 39 "UnibusMachine$Drive" "wanting" "Z", Cond.sameField "UnibusMachine$Drive" "UnibusMachine$Line" "wanting" "Z", Cond.methodLink RX0 104 ⟨"UnibusMachine$Drive", "become", "(I)V"⟩, Cond.sameMethod "UnibusMachine$Drive" "UnibusMachine$Line" "become" "(I)V", Cond.selects RX1 ⟨"UnibusMachine$Drive", "become", "(I)V"⟩ yX3_become, Cond.methodLink RX6 144 yX6_writeWord, Cond.instanceMethod yX6_writeWord, Cond.selects RX6 yX6_writeWord yX6_writeWord, Cond.code yX6_writeWord cX6_writeWord 4 none, Cond.fieldLink RX6 27 "UnibusMachine$Processor" "named" "I", Cond.fieldLink RX6 30 "UnibusMachine$Processor" "flags" "I", Cond.methodLink RX6 108 yX6_push, Cond.instanceMethod yX6_push, Cond.selects RX6 yX6_push yX6_push, Cond.code yX6_push cX6_push 2 none, Cond.methodLink RX6 76 yX6_takeStatus, Cond.instanceMethod yX6_takeStatus, Cond.selects RX6 yX6_takeStatus yX6_takeStatus, Cond.code yX6_takeStatus cX6_takeStatus 3 none, Cond.fieldLink RX6 13 "UnibusMachine$Processor" "otherStack" "I", Cond.fieldLink RX6 17 "UnibusMachine$Processor" "halted" "I", Cond.methodLink RX6 67 yX6_enter, Cond.instanceMethod yX6_enter, Cond.selects RX6 yX6_enter yX6_enter]
def wsX6_perform_r7 : List Cond := [Cond.codeWith yX6_enter cX6_enter 3 none [(0, 5, 8, 65)], Cond.methodLink RX6 105 yX6_trap, Cond.instanceMethod yX6_trap, Cond.selects RX6 yX6_trap yX6_trap, Cond.code yX6_trap cX6_trap 6 none, Cond.methodLink RX6 70 yX6_settle, Cond.instanceMethod yX6_settle, Cond.selects RX6 yX6_settle yX6_settle, Cond.code yX6_settle cX6_settle 2 none, Cond.fieldLink RX6 73 "UnibusMachine$Status" "written" "I"]
def wsX6_perform : List Cond := .codeWith yX6_perform cX6_perform 3 none [(17, 57, 60, 65)] :: ((wsX6_perform_r1 ++ (wsX6_perform_r2 ++ (wsX6_perform_r3 ++ (wsX6_perform_r4 ++ (wsX6_perform_r5 ++ (wsX6_perform_r6 ++ wsX6_perform_r7)))))) ++ wsX60 ++ wsX00 ++ wsX50 ++ wsX10 ++ wsX70 ++ wsX40 ++ wsX20 ++ (vx_at0 RX6 111 "java/lang/UnsupportedOperationException" ["java/lang/RuntimeException", "java/lang/Exception"]).filter goodWord)
def wsX8_run_r1 : List Cond := [Cond.classLink RX8 32 "java/lang/IllegalArgumentException", Cond.initialized "java/lang/IllegalArgumentException", Cond.classLink RX8 70 "java/lang/IllegalStateException", Cond.initialized "java/lang/IllegalStateException", Cond.fieldLink RX8 21 "UnibusMachine" "processor" "LUnibusMachine$Processor;", Cond.fieldLink RX8 63 "UnibusMachine$Processor" "halted" "I", Cond.fieldLink RX8 10 "UnibusMachine" "bus" "LUnibusMachine$Bus;", Cond.methodLink RX8 73 yX6_perform, Cond.instanceMethod yX6_perform, Cond.selects RX6 yX6_perform yX6_perform, Cond.initialized RX6, Cond.codeWith yX6_perform cX6_perform 3 none [(17, 57, 60, 65)], Cond.classLink RX6 65 "java/lang/UnsupportedOperationException", Cond.fieldLink RX6 33 "UnibusMachine$Processor" "bus" "LUnibusMachine$Bus;", Cond.fieldLink RX6 20 "UnibusMachine$Processor" "waiting" "Z", Cond.fieldLink RX6 7 "UnibusMachine$Processor" "registers" "[I", Cond.constant RX6 60 (65535), Cond.fieldLink RX6 24 "UnibusMachine$Processor" "vector" "I", Cond.methodLink RX6 49 yX0_nextInstruction, Cond.instanceMethod yX0_nextInstruction, Cond.selects RX0 yX0_nextInstruction yX0_nextInstruction, Cond.initialized RX0, Cond.code yX0_nextInstruction cX0_nextInstruction 1 none, Cond.fieldLink RX0 37 "UnibusMachine$Bus" "printer" "LUnibusMachine$Printer;"]
def wsX8_run_r2 : List Cond := [Cond.fieldLink RX0 108 "UnibusMachine$Printer" "fresh" "Z", Cond.fieldLink RX0 44 "UnibusMachine$Bus" "drive" "LUnibusMachine$Drive;", Cond.fieldLink RX0 112 "UnibusMachine$Drive" "fresh" "Z", Cond.methodLink RX6 52 yX6_mode, Cond.instanceMethod yX6_mode, Cond.selects RX6 yX6_mode yX6_mode, Cond.code yX6_mode cX6_mode 1 (some .int), Cond.fieldLink RX6 43 "UnibusMachine$Processor" "status" "LUnibusMachine$Status;", Cond.fieldLink RX6 44 "UnibusMachine$Status" "now" "I", Cond.methodLink RX6 56 yX6_readWord, Cond.instanceMethod yX6_readWord, Cond.selects RX6 yX6_readWord yX6_readWord, Cond.code yX6_readWord cX6_readWord 4 (some .int), Cond.methodLink RX6 112 yX6_stop, Cond.instanceMethod yX6_stop, Cond.selects RX6 yX6_stop yX6_stop, Cond.code yX6_stop cX6_stop 2 none, Cond.initialized "java/lang/UnsupportedOperationException", Cond.methodLink RX6 115 yX6_place, Cond.instanceMethod yX6_place, Cond.selects RX6 yX6_place yX6_place, Cond.code yX6_place cX6_place 5 (some .int), Cond.fieldLink RX6 132 "UnibusMachine$Bus" "map" "LUnibusMachine$PageMap;", Cond.methodLink RX6 136 yX4_locate]
def wsX8_run_r3 : List Cond := [Cond.instanceMethod yX4_locate, Cond.selects RX4 yX4_locate yX4_locate, Cond.initialized RX4, Cond.code yX4_locate cX4_locate 9 (some .int), Cond.fieldLink RX4 16 "UnibusMachine$PageMap" "control" "I", Cond.fieldLink RX4 9 "UnibusMachine$PageMap" "descriptors" "[I", Cond.constant RX4 20 (32768), Cond.fieldLink RX4 13 "UnibusMachine$PageMap" "bases" "[I", Cond.constant RX4 21 (65535), Cond.constant RX4 22 (57344), Cond.methodLink RX6 119 yX0_read, Cond.instanceMethod yX0_read, Cond.selects RX0 yX0_read yX0_read, Cond.code yX0_read cX0_read 3 (some .int), Cond.constant RX0 91 (57426), Cond.fieldLink RX0 30 "UnibusMachine$Bus" "keyboard" "LUnibusMachine$Keyboard;", Cond.fieldLink RX0 61 "UnibusMachine$Keyboard" "bits" "I", Cond.sameField "UnibusMachine$Keyboard" "UnibusMachine$Line" "bits" "I", Cond.methodLink RX0 87 yX0_peek, Cond.instanceMethod yX0_peek, Cond.selects RX0 yX0_peek yX0_peek, Cond.code yX0_peek cX0_peek 2 (some .int), Cond.fieldLink RX0 9 "UnibusMachine$Bus" "memory" "[I", Cond.constant RX0 48 (57344)]
def wsX8_run_r4 : List Cond := [Cond.constant RX0 49 (57376), Cond.fieldLink RX0 16 "UnibusMachine$Bus" "map" "LUnibusMachine$PageMap;", Cond.fieldLink RX0 50 "UnibusMachine$PageMap" "descriptors" "[I", Cond.constant RX0 53 (57408), Cond.fieldLink RX0 54 "UnibusMachine$PageMap" "bases" "[I", Cond.fieldLink RX0 57 "UnibusMachine$PageMap" "control" "I", Cond.fieldLink RX0 64 "UnibusMachine$Keyboard" "character" "I", Cond.fieldLink RX0 67 "UnibusMachine$Printer" "bits" "I", Cond.sameField "UnibusMachine$Printer" "UnibusMachine$Line" "bits" "I", Cond.fieldLink RX0 68 "UnibusMachine$Drive" "bits" "I", Cond.sameField "UnibusMachine$Drive" "UnibusMachine$Line" "bits" "I", Cond.fieldLink RX0 69 "UnibusMachine$Drive" "writing" "I", Cond.fieldLink RX0 72 "UnibusMachine$Drive" "wrong" "I", Cond.fieldLink RX0 75 "UnibusMachine$Drive" "count" "I", Cond.fieldLink RX0 78 "UnibusMachine$Drive" "address" "I", Cond.fieldLink RX0 81 "UnibusMachine$Drive" "sector" "I", Cond.fieldLink RX0 23 "UnibusMachine$Bus" "status" "LUnibusMachine$Status;", Cond.fieldLink RX0 84 "UnibusMachine$Status" "now" "I", Cond.methodLink RX0 94 ⟨"UnibusMachine$Keyboard", "become", "(I)V"⟩, Cond.sameMethod "UnibusMachine$Keyboard" "UnibusMachine$Line" "become" "(I)V", Cond.selects RX2 ⟨"UnibusMachine$Keyboard", "become", "(I)V"⟩ yX3_become, Cond.instanceMethod yX3_become, Cond.initialized RX3, Cond.code yX3_become cX3_become 2 none]
def wsX8_run_r5 : List Cond := [Cond.fieldLink RX3 13 "UnibusMachine$Line" "wanting" "Z", Cond.fieldLink RX3 9 "UnibusMachine$Line" "bits" "I", Cond.methodLink RX6 141 yX6_fall, Cond.instanceMethod yX6_fall, Cond.selects RX6 yX6_fall yX6_fall, Cond.code yX6_fall cX6_fall 3 (some .int), Cond.methodLink RX6 123 yX0_write, Cond.instanceMethod yX0_write, Cond.selects RX0 yX0_write yX0_write, Cond.code yX0_write cX0_write 3 (some .boolean), Cond.constant RX0 98 (57375), Cond.fieldLink RX0 105 "UnibusMachine$Status" "written" "I", Cond.methodLink RX0 99 ⟨"UnibusMachine$Printer", "become", "(I)V"⟩, Cond.sameMethod "UnibusMachine$Printer" "UnibusMachine$Line" "become" "(I)V", Cond.selects RX5 ⟨"UnibusMachine$Printer", "become", "(I)V"⟩ yX3_become, Cond.methodLink RX0 100 yX5_begin, Cond.instanceMethod yX5_begin, Cond.selects RX5 yX5_begin yX5_begin, Cond.initialized RX5, Cond.code yX5_begin cX5_begin 2 none, Cond.fieldLink RX5 17 "UnibusMachine$Printer" "character" "I", Cond.fieldLink RX5 20 "UnibusMachine$Printer" "left" "I", Cond.fieldLink RX5 23 "UnibusMachine$Printer" "fresh" "Z", Cond.fieldLink RX5 27 "UnibusMachine$Printer" "bits" "I"]
def wsX8_run_r6 : List Cond := [Cond.fieldLink RX5 30 "UnibusMachine$Printer" "wanting" "Z", Cond.sameField "UnibusMachine$Printer" "UnibusMachine$Line" "wanting" "Z", Cond.methodLink RX0 103 yX1_begin, Cond.instanceMethod yX1_begin, Cond.selects RX1 yX1_begin yX1_begin, Cond.initialized RX1, Cond.code yX1_begin cX1_begin 2 none, Cond.fieldLink RX1 29 "UnibusMachine$Drive" "left" "I", Cond.fieldLink RX1 32 "UnibusMachine$Drive" "fresh" "Z", Cond.fieldLink RX1 17 "UnibusMachine$Drive" "wrong" "I", Cond.fieldLink RX1 36 "UnibusMachine$Drive" "bits" "I", Cond.fieldLink RX1 39 "UnibusMachine$Drive" "wanting" "Z", Cond.sameField "UnibusMachine$Drive" "UnibusMachine$Line" "wanting" "Z", Cond.methodLink RX0 104 ⟨"UnibusMachine$Drive", "become", "(I)V"⟩, Cond.sameMethod "UnibusMachine$Drive" "UnibusMachine$Line" "become" "(I)V", Cond.selects RX1 ⟨"UnibusMachine$Drive", "become", "(I)V"⟩ yX3_become, Cond.methodLink RX6 144 yX6_writeWord, Cond.instanceMethod yX6_writeWord, Cond.selects RX6 yX6_writeWord yX6_writeWord, Cond.code yX6_writeWord cX6_writeWord 4 none, Cond.fieldLink RX6 27 "UnibusMachine$Processor" "named" "I", Cond.fieldLink RX6 30 "UnibusMachine$Processor" "flags" "I", Cond.methodLink RX6 108 yX6_push, Cond.instanceMethod yX6_push]
def wsX8_run_r7 : List Cond := [Cond.selects RX6 yX6_push yX6_push, Cond.code yX6_push cX6_push 2 none, Cond.methodLink RX6 76 yX6_takeStatus, Cond.instanceMethod yX6_takeStatus, Cond.selects RX6 yX6_takeStatus yX6_takeStatus, Cond.code yX6_takeStatus cX6_takeStatus 3 none, Cond.fieldLink RX6 13 "UnibusMachine$Processor" "otherStack" "I", Cond.fieldLink RX6 17 "UnibusMachine$Processor" "halted" "I", Cond.methodLink RX5 33 ⟨"UnibusMachine$Printer", "become", "(I)V"⟩, Cond.methodLink RX1 46 ⟨"UnibusMachine$Drive", "become", "(I)V"⟩, Cond.methodLink RX6 67 yX6_enter, Cond.instanceMethod yX6_enter, Cond.selects RX6 yX6_enter yX6_enter, Cond.codeWith yX6_enter cX6_enter 3 none [(0, 5, 8, 65)], Cond.methodLink RX6 105 yX6_trap, Cond.instanceMethod yX6_trap, Cond.selects RX6 yX6_trap yX6_trap, Cond.code yX6_trap cX6_trap 6 none, Cond.methodLink RX6 70 yX6_settle, Cond.instanceMethod yX6_settle, Cond.selects RX6 yX6_settle yX6_settle, Cond.code yX6_settle cX6_settle 2 none, Cond.fieldLink RX6 73 "UnibusMachine$Status" "written" "I", Cond.methodLink RX8 76 yX0_goOn]
def wsX8_run_r8 : List Cond := [Cond.instanceMethod yX0_goOn, Cond.selects RX0 yX0_goOn yX0_goOn, Cond.code yX0_goOn cX0_goOn 1 none, Cond.methodLink RX0 113 yX5_goOn, Cond.instanceMethod yX5_goOn, Cond.selects RX5 yX5_goOn yX5_goOn, Cond.code yX5_goOn cX5_goOn 1 none, Cond.fieldLink RX5 9 "UnibusMachine$Printer" "paper" "[I", Cond.fieldLink RX5 13 "UnibusMachine$Printer" "count" "I", Cond.methodLink RX0 116 yX1_goOn, Cond.instanceMethod yX1_goOn, Cond.selects RX1 yX1_goOn yX1_goOn, Cond.code yX1_goOn cX1_goOn 2 none, Cond.methodLink RX1 42 yX1_transfer, Cond.instanceMethod yX1_transfer, Cond.selects RX1 yX1_transfer yX1_transfer, Cond.code yX1_transfer cX1_transfer 5 none, Cond.fieldLink RX1 20 "UnibusMachine$Drive" "count" "I", Cond.fieldLink RX1 23 "UnibusMachine$Drive" "address" "I", Cond.constant RX1 52 (32768), Cond.fieldLink RX1 26 "UnibusMachine$Drive" "sector" "I", Cond.fieldLink RX1 13 "UnibusMachine$Drive" "writing" "I", Cond.fieldLink RX1 9 "UnibusMachine$Drive" "words" "[I", Cond.methodLink RX8 79 yX6_lookForInterrupt]
def wsX8_run_r9 : List Cond := [Cond.instanceMethod yX6_lookForInterrupt, Cond.selects RX6 yX6_lookForInterrupt yX6_lookForInterrupt, Cond.code yX6_lookForInterrupt cX6_lookForInterrupt 4 none, Cond.fieldLink RX6 79 "UnibusMachine$Bus" "drive" "LUnibusMachine$Drive;", Cond.fieldLink RX6 83 "UnibusMachine$Drive" "wanting" "Z", Cond.fieldLink RX6 88 "UnibusMachine$Bus" "keyboard" "LUnibusMachine$Keyboard;", Cond.fieldLink RX6 92 "UnibusMachine$Keyboard" "wanting" "Z", Cond.sameField "UnibusMachine$Keyboard" "UnibusMachine$Line" "wanting" "Z", Cond.fieldLink RX6 95 "UnibusMachine$Bus" "printer" "LUnibusMachine$Printer;", Cond.fieldLink RX6 99 "UnibusMachine$Printer" "wanting" "Z", Cond.fieldLink RX6 102 "UnibusMachine$Line" "wanting" "Z"]
def wsX8_run : List Cond := .code yX8_run cX8_run 3 (some .int) :: ((wsX8_run_r1 ++ (wsX8_run_r2 ++ (wsX8_run_r3 ++ (wsX8_run_r4 ++ (wsX8_run_r5 ++ (wsX8_run_r6 ++ (wsX8_run_r7 ++ (wsX8_run_r8 ++ wsX8_run_r9)))))))) ++ wsX80 ++ wsX60 ++ wsX00 ++ wsX50 ++ wsX10 ++ wsX70 ++ wsX40 ++ wsX20 ++ (vx_at0 RX8 34 "java/lang/IllegalArgumentException" ["java/lang/RuntimeException", "java/lang/Exception"]).filter goodWord ++ (vx_at0 RX8 72 "java/lang/IllegalStateException" ["java/lang/RuntimeException", "java/lang/Exception"]).filter goodWord ++ (vx_at0 RX6 111 "java/lang/UnsupportedOperationException" ["java/lang/RuntimeException", "java/lang/Exception"]).filter goodWord)
end
section
set_option maxRecDepth 20000 in
theorem ggX0_read_X0_peek : GoodIn wsX0_read wsX0_peek := goodIn_r _ [9, 10, 11, 12, 13, 14, 15, 16, 17, 2, 3, 4, 18, 19, 20, 21, 22, 23, 24, 25, 26, 27, 28, 29, 30, 31, 40, 41, 42, 43, 44, 45, 66, 67, 68, 46, 47, 48, 49, 50, 51, 52, 53, 54, 55, 56, 57, 58, 59, 60, 61, 62, 63, 64, 65, 69, 70] (by decide +kernel) (by decide +kernel)
set_option maxRecDepth 20000 in
theorem gX0_read_X0_peek : GoodIn wsX0_read (wsV RX0 87 RX0 yX0_peek wsX0_peek) := goodIn_app (goodIn_of _ (by decide +kernel)) ggX0_read_X0_peek
theorem dX0_read_0 : decode cX0_read 0 = .ok (.aload_n 0, 1) := by decide +kernel
theorem dX0_read_1 : decode cX0_read 1 = .ok (.iload_n 1, 1) := by decide +kernel
theorem dX0_read_2 : decode cX0_read 2 = .ok (.invokevirtual 87, 3) := by decide +kernel
theorem dX0_read_5 : decode cX0_read 5 = .ok (.istore_n 2, 1) := by decide +kernel
theorem dX0_read_6 : decode cX0_read 6 = .ok (.iload_n 1, 1) := by decide +kernel
theorem dX0_read_7 : decode cX0_read 7 = .ok (.ldc 91, 2) := by decide +kernel
theorem dX0_read_9 : decode cX0_read 9 = .ok (.if_icmp .ne 20, 3) := by decide +kernel
theorem dX0_read_12 : decode cX0_read 12 = .ok (.aload_n 0, 1) := by decide +kernel
theorem dX0_read_13 : decode cX0_read 13 = .ok (.getfield 30, 3) := by decide +kernel
theorem dX0_read_16 : decode cX0_read 16 = .ok (.aload_n 0, 1) := by decide +kernel
theorem dX0_read_17 : decode cX0_read 17 = .ok (.getfield 30, 3) := by decide +kernel
theorem dX0_read_20 : decode cX0_read 20 = .ok (.getfield 61, 3) := by decide +kernel
theorem dX0_read_23 : decode cX0_read 23 = .ok (.bipush 64, 2) := by decide +kernel
theorem dX0_read_25 : decode cX0_read 25 = .ok (.iand, 1) := by decide +kernel
theorem dX0_read_26 : decode cX0_read 26 = .ok (.invokevirtual 94, 3) := by decide +kernel
theorem dX0_read_29 : decode cX0_read 29 = .ok (.iload_n 2, 1) := by decide +kernel
theorem dX0_read_30 : decode cX0_read 30 = .ok (.ireturn, 1) := by decide +kernel
theorem dX0_write_0 : decode cX0_write 0 = .ok (.iload_n 1, 1) := by decide +kernel
theorem dX0_write_1 : decode cX0_write 1 = .ok (.ifCond .lt 21, 3) := by decide +kernel
theorem dX0_write_4 : decode cX0_write 4 = .ok (.iload_n 1, 1) := by decide +kernel
theorem dX0_write_5 : decode cX0_write 5 = .ok (.sipush 1024, 3) := by decide +kernel
theorem dX0_write_8 : decode cX0_write 8 = .ok (.if_icmp .ge 14, 3) := by decide +kernel
theorem dX0_write_11 : decode cX0_write 11 = .ok (.aload_n 0, 1) := by decide +kernel
theorem dX0_write_12 : decode cX0_write 12 = .ok (.getfield 9, 3) := by decide +kernel
theorem dX0_write_15 : decode cX0_write 15 = .ok (.iload_n 1, 1) := by decide +kernel
theorem dX0_write_16 : decode cX0_write 16 = .ok (.iconst 1, 1) := by decide +kernel
theorem dX0_write_17 : decode cX0_write 17 = .ok (.ishr, 1) := by decide +kernel
theorem dX0_write_18 : decode cX0_write 18 = .ok (.iload_n 2, 1) := by decide +kernel
theorem dX0_write_19 : decode cX0_write 19 = .ok (.iastore, 1) := by decide +kernel
theorem dX0_write_20 : decode cX0_write 20 = .ok (.iconst 1, 1) := by decide +kernel
theorem dX0_write_21 : decode cX0_write 21 = .ok (.ireturn, 1) := by decide +kernel
theorem dX0_write_22 : decode cX0_write 22 = .ok (.iload_n 1, 1) := by decide +kernel
theorem dX0_write_23 : decode cX0_write 23 = .ok (.ldc 48, 2) := by decide +kernel
theorem dX0_write_25 : decode cX0_write 25 = .ok (.if_icmp .lt 30, 3) := by decide +kernel
theorem dX0_write_28 : decode cX0_write 28 = .ok (.iload_n 1, 1) := by decide +kernel
theorem dX0_write_29 : decode cX0_write 29 = .ok (.ldc 49, 2) := by decide +kernel
theorem dX0_write_31 : decode cX0_write 31 = .ok (.if_icmp .ge 24, 3) := by decide +kernel
theorem dX0_write_34 : decode cX0_write 34 = .ok (.aload_n 0, 1) := by decide +kernel
theorem dX0_write_35 : decode cX0_write 35 = .ok (.getfield 16, 3) := by decide +kernel
theorem dX0_write_38 : decode cX0_write 38 = .ok (.getfield 50, 3) := by decide +kernel
theorem dX0_write_41 : decode cX0_write 41 = .ok (.iload_n 1, 1) := by decide +kernel
theorem dX0_write_42 : decode cX0_write 42 = .ok (.ldc 48, 2) := by decide +kernel
theorem dX0_write_44 : decode cX0_write 44 = .ok (.isub, 1) := by decide +kernel
theorem dX0_write_45 : decode cX0_write 45 = .ok (.iconst 1, 1) := by decide +kernel
theorem dX0_write_46 : decode cX0_write 46 = .ok (.ishr, 1) := by decide +kernel
theorem dX0_write_47 : decode cX0_write 47 = .ok (.iload_n 2, 1) := by decide +kernel
theorem dX0_write_48 : decode cX0_write 48 = .ok (.sipush 32515, 3) := by decide +kernel
theorem dX0_write_51 : decode cX0_write 51 = .ok (.iand, 1) := by decide +kernel
theorem dX0_write_52 : decode cX0_write 52 = .ok (.iastore, 1) := by decide +kernel
theorem dX0_write_53 : decode cX0_write 53 = .ok (.iconst 1, 1) := by decide +kernel
theorem dX0_write_54 : decode cX0_write 54 = .ok (.ireturn, 1) := by decide +kernel
theorem dX0_write_55 : decode cX0_write 55 = .ok (.iload_n 1, 1) := by decide +kernel
theorem dX0_write_56 : decode cX0_write 56 = .ok (.ldc 49, 2) := by decide +kernel
theorem dX0_write_58 : decode cX0_write 58 = .ok (.if_icmp .lt 30, 3) := by decide +kernel
theorem dX0_write_61 : decode cX0_write 61 = .ok (.iload_n 1, 1) := by decide +kernel
theorem dX0_write_62 : decode cX0_write 62 = .ok (.ldc 53, 2) := by decide +kernel
theorem dX0_write_64 : decode cX0_write 64 = .ok (.if_icmp .ge 24, 3) := by decide +kernel
theorem dX0_write_67 : decode cX0_write 67 = .ok (.aload_n 0, 1) := by decide +kernel
theorem dX0_write_68 : decode cX0_write 68 = .ok (.getfield 16, 3) := by decide +kernel
theorem dX0_write_71 : decode cX0_write 71 = .ok (.getfield 54, 3) := by decide +kernel
theorem dX0_write_74 : decode cX0_write 74 = .ok (.iload_n 1, 1) := by decide +kernel
theorem dX0_write_75 : decode cX0_write 75 = .ok (.ldc 49, 2) := by decide +kernel
theorem dX0_write_77 : decode cX0_write 77 = .ok (.isub, 1) := by decide +kernel
theorem dX0_write_78 : decode cX0_write 78 = .ok (.iconst 1, 1) := by decide +kernel
theorem dX0_write_79 : decode cX0_write 79 = .ok (.ishr, 1) := by decide +kernel
theorem dX0_write_80 : decode cX0_write 80 = .ok (.iload_n 2, 1) := by decide +kernel
theorem dX0_write_81 : decode cX0_write 81 = .ok (.sipush 1023, 3) := by decide +kernel
theorem dX0_write_84 : decode cX0_write 84 = .ok (.iand, 1) := by decide +kernel
theorem dX0_write_85 : decode cX0_write 85 = .ok (.iastore, 1) := by decide +kernel
theorem dX0_write_86 : decode cX0_write 86 = .ok (.iconst 1, 1) := by decide +kernel
theorem dX0_write_87 : decode cX0_write 87 = .ok (.ireturn, 1) := by decide +kernel
theorem dX0_write_88 : decode cX0_write 88 = .ok (.iload_n 1, 1) := by decide +kernel
theorem dX0_write_89 : decode cX0_write 89 = .ok (.lookupswitch 282 #[(57408, 91), (57424, 104), (57426, 129), (57428, 131), (57430, 156), (57440, 166), (57442, 232), (57444, 245), (57446, 255), (57470, 268)], 91) := by decide +kernel
theorem dX0_write_180 : decode cX0_write 180 = .ok (.aload_n 0, 1) := by decide +kernel
theorem dX0_write_181 : decode cX0_write 181 = .ok (.getfield 16, 3) := by decide +kernel
theorem dX0_write_184 : decode cX0_write 184 = .ok (.iload_n 2, 1) := by decide +kernel
theorem dX0_write_185 : decode cX0_write 185 = .ok (.ldc 98, 2) := by decide +kernel
theorem dX0_write_187 : decode cX0_write 187 = .ok (.iand, 1) := by decide +kernel
theorem dX0_write_188 : decode cX0_write 188 = .ok (.putfield 57, 3) := by decide +kernel
theorem dX0_write_191 : decode cX0_write 191 = .ok (.iconst 1, 1) := by decide +kernel
theorem dX0_write_192 : decode cX0_write 192 = .ok (.ireturn, 1) := by decide +kernel
theorem dX0_write_193 : decode cX0_write 193 = .ok (.aload_n 0, 1) := by decide +kernel
theorem dX0_write_194 : decode cX0_write 194 = .ok (.getfield 30, 3) := by decide +kernel
theorem dX0_write_197 : decode cX0_write 197 = .ok (.aload_n 0, 1) := by decide +kernel
theorem dX0_write_198 : decode cX0_write 198 = .ok (.getfield 30, 3) := by decide +kernel
theorem dX0_write_201 : decode cX0_write 201 = .ok (.getfield 61, 3) := by decide +kernel
theorem dX0_write_204 : decode cX0_write 204 = .ok (.sipush 128, 3) := by decide +kernel
theorem dX0_write_207 : decode cX0_write 207 = .ok (.iand, 1) := by decide +kernel
theorem dX0_write_208 : decode cX0_write 208 = .ok (.iload_n 2, 1) := by decide +kernel
theorem dX0_write_209 : decode cX0_write 209 = .ok (.bipush 64, 2) := by decide +kernel
theorem dX0_write_211 : decode cX0_write 211 = .ok (.iand, 1) := by decide +kernel
theorem dX0_write_212 : decode cX0_write 212 = .ok (.ior, 1) := by decide +kernel
theorem dX0_write_213 : decode cX0_write 213 = .ok (.invokevirtual 94, 3) := by decide +kernel
theorem dX0_write_216 : decode cX0_write 216 = .ok (.iconst 1, 1) := by decide +kernel
theorem dX0_write_217 : decode cX0_write 217 = .ok (.ireturn, 1) := by decide +kernel
theorem dX0_write_218 : decode cX0_write 218 = .ok (.iconst 1, 1) := by decide +kernel
theorem dX0_write_219 : decode cX0_write 219 = .ok (.ireturn, 1) := by decide +kernel
theorem dX0_write_220 : decode cX0_write 220 = .ok (.aload_n 0, 1) := by decide +kernel
theorem dX0_write_221 : decode cX0_write 221 = .ok (.getfield 37, 3) := by decide +kernel
theorem dX0_write_224 : decode cX0_write 224 = .ok (.aload_n 0, 1) := by decide +kernel
theorem dX0_write_225 : decode cX0_write 225 = .ok (.getfield 37, 3) := by decide +kernel
theorem dX0_write_228 : decode cX0_write 228 = .ok (.getfield 67, 3) := by decide +kernel
theorem dX0_write_231 : decode cX0_write 231 = .ok (.sipush 128, 3) := by decide +kernel
theorem dX0_write_234 : decode cX0_write 234 = .ok (.iand, 1) := by decide +kernel
theorem dX0_write_235 : decode cX0_write 235 = .ok (.iload_n 2, 1) := by decide +kernel
theorem dX0_write_236 : decode cX0_write 236 = .ok (.bipush 64, 2) := by decide +kernel
theorem dX0_write_238 : decode cX0_write 238 = .ok (.iand, 1) := by decide +kernel
theorem dX0_write_239 : decode cX0_write 239 = .ok (.ior, 1) := by decide +kernel
theorem dX0_write_240 : decode cX0_write 240 = .ok (.invokevirtual 99, 3) := by decide +kernel
theorem dX0_write_243 : decode cX0_write 243 = .ok (.iconst 1, 1) := by decide +kernel
theorem dX0_write_244 : decode cX0_write 244 = .ok (.ireturn, 1) := by decide +kernel
theorem dX0_write_245 : decode cX0_write 245 = .ok (.aload_n 0, 1) := by decide +kernel
theorem dX0_write_246 : decode cX0_write 246 = .ok (.getfield 37, 3) := by decide +kernel
theorem dX0_write_249 : decode cX0_write 249 = .ok (.iload_n 2, 1) := by decide +kernel
theorem dX0_write_250 : decode cX0_write 250 = .ok (.invokevirtual 100, 3) := by decide +kernel
theorem dX0_write_253 : decode cX0_write 253 = .ok (.iconst 1, 1) := by decide +kernel
theorem dX0_write_254 : decode cX0_write 254 = .ok (.ireturn, 1) := by decide +kernel
theorem dX0_write_255 : decode cX0_write 255 = .ok (.aload_n 0, 1) := by decide +kernel
theorem dX0_write_256 : decode cX0_write 256 = .ok (.getfield 44, 3) := by decide +kernel
theorem dX0_write_259 : decode cX0_write 259 = .ok (.iload_n 2, 1) := by decide +kernel
theorem dX0_write_260 : decode cX0_write 260 = .ok (.iconst 2, 1) := by decide +kernel
theorem dX0_write_261 : decode cX0_write 261 = .ok (.iand, 1) := by decide +kernel
theorem dX0_write_262 : decode cX0_write 262 = .ok (.putfield 69, 3) := by decide +kernel
theorem dX0_write_265 : decode cX0_write 265 = .ok (.iload_n 2, 1) := by decide +kernel
theorem dX0_write_266 : decode cX0_write 266 = .ok (.iconst 1, 1) := by decide +kernel
theorem dX0_write_267 : decode cX0_write 267 = .ok (.iand, 1) := by decide +kernel
theorem dX0_write_268 : decode cX0_write 268 = .ok (.ifCond .eq 28, 3) := by decide +kernel
theorem dX0_write_271 : decode cX0_write 271 = .ok (.aload_n 0, 1) := by decide +kernel
theorem dX0_write_272 : decode cX0_write 272 = .ok (.getfield 44, 3) := by decide +kernel
theorem dX0_write_275 : decode cX0_write 275 = .ok (.getfield 68, 3) := by decide +kernel
theorem dX0_write_278 : decode cX0_write 278 = .ok (.sipush 128, 3) := by decide +kernel
theorem dX0_write_281 : decode cX0_write 281 = .ok (.iand, 1) := by decide +kernel
theorem dX0_write_282 : decode cX0_write 282 = .ok (.ifCond .eq 14, 3) := by decide +kernel
theorem dX0_write_285 : decode cX0_write 285 = .ok (.aload_n 0, 1) := by decide +kernel
theorem dX0_write_286 : decode cX0_write 286 = .ok (.getfield 44, 3) := by decide +kernel
theorem dX0_write_289 : decode cX0_write 289 = .ok (.iload_n 2, 1) := by decide +kernel
theorem dX0_write_290 : decode cX0_write 290 = .ok (.invokevirtual 103, 3) := by decide +kernel
theorem dX0_write_293 : decode cX0_write 293 = .ok (.goto 26, 3) := by decide +kernel
theorem dX0_write_296 : decode cX0_write 296 = .ok (.aload_n 0, 1) := by decide +kernel
theorem dX0_write_297 : decode cX0_write 297 = .ok (.getfield 44, 3) := by decide +kernel
theorem dX0_write_300 : decode cX0_write 300 = .ok (.aload_n 0, 1) := by decide +kernel
theorem dX0_write_301 : decode cX0_write 301 = .ok (.getfield 44, 3) := by decide +kernel
theorem dX0_write_304 : decode cX0_write 304 = .ok (.getfield 68, 3) := by decide +kernel
theorem dX0_write_307 : decode cX0_write 307 = .ok (.sipush 128, 3) := by decide +kernel
theorem dX0_write_310 : decode cX0_write 310 = .ok (.iand, 1) := by decide +kernel
theorem dX0_write_311 : decode cX0_write 311 = .ok (.iload_n 2, 1) := by decide +kernel
theorem dX0_write_312 : decode cX0_write 312 = .ok (.bipush 64, 2) := by decide +kernel
theorem dX0_write_314 : decode cX0_write 314 = .ok (.iand, 1) := by decide +kernel
theorem dX0_write_315 : decode cX0_write 315 = .ok (.ior, 1) := by decide +kernel
theorem dX0_write_316 : decode cX0_write 316 = .ok (.invokevirtual 104, 3) := by decide +kernel
theorem dX0_write_319 : decode cX0_write 319 = .ok (.iconst 1, 1) := by decide +kernel
theorem dX0_write_320 : decode cX0_write 320 = .ok (.ireturn, 1) := by decide +kernel
theorem dX0_write_321 : decode cX0_write 321 = .ok (.aload_n 0, 1) := by decide +kernel
theorem dX0_write_322 : decode cX0_write 322 = .ok (.getfield 44, 3) := by decide +kernel
theorem dX0_write_325 : decode cX0_write 325 = .ok (.iload_n 2, 1) := by decide +kernel
theorem dX0_write_326 : decode cX0_write 326 = .ok (.bipush 63, 2) := by decide +kernel
theorem dX0_write_328 : decode cX0_write 328 = .ok (.iand, 1) := by decide +kernel
theorem dX0_write_329 : decode cX0_write 329 = .ok (.putfield 75, 3) := by decide +kernel
theorem dX0_write_332 : decode cX0_write 332 = .ok (.iconst 1, 1) := by decide +kernel
theorem dX0_write_333 : decode cX0_write 333 = .ok (.ireturn, 1) := by decide +kernel
theorem dX0_write_334 : decode cX0_write 334 = .ok (.aload_n 0, 1) := by decide +kernel
theorem dX0_write_335 : decode cX0_write 335 = .ok (.getfield 44, 3) := by decide +kernel
theorem dX0_write_338 : decode cX0_write 338 = .ok (.iload_n 2, 1) := by decide +kernel
theorem dX0_write_339 : decode cX0_write 339 = .ok (.putfield 78, 3) := by decide +kernel
theorem dX0_write_342 : decode cX0_write 342 = .ok (.iconst 1, 1) := by decide +kernel
theorem dX0_write_343 : decode cX0_write 343 = .ok (.ireturn, 1) := by decide +kernel
theorem dX0_write_344 : decode cX0_write 344 = .ok (.aload_n 0, 1) := by decide +kernel
theorem dX0_write_345 : decode cX0_write 345 = .ok (.getfield 44, 3) := by decide +kernel
theorem dX0_write_348 : decode cX0_write 348 = .ok (.iload_n 2, 1) := by decide +kernel
theorem dX0_write_349 : decode cX0_write 349 = .ok (.bipush 7, 2) := by decide +kernel
theorem dX0_write_351 : decode cX0_write 351 = .ok (.iand, 1) := by decide +kernel
theorem dX0_write_352 : decode cX0_write 352 = .ok (.putfield 81, 3) := by decide +kernel
theorem dX0_write_355 : decode cX0_write 355 = .ok (.iconst 1, 1) := by decide +kernel
theorem dX0_write_356 : decode cX0_write 356 = .ok (.ireturn, 1) := by decide +kernel
theorem dX0_write_357 : decode cX0_write 357 = .ok (.aload_n 0, 1) := by decide +kernel
theorem dX0_write_358 : decode cX0_write 358 = .ok (.getfield 23, 3) := by decide +kernel
theorem dX0_write_361 : decode cX0_write 361 = .ok (.iload_n 2, 1) := by decide +kernel
theorem dX0_write_362 : decode cX0_write 362 = .ok (.sipush 20719, 3) := by decide +kernel
theorem dX0_write_365 : decode cX0_write 365 = .ok (.iand, 1) := by decide +kernel
theorem dX0_write_366 : decode cX0_write 366 = .ok (.putfield 105, 3) := by decide +kernel
theorem dX0_write_369 : decode cX0_write 369 = .ok (.iconst 1, 1) := by decide +kernel
theorem dX0_write_370 : decode cX0_write 370 = .ok (.ireturn, 1) := by decide +kernel
theorem dX0_write_371 : decode cX0_write 371 = .ok (.iconst 0, 1) := by decide +kernel
theorem dX0_write_372 : decode cX0_write 372 = .ok (.ireturn, 1) := by decide +kernel
theorem dX0_nextInstruction_0 : decode cX0_nextInstruction 0 = .ok (.aload_n 0, 1) := by decide +kernel
theorem dX0_nextInstruction_1 : decode cX0_nextInstruction 1 = .ok (.getfield 37, 3) := by decide +kernel
theorem dX0_nextInstruction_4 : decode cX0_nextInstruction 4 = .ok (.iconst 0, 1) := by decide +kernel
theorem dX0_nextInstruction_5 : decode cX0_nextInstruction 5 = .ok (.putfield 108, 3) := by decide +kernel
theorem dX0_nextInstruction_8 : decode cX0_nextInstruction 8 = .ok (.aload_n 0, 1) := by decide +kernel
theorem dX0_nextInstruction_9 : decode cX0_nextInstruction 9 = .ok (.getfield 44, 3) := by decide +kernel
theorem dX0_nextInstruction_12 : decode cX0_nextInstruction 12 = .ok (.iconst 0, 1) := by decide +kernel
theorem dX0_nextInstruction_13 : decode cX0_nextInstruction 13 = .ok (.putfield 112, 3) := by decide +kernel
theorem dX0_nextInstruction_16 : decode cX0_nextInstruction 16 = .ok (.return_, 1) := by decide +kernel
set_option maxRecDepth 20000 in
theorem ggX0_goOn_X5_goOn : GoodIn wsX0_goOn wsX5_goOn := goodIn_r _ [8, 9, 10, 11, 12, 13, 14, 15, 16, 17, 18, 19, 20, 21, 22, 23, 53, 54, 55, 56, 57, 58, 59, 60, 61, 62, 63, 64, 65, 66, 67, 68, 69, 70, 71, 72] (by decide +kernel) (by decide +kernel)
set_option maxRecDepth 20000 in
theorem gX0_goOn_X5_goOn : GoodIn wsX0_goOn (wsV RX0 113 RX5 yX5_goOn wsX5_goOn) := goodIn_app (goodIn_of _ (by decide +kernel)) ggX0_goOn_X5_goOn
set_option maxRecDepth 20000 in
theorem ggX0_goOn_X1_goOn : GoodIn wsX0_goOn wsX1_goOn := goodIn_r _ [28, 29, 30, 31, 32, 33, 34, 35, 27, 36, 37, 38, 39, 40, 41, 42, 43, 44, 45, 46, 19, 20, 21, 22, 23, 60, 61, 62, 63, 64, 65, 66, 67, 68, 69, 70, 71, 72, 53, 54, 55, 56, 57, 58, 59] (by decide +kernel) (by decide +kernel)
set_option maxRecDepth 20000 in
theorem gX0_goOn_X1_goOn : GoodIn wsX0_goOn (wsV RX0 116 RX1 yX1_goOn wsX1_goOn) := goodIn_app (goodIn_of _ (by decide +kernel)) ggX0_goOn_X1_goOn
theorem dX0_goOn_0 : decode cX0_goOn 0 = .ok (.aload_n 0, 1) := by decide +kernel
theorem dX0_goOn_1 : decode cX0_goOn 1 = .ok (.getfield 37, 3) := by decide +kernel
theorem dX0_goOn_4 : decode cX0_goOn 4 = .ok (.invokevirtual 113, 3) := by decide +kernel
theorem dX0_goOn_7 : decode cX0_goOn 7 = .ok (.aload_n 0, 1) := by decide +kernel
theorem dX0_goOn_8 : decode cX0_goOn 8 = .ok (.getfield 44, 3) := by decide +kernel
theorem dX0_goOn_11 : decode cX0_goOn 11 = .ok (.aload_n 0, 1) := by decide +kernel
theorem dX0_goOn_12 : decode cX0_goOn 12 = .ok (.getfield 9, 3) := by decide +kernel
theorem dX0_goOn_15 : decode cX0_goOn 15 = .ok (.invokevirtual 116, 3) := by decide +kernel
theorem dX0_goOn_18 : decode cX0_goOn 18 = .ok (.return_, 1) := by decide +kernel
theorem dX1_goOn_0 : decode cX1_goOn 0 = .ok (.aload_n 0, 1) := by decide +kernel
theorem dX1_goOn_1 : decode cX1_goOn 1 = .ok (.getfield 29, 3) := by decide +kernel
theorem dX1_goOn_4 : decode cX1_goOn 4 = .ok (.ifCond .eq 10, 3) := by decide +kernel
theorem dX1_goOn_7 : decode cX1_goOn 7 = .ok (.aload_n 0, 1) := by decide +kernel
theorem dX1_goOn_8 : decode cX1_goOn 8 = .ok (.getfield 32, 3) := by decide +kernel
theorem dX1_goOn_11 : decode cX1_goOn 11 = .ok (.ifCond .eq 4, 3) := by decide +kernel
theorem dX1_goOn_14 : decode cX1_goOn 14 = .ok (.return_, 1) := by decide +kernel
theorem dX1_goOn_15 : decode cX1_goOn 15 = .ok (.aload_n 0, 1) := by decide +kernel
theorem dX1_goOn_16 : decode cX1_goOn 16 = .ok (.dup, 1) := by decide +kernel
theorem dX1_goOn_17 : decode cX1_goOn 17 = .ok (.getfield 29, 3) := by decide +kernel
theorem dX1_goOn_20 : decode cX1_goOn 20 = .ok (.iconst 1, 1) := by decide +kernel
theorem dX1_goOn_21 : decode cX1_goOn 21 = .ok (.isub, 1) := by decide +kernel
theorem dX1_goOn_22 : decode cX1_goOn 22 = .ok (.putfield 29, 3) := by decide +kernel
theorem dX1_goOn_25 : decode cX1_goOn 25 = .ok (.aload_n 0, 1) := by decide +kernel
theorem dX1_goOn_26 : decode cX1_goOn 26 = .ok (.getfield 29, 3) := by decide +kernel
theorem dX1_goOn_29 : decode cX1_goOn 29 = .ok (.ifCond .ne 20, 3) := by decide +kernel
theorem dX1_goOn_32 : decode cX1_goOn 32 = .ok (.aload_n 0, 1) := by decide +kernel
theorem dX1_goOn_33 : decode cX1_goOn 33 = .ok (.aload_n 1, 1) := by decide +kernel
theorem dX1_goOn_34 : decode cX1_goOn 34 = .ok (.invokevirtual 42, 3) := by decide +kernel
theorem dX1_goOn_37 : decode cX1_goOn 37 = .ok (.aload_n 0, 1) := by decide +kernel
theorem dX1_goOn_38 : decode cX1_goOn 38 = .ok (.aload_n 0, 1) := by decide +kernel
theorem dX1_goOn_39 : decode cX1_goOn 39 = .ok (.getfield 36, 3) := by decide +kernel
theorem dX1_goOn_42 : decode cX1_goOn 42 = .ok (.sipush 128, 3) := by decide +kernel
theorem dX1_goOn_45 : decode cX1_goOn 45 = .ok (.ior, 1) := by decide +kernel
theorem dX1_goOn_46 : decode cX1_goOn 46 = .ok (.invokevirtual 46, 3) := by decide +kernel
theorem dX1_goOn_49 : decode cX1_goOn 49 = .ok (.return_, 1) := by decide +kernel
theorem dX4_locate_0 : decode cX4_locate 0 = .ok (.aload_n 0, 1) := by decide +kernel
theorem dX4_locate_1 : decode cX4_locate 1 = .ok (.getfield 16, 3) := by decide +kernel
theorem dX4_locate_4 : decode cX4_locate 4 = .ok (.iconst 1, 1) := by decide +kernel
theorem dX4_locate_5 : decode cX4_locate 5 = .ok (.iand, 1) := by decide +kernel
theorem dX4_locate_6 : decode cX4_locate 6 = .ok (.ifCond .ne 5, 3) := by decide +kernel
theorem dX4_locate_9 : decode cX4_locate 9 = .ok (.iload_n 2, 1) := by decide +kernel
theorem dX4_locate_10 : decode cX4_locate 10 = .ok (.ireturn, 1) := by decide +kernel
theorem dX4_locate_11 : decode cX4_locate 11 = .ok (.iload_n 2, 1) := by decide +kernel
theorem dX4_locate_12 : decode cX4_locate 12 = .ok (.bipush 13, 2) := by decide +kernel
theorem dX4_locate_14 : decode cX4_locate 14 = .ok (.ishr, 1) := by decide +kernel
theorem dX4_locate_15 : decode cX4_locate 15 = .ok (.bipush 7, 2) := by decide +kernel
theorem dX4_locate_17 : decode cX4_locate 17 = .ok (.iand, 1) := by decide +kernel
theorem dX4_locate_18 : decode cX4_locate 18 = .ok (.istore 4, 2) := by decide +kernel
theorem dX4_locate_20 : decode cX4_locate 20 = .ok (.iload_n 2, 1) := by decide +kernel
theorem dX4_locate_21 : decode cX4_locate 21 = .ok (.sipush 8191, 3) := by decide +kernel
theorem dX4_locate_24 : decode cX4_locate 24 = .ok (.iand, 1) := by decide +kernel
theorem dX4_locate_25 : decode cX4_locate 25 = .ok (.istore 5, 2) := by decide +kernel
theorem dX4_locate_27 : decode cX4_locate 27 = .ok (.bipush 8, 2) := by decide +kernel
theorem dX4_locate_29 : decode cX4_locate 29 = .ok (.iload_n 1, 1) := by decide +kernel
theorem dX4_locate_30 : decode cX4_locate 30 = .ok (.iconst 1, 1) := by decide +kernel
theorem dX4_locate_31 : decode cX4_locate 31 = .ok (.iand, 1) := by decide +kernel
theorem dX4_locate_32 : decode cX4_locate 32 = .ok (.imul, 1) := by decide +kernel
theorem dX4_locate_33 : decode cX4_locate 33 = .ok (.iload 4, 2) := by decide +kernel
theorem dX4_locate_35 : decode cX4_locate 35 = .ok (.iadd, 1) := by decide +kernel
theorem dX4_locate_36 : decode cX4_locate 36 = .ok (.istore 6, 2) := by decide +kernel
theorem dX4_locate_38 : decode cX4_locate 38 = .ok (.aload_n 0, 1) := by decide +kernel
theorem dX4_locate_39 : decode cX4_locate 39 = .ok (.getfield 9, 3) := by decide +kernel
theorem dX4_locate_42 : decode cX4_locate 42 = .ok (.iload 6, 2) := by decide +kernel
theorem dX4_locate_44 : decode cX4_locate 44 = .ok (.iaload, 1) := by decide +kernel
theorem dX4_locate_45 : decode cX4_locate 45 = .ok (.iconst 3, 1) := by decide +kernel
theorem dX4_locate_46 : decode cX4_locate 46 = .ok (.iand, 1) := by decide +kernel
theorem dX4_locate_47 : decode cX4_locate 47 = .ok (.istore 7, 2) := by decide +kernel
theorem dX4_locate_49 : decode cX4_locate 49 = .ok (.iconst 0, 1) := by decide +kernel
theorem dX4_locate_50 : decode cX4_locate 50 = .ok (.istore 8, 2) := by decide +kernel
theorem dX4_locate_52 : decode cX4_locate 52 = .ok (.iload 7, 2) := by decide +kernel
theorem dX4_locate_54 : decode cX4_locate 54 = .ok (.ifCond .eq 9, 3) := by decide +kernel
theorem dX4_locate_57 : decode cX4_locate 57 = .ok (.iload 7, 2) := by decide +kernel
theorem dX4_locate_59 : decode cX4_locate 59 = .ok (.iconst 3, 1) := by decide +kernel
theorem dX4_locate_60 : decode cX4_locate 60 = .ok (.if_icmp .ne 10, 3) := by decide +kernel
theorem dX4_locate_63 : decode cX4_locate 63 = .ok (.ldc 20, 2) := by decide +kernel
theorem dX4_locate_65 : decode cX4_locate 65 = .ok (.istore 8, 2) := by decide +kernel
theorem dX4_locate_67 : decode cX4_locate 67 = .ok (.goto 44, 3) := by decide +kernel
theorem dX4_locate_70 : decode cX4_locate 70 = .ok (.iload 5, 2) := by decide +kernel
theorem dX4_locate_72 : decode cX4_locate 72 = .ok (.bipush 6, 2) := by decide +kernel
theorem dX4_locate_74 : decode cX4_locate 74 = .ok (.ishr, 1) := by decide +kernel
theorem dX4_locate_75 : decode cX4_locate 75 = .ok (.aload_n 0, 1) := by decide +kernel
theorem dX4_locate_76 : decode cX4_locate 76 = .ok (.getfield 9, 3) := by decide +kernel
theorem dX4_locate_79 : decode cX4_locate 79 = .ok (.iload 6, 2) := by decide +kernel
theorem dX4_locate_81 : decode cX4_locate 81 = .ok (.iaload, 1) := by decide +kernel
theorem dX4_locate_82 : decode cX4_locate 82 = .ok (.bipush 8, 2) := by decide +kernel
theorem dX4_locate_84 : decode cX4_locate 84 = .ok (.ishr, 1) := by decide +kernel
theorem dX4_locate_85 : decode cX4_locate 85 = .ok (.if_icmp .le 11, 3) := by decide +kernel
theorem dX4_locate_88 : decode cX4_locate 88 = .ok (.sipush 16384, 3) := by decide +kernel
theorem dX4_locate_91 : decode cX4_locate 91 = .ok (.istore 8, 2) := by decide +kernel
theorem dX4_locate_93 : decode cX4_locate 93 = .ok (.goto 18, 3) := by decide +kernel
theorem dX4_locate_96 : decode cX4_locate 96 = .ok (.iload_n 3, 1) := by decide +kernel
theorem dX4_locate_97 : decode cX4_locate 97 = .ok (.ifCond .eq 14, 3) := by decide +kernel
theorem dX4_locate_100 : decode cX4_locate 100 = .ok (.iload 7, 2) := by decide +kernel
theorem dX4_locate_102 : decode cX4_locate 102 = .ok (.iconst 1, 1) := by decide +kernel
theorem dX4_locate_103 : decode cX4_locate 103 = .ok (.if_icmp .ne 8, 3) := by decide +kernel
theorem dX4_locate_106 : decode cX4_locate 106 = .ok (.sipush 8192, 3) := by decide +kernel
theorem dX4_locate_109 : decode cX4_locate 109 = .ok (.istore 8, 2) := by decide +kernel
theorem dX4_locate_111 : decode cX4_locate 111 = .ok (.iload 8, 2) := by decide +kernel
theorem dX4_locate_113 : decode cX4_locate 113 = .ok (.ifCond .ne 20, 3) := by decide +kernel
theorem dX4_locate_116 : decode cX4_locate 116 = .ok (.bipush 64, 2) := by decide +kernel
theorem dX4_locate_118 : decode cX4_locate 118 = .ok (.aload_n 0, 1) := by decide +kernel
theorem dX4_locate_119 : decode cX4_locate 119 = .ok (.getfield 13, 3) := by decide +kernel
theorem dX4_locate_122 : decode cX4_locate 122 = .ok (.iload 6, 2) := by decide +kernel
theorem dX4_locate_124 : decode cX4_locate 124 = .ok (.iaload, 1) := by decide +kernel
theorem dX4_locate_125 : decode cX4_locate 125 = .ok (.imul, 1) := by decide +kernel
theorem dX4_locate_126 : decode cX4_locate 126 = .ok (.iload 5, 2) := by decide +kernel
theorem dX4_locate_128 : decode cX4_locate 128 = .ok (.iadd, 1) := by decide +kernel
theorem dX4_locate_129 : decode cX4_locate 129 = .ok (.ldc 21, 2) := by decide +kernel
theorem dX4_locate_131 : decode cX4_locate 131 = .ok (.iand, 1) := by decide +kernel
theorem dX4_locate_132 : decode cX4_locate 132 = .ok (.ireturn, 1) := by decide +kernel
theorem dX4_locate_133 : decode cX4_locate 133 = .ok (.aload_n 0, 1) := by decide +kernel
theorem dX4_locate_134 : decode cX4_locate 134 = .ok (.getfield 16, 3) := by decide +kernel
theorem dX4_locate_137 : decode cX4_locate 137 = .ok (.ldc 22, 2) := by decide +kernel
theorem dX4_locate_139 : decode cX4_locate 139 = .ok (.iand, 1) := by decide +kernel
theorem dX4_locate_140 : decode cX4_locate 140 = .ok (.ifCond .ne 25, 3) := by decide +kernel
theorem dX4_locate_143 : decode cX4_locate 143 = .ok (.aload_n 0, 1) := by decide +kernel
theorem dX4_locate_144 : decode cX4_locate 144 = .ok (.aload_n 0, 1) := by decide +kernel
theorem dX4_locate_145 : decode cX4_locate 145 = .ok (.getfield 16, 3) := by decide +kernel
theorem dX4_locate_148 : decode cX4_locate 148 = .ok (.iconst 1, 1) := by decide +kernel
theorem dX4_locate_149 : decode cX4_locate 149 = .ok (.iand, 1) := by decide +kernel
theorem dX4_locate_150 : decode cX4_locate 150 = .ok (.iload 8, 2) := by decide +kernel
theorem dX4_locate_152 : decode cX4_locate 152 = .ok (.ior, 1) := by decide +kernel
theorem dX4_locate_153 : decode cX4_locate 153 = .ok (.iload 4, 2) := by decide +kernel
theorem dX4_locate_155 : decode cX4_locate 155 = .ok (.iconst 1, 1) := by decide +kernel
theorem dX4_locate_156 : decode cX4_locate 156 = .ok (.ishl, 1) := by decide +kernel
theorem dX4_locate_157 : decode cX4_locate 157 = .ok (.ior, 1) := by decide +kernel
theorem dX4_locate_158 : decode cX4_locate 158 = .ok (.iload_n 1, 1) := by decide +kernel
theorem dX4_locate_159 : decode cX4_locate 159 = .ok (.iconst 4, 1) := by decide +kernel
theorem dX4_locate_160 : decode cX4_locate 160 = .ok (.ishl, 1) := by decide +kernel
theorem dX4_locate_161 : decode cX4_locate 161 = .ok (.ior, 1) := by decide +kernel
theorem dX4_locate_162 : decode cX4_locate 162 = .ok (.putfield 16, 3) := by decide +kernel
theorem dX4_locate_165 : decode cX4_locate 165 = .ok (.iconst (-1), 1) := by decide +kernel
theorem dX4_locate_166 : decode cX4_locate 166 = .ok (.ireturn, 1) := by decide +kernel
theorem dX5_goOn_0 : decode cX5_goOn 0 = .ok (.aload_n 0, 1) := by decide +kernel
theorem dX5_goOn_1 : decode cX5_goOn 1 = .ok (.getfield 20, 3) := by decide +kernel
theorem dX5_goOn_4 : decode cX5_goOn 4 = .ok (.ifCond .eq 10, 3) := by decide +kernel
theorem dX5_goOn_7 : decode cX5_goOn 7 = .ok (.aload_n 0, 1) := by decide +kernel
theorem dX5_goOn_8 : decode cX5_goOn 8 = .ok (.getfield 23, 3) := by decide +kernel
theorem dX5_goOn_11 : decode cX5_goOn 11 = .ok (.ifCond .eq 4, 3) := by decide +kernel
theorem dX5_goOn_14 : decode cX5_goOn 14 = .ok (.return_, 1) := by decide +kernel
theorem dX5_goOn_15 : decode cX5_goOn 15 = .ok (.aload_n 0, 1) := by decide +kernel
theorem dX5_goOn_16 : decode cX5_goOn 16 = .ok (.dup, 1) := by decide +kernel
theorem dX5_goOn_17 : decode cX5_goOn 17 = .ok (.getfield 20, 3) := by decide +kernel
theorem dX5_goOn_20 : decode cX5_goOn 20 = .ok (.iconst 1, 1) := by decide +kernel
theorem dX5_goOn_21 : decode cX5_goOn 21 = .ok (.isub, 1) := by decide +kernel
theorem dX5_goOn_22 : decode cX5_goOn 22 = .ok (.putfield 20, 3) := by decide +kernel
theorem dX5_goOn_25 : decode cX5_goOn 25 = .ok (.aload_n 0, 1) := by decide +kernel
theorem dX5_goOn_26 : decode cX5_goOn 26 = .ok (.getfield 20, 3) := by decide +kernel
theorem dX5_goOn_29 : decode cX5_goOn 29 = .ok (.ifCond .ne 41, 3) := by decide +kernel
theorem dX5_goOn_32 : decode cX5_goOn 32 = .ok (.aload_n 0, 1) := by decide +kernel
theorem dX5_goOn_33 : decode cX5_goOn 33 = .ok (.getfield 9, 3) := by decide +kernel
theorem dX5_goOn_36 : decode cX5_goOn 36 = .ok (.aload_n 0, 1) := by decide +kernel
theorem dX5_goOn_37 : decode cX5_goOn 37 = .ok (.getfield 13, 3) := by decide +kernel
theorem dX5_goOn_40 : decode cX5_goOn 40 = .ok (.bipush 32, 2) := by decide +kernel
theorem dX5_goOn_42 : decode cX5_goOn 42 = .ok (.irem, 1) := by decide +kernel
theorem dX5_goOn_43 : decode cX5_goOn 43 = .ok (.aload_n 0, 1) := by decide +kernel
theorem dX5_goOn_44 : decode cX5_goOn 44 = .ok (.getfield 17, 3) := by decide +kernel
theorem dX5_goOn_47 : decode cX5_goOn 47 = .ok (.iastore, 1) := by decide +kernel
theorem dX5_goOn_48 : decode cX5_goOn 48 = .ok (.aload_n 0, 1) := by decide +kernel
theorem dX5_goOn_49 : decode cX5_goOn 49 = .ok (.dup, 1) := by decide +kernel
theorem dX5_goOn_50 : decode cX5_goOn 50 = .ok (.getfield 13, 3) := by decide +kernel
theorem dX5_goOn_53 : decode cX5_goOn 53 = .ok (.iconst 1, 1) := by decide +kernel
theorem dX5_goOn_54 : decode cX5_goOn 54 = .ok (.iadd, 1) := by decide +kernel
theorem dX5_goOn_55 : decode cX5_goOn 55 = .ok (.putfield 13, 3) := by decide +kernel
theorem dX5_goOn_58 : decode cX5_goOn 58 = .ok (.aload_n 0, 1) := by decide +kernel
theorem dX5_goOn_59 : decode cX5_goOn 59 = .ok (.aload_n 0, 1) := by decide +kernel
theorem dX5_goOn_60 : decode cX5_goOn 60 = .ok (.getfield 27, 3) := by decide +kernel
theorem dX5_goOn_63 : decode cX5_goOn 63 = .ok (.sipush 128, 3) := by decide +kernel
theorem dX5_goOn_66 : decode cX5_goOn 66 = .ok (.ior, 1) := by decide +kernel
theorem dX5_goOn_67 : decode cX5_goOn 67 = .ok (.invokevirtual 33, 3) := by decide +kernel
theorem dX5_goOn_70 : decode cX5_goOn 70 = .ok (.return_, 1) := by decide +kernel
theorem dX6_mode_0 : decode cX6_mode 0 = .ok (.aload_n 0, 1) := by decide +kernel
theorem dX6_mode_1 : decode cX6_mode 1 = .ok (.getfield 43, 3) := by decide +kernel
theorem dX6_mode_4 : decode cX6_mode 4 = .ok (.getfield 44, 3) := by decide +kernel
theorem dX6_mode_7 : decode cX6_mode 7 = .ok (.bipush 14, 2) := by decide +kernel
theorem dX6_mode_9 : decode cX6_mode 9 = .ok (.ishr, 1) := by decide +kernel
theorem dX6_mode_10 : decode cX6_mode 10 = .ok (.iconst 1, 1) := by decide +kernel
theorem dX6_mode_11 : decode cX6_mode 11 = .ok (.iand, 1) := by decide +kernel
theorem dX6_mode_12 : decode cX6_mode 12 = .ok (.ireturn, 1) := by decide +kernel
theorem dX6_takeStatus_0 : decode cX6_takeStatus 0 = .ok (.iload_n 1, 1) := by decide +kernel
theorem dX6_takeStatus_1 : decode cX6_takeStatus 1 = .ok (.aload_n 0, 1) := by decide +kernel
theorem dX6_takeStatus_2 : decode cX6_takeStatus 2 = .ok (.getfield 43, 3) := by decide +kernel
theorem dX6_takeStatus_5 : decode cX6_takeStatus 5 = .ok (.getfield 44, 3) := by decide +kernel
theorem dX6_takeStatus_8 : decode cX6_takeStatus 8 = .ok (.ixor, 1) := by decide +kernel
theorem dX6_takeStatus_9 : decode cX6_takeStatus 9 = .ok (.sipush 16384, 3) := by decide +kernel
theorem dX6_takeStatus_12 : decode cX6_takeStatus 12 = .ok (.iand, 1) := by decide +kernel
theorem dX6_takeStatus_13 : decode cX6_takeStatus 13 = .ok (.ifCond .eq 27, 3) := by decide +kernel
theorem dX6_takeStatus_16 : decode cX6_takeStatus 16 = .ok (.aload_n 0, 1) := by decide +kernel
theorem dX6_takeStatus_17 : decode cX6_takeStatus 17 = .ok (.getfield 7, 3) := by decide +kernel
theorem dX6_takeStatus_20 : decode cX6_takeStatus 20 = .ok (.bipush 6, 2) := by decide +kernel
theorem dX6_takeStatus_22 : decode cX6_takeStatus 22 = .ok (.iaload, 1) := by decide +kernel
theorem dX6_takeStatus_23 : decode cX6_takeStatus 23 = .ok (.istore_n 2, 1) := by decide +kernel
theorem dX6_takeStatus_24 : decode cX6_takeStatus 24 = .ok (.aload_n 0, 1) := by decide +kernel
theorem dX6_takeStatus_25 : decode cX6_takeStatus 25 = .ok (.getfield 7, 3) := by decide +kernel
theorem dX6_takeStatus_28 : decode cX6_takeStatus 28 = .ok (.bipush 6, 2) := by decide +kernel
theorem dX6_takeStatus_30 : decode cX6_takeStatus 30 = .ok (.aload_n 0, 1) := by decide +kernel
theorem dX6_takeStatus_31 : decode cX6_takeStatus 31 = .ok (.getfield 13, 3) := by decide +kernel
theorem dX6_takeStatus_34 : decode cX6_takeStatus 34 = .ok (.iastore, 1) := by decide +kernel
theorem dX6_takeStatus_35 : decode cX6_takeStatus 35 = .ok (.aload_n 0, 1) := by decide +kernel
theorem dX6_takeStatus_36 : decode cX6_takeStatus 36 = .ok (.iload_n 2, 1) := by decide +kernel
theorem dX6_takeStatus_37 : decode cX6_takeStatus 37 = .ok (.putfield 13, 3) := by decide +kernel
theorem dX6_takeStatus_40 : decode cX6_takeStatus 40 = .ok (.aload_n 0, 1) := by decide +kernel
theorem dX6_takeStatus_41 : decode cX6_takeStatus 41 = .ok (.getfield 43, 3) := by decide +kernel
theorem dX6_takeStatus_44 : decode cX6_takeStatus 44 = .ok (.iload_n 1, 1) := by decide +kernel
theorem dX6_takeStatus_45 : decode cX6_takeStatus 45 = .ok (.putfield 44, 3) := by decide +kernel
theorem dX6_takeStatus_48 : decode cX6_takeStatus 48 = .ok (.return_, 1) := by decide +kernel
set_option maxRecDepth 20000 in
theorem ggX6_perform_X0_nextInstruction : GoodIn wsX6_perform wsX0_nextInstruction := goodIn_r _ [11, 12, 13, 14, 15, 164, 165, 166, 167, 168, 169, 170, 171, 172, 173, 174, 175, 176, 177, 178, 179, 180, 181, 182, 183, 184, 185, 186] (by decide +kernel) (by decide +kernel)
set_option maxRecDepth 20000 in
theorem gX6_perform_X0_nextInstruction : GoodIn wsX6_perform (wsV RX6 49 RX0 yX0_nextInstruction wsX0_nextInstruction) := goodIn_app (goodIn_of _ (by decide +kernel)) ggX6_perform_X0_nextInstruction
set_option maxRecDepth 20000 in
theorem ggX6_perform_X6_mode : GoodIn wsX6_perform wsX6_mode := goodIn_r _ [20, 21, 22, 155, 156, 157, 158, 159, 160, 161, 162, 163, 187, 188] (by decide +kernel) (by decide +kernel)
set_option maxRecDepth 20000 in
theorem gX6_perform_X6_mode : GoodIn wsX6_perform (wsV RX6 52 RX6 yX6_mode wsX6_mode) := goodIn_app (goodIn_of _ (by decide +kernel)) ggX6_perform_X6_mode
set_option maxRecDepth 20000 in
theorem ggX6_perform_X6_readWord : GoodIn wsX6_perform wsX6_readWord := goodIn_ca (goodIn_r _ [26, 2, 27, 28, 29, 19, 30, 1, 31, 6, 32, 33, 34, 35, 36, 37, 38, 39, 40, 41, 42, 43, 44, 45, 46, 47, 48, 49, 50, 10, 51, 52, 53, 54, 55, 56, 57, 58, 59, 60, 61, 62, 63, 64, 65, 66, 67, 68, 12, 69, 70, 14, 71, 72, 73, 74, 75, 76, 77, 78, 79, 80, 81, 82, 83, 84, 85, 86, 87, 155, 156, 157, 158, 159, 160, 161, 162, 163, 164, 165, 166, 167, 168, 169, 189, 190, 191, 177, 178, 179, 180, 181, 182, 183, 184, 185, 186, 192, 193, 194, 170, 171, 172, 173, 174, 175, 176, 187, 188] (by decide +kernel) (by decide +kernel)) (goodIn_sub (fun _ h => List.mem_cons_of_mem _ (List.mem_append_right _ h)) (by decide +kernel))
set_option maxRecDepth 20000 in
theorem gX6_perform_X6_readWord : GoodIn wsX6_perform (wsV RX6 56 RX6 yX6_readWord wsX6_readWord) := goodIn_app (goodIn_of _ (by decide +kernel)) ggX6_perform_X6_readWord
set_option maxRecDepth 20000 in
theorem ggX6_perform_X6_enter : GoodIn wsX6_perform wsX6_enter := goodIn_ca (goodIn_r _ [145, 1, 141, 146, 147, 148, 19, 149, 21, 22, 4, 23, 24, 25, 26, 2, 27, 28, 29, 30, 31, 6, 32, 33, 34, 35, 36, 37, 38, 39, 40, 41, 42, 43, 44, 45, 46, 47, 48, 49, 50, 10, 51, 52, 53, 54, 55, 56, 57, 58, 59, 60, 61, 62, 63, 64, 65, 66, 67, 68, 12, 69, 70, 14, 71, 72, 73, 74, 75, 76, 77, 78, 79, 80, 81, 82, 83, 84, 85, 86, 87, 16, 17, 18, 20, 136, 137, 138, 139, 140, 132, 133, 134, 135, 88, 89, 90, 91, 5, 126, 127, 128, 129, 92, 93, 94, 95, 96, 97, 98, 99, 100, 101, 102, 103, 104, 105, 106, 107, 108, 109, 110, 111, 112, 113, 114, 115, 116, 117, 118, 119, 120, 121, 122, 123, 124, 125, 150, 151, 152, 153, 154, 130, 131, 155, 156, 157, 158, 159, 160, 161, 162, 163, 187, 188, 164, 165, 166, 167, 168, 169, 189, 190, 191, 177, 178, 179, 180, 181, 182, 183, 184, 185, 186, 192, 193, 194, 170, 171, 172, 173, 174, 175, 176] (by decide +kernel) (by decide +kernel)) (goodIn_sub (fun _ h => List.mem_cons_of_mem _ (List.mem_append_right _ h)) (by decide +kernel))
set_option maxRecDepth 20000 in
theorem gX6_perform_X6_enter : GoodIn wsX6_perform (wsV RX6 67 RX6 yX6_enter wsX6_enter) := goodIn_app (goodIn_of _ (by decide +kernel)) ggX6_perform_X6_enter
theorem dX6_perform_0 : decode cX6_perform 0 = .ok (.aload_n 0, 1) := by decide +kernel
theorem dX6_perform_1 : decode cX6_perform 1 = .ok (.getfield 33, 3) := by decide +kernel
theorem dX6_perform_4 : decode cX6_perform 4 = .ok (.invokevirtual 49, 3) := by decide +kernel
theorem dX6_perform_7 : decode cX6_perform 7 = .ok (.aload_n 0, 1) := by decide +kernel
theorem dX6_perform_8 : decode cX6_perform 8 = .ok (.getfield 20, 3) := by decide +kernel
theorem dX6_perform_11 : decode cX6_perform 11 = .ok (.ifCond .eq 4, 3) := by decide +kernel
theorem dX6_perform_14 : decode cX6_perform 14 = .ok (.return_, 1) := by decide +kernel
theorem dX6_perform_15 : decode cX6_perform 15 = .ok (.iconst 0, 1) := by decide +kernel
theorem dX6_perform_16 : decode cX6_perform 16 = .ok (.istore_n 1, 1) := by decide +kernel
theorem dX6_perform_17 : decode cX6_perform 17 = .ok (.aload_n 0, 1) := by decide +kernel
theorem dX6_perform_18 : decode cX6_perform 18 = .ok (.aload_n 0, 1) := by decide +kernel
theorem dX6_perform_19 : decode cX6_perform 19 = .ok (.invokevirtual 52, 3) := by decide +kernel
theorem dX6_perform_22 : decode cX6_perform 22 = .ok (.aload_n 0, 1) := by decide +kernel
theorem dX6_perform_23 : decode cX6_perform 23 = .ok (.getfield 7, 3) := by decide +kernel
theorem dX6_perform_26 : decode cX6_perform 26 = .ok (.bipush 7, 2) := by decide +kernel
theorem dX6_perform_28 : decode cX6_perform 28 = .ok (.iaload, 1) := by decide +kernel
theorem dX6_perform_29 : decode cX6_perform 29 = .ok (.invokevirtual 56, 3) := by decide +kernel
theorem dX6_perform_32 : decode cX6_perform 32 = .ok (.istore_n 2, 1) := by decide +kernel
theorem dX6_perform_33 : decode cX6_perform 33 = .ok (.aload_n 0, 1) := by decide +kernel
theorem dX6_perform_34 : decode cX6_perform 34 = .ok (.getfield 7, 3) := by decide +kernel
theorem dX6_perform_37 : decode cX6_perform 37 = .ok (.bipush 7, 2) := by decide +kernel
theorem dX6_perform_39 : decode cX6_perform 39 = .ok (.aload_n 0, 1) := by decide +kernel
theorem dX6_perform_40 : decode cX6_perform 40 = .ok (.getfield 7, 3) := by decide +kernel
theorem dX6_perform_43 : decode cX6_perform 43 = .ok (.bipush 7, 2) := by decide +kernel
theorem dX6_perform_45 : decode cX6_perform 45 = .ok (.iaload, 1) := by decide +kernel
theorem dX6_perform_46 : decode cX6_perform 46 = .ok (.iconst 2, 1) := by decide +kernel
theorem dX6_perform_47 : decode cX6_perform 47 = .ok (.iadd, 1) := by decide +kernel
theorem dX6_perform_48 : decode cX6_perform 48 = .ok (.ldc 60, 2) := by decide +kernel
theorem dX6_perform_50 : decode cX6_perform 50 = .ok (.iand, 1) := by decide +kernel
theorem dX6_perform_51 : decode cX6_perform 51 = .ok (.iastore, 1) := by decide +kernel
theorem dX6_perform_52 : decode cX6_perform 52 = .ok (.aload_n 0, 1) := by decide +kernel
theorem dX6_perform_53 : decode cX6_perform 53 = .ok (.iload_n 2, 1) := by decide +kernel
theorem dX6_perform_54 : decode cX6_perform 54 = .ok (.invokevirtual 61, 3) := by decide +kernel
theorem dX6_perform_57 : decode cX6_perform 57 = .ok (.goto 6, 3) := by decide +kernel
theorem dX6_perform_60 : decode cX6_perform 60 = .ok (.astore_n 2, 1) := by decide +kernel
theorem dX6_perform_61 : decode cX6_perform 61 = .ok (.iconst 1, 1) := by decide +kernel
theorem dX6_perform_62 : decode cX6_perform 62 = .ok (.istore_n 1, 1) := by decide +kernel
theorem dX6_perform_63 : decode cX6_perform 63 = .ok (.iload_n 1, 1) := by decide +kernel
theorem dX6_perform_64 : decode cX6_perform 64 = .ok (.ifCond .eq 14, 3) := by decide +kernel
theorem dX6_perform_67 : decode cX6_perform 67 = .ok (.aload_n 0, 1) := by decide +kernel
theorem dX6_perform_68 : decode cX6_perform 68 = .ok (.aload_n 0, 1) := by decide +kernel
theorem dX6_perform_69 : decode cX6_perform 69 = .ok (.getfield 24, 3) := by decide +kernel
theorem dX6_perform_72 : decode cX6_perform 72 = .ok (.invokevirtual 67, 3) := by decide +kernel
theorem dX6_perform_75 : decode cX6_perform 75 = .ok (.goto 7, 3) := by decide +kernel
theorem dX6_perform_78 : decode cX6_perform 78 = .ok (.aload_n 0, 1) := by decide +kernel
theorem dX6_perform_79 : decode cX6_perform 79 = .ok (.invokevirtual 70, 3) := by decide +kernel
theorem dX6_perform_82 : decode cX6_perform 82 = .ok (.return_, 1) := by decide +kernel
set_option maxRecDepth 20000 in
theorem ggX6_settle_X6_takeStatus : GoodIn wsX6_settle wsX6_takeStatus := goodIn_r _ [10, 1, 3, 11, 12, 13, 14, 15, 16, 17, 18, 19, 20, 21, 22, 23] (by decide +kernel) (by decide +kernel)
set_option maxRecDepth 20000 in
theorem gX6_settle_X6_takeStatus : GoodIn wsX6_settle (wsV RX6 76 RX6 yX6_takeStatus wsX6_takeStatus) := goodIn_app (goodIn_of _ (by decide +kernel)) ggX6_settle_X6_takeStatus
theorem dX6_settle_0 : decode cX6_settle 0 = .ok (.aload_n 0, 1) := by decide +kernel
theorem dX6_settle_1 : decode cX6_settle 1 = .ok (.getfield 43, 3) := by decide +kernel
theorem dX6_settle_4 : decode cX6_settle 4 = .ok (.getfield 73, 3) := by decide +kernel
theorem dX6_settle_7 : decode cX6_settle 7 = .ok (.iconst (-1), 1) := by decide +kernel
theorem dX6_settle_8 : decode cX6_settle 8 = .ok (.if_icmp .ne 13, 3) := by decide +kernel
theorem dX6_settle_11 : decode cX6_settle 11 = .ok (.aload_n 0, 1) := by decide +kernel
theorem dX6_settle_12 : decode cX6_settle 12 = .ok (.getfield 43, 3) := by decide +kernel
theorem dX6_settle_15 : decode cX6_settle 15 = .ok (.getfield 44, 3) := by decide +kernel
theorem dX6_settle_18 : decode cX6_settle 18 = .ok (.goto 10, 3) := by decide +kernel
theorem dX6_settle_21 : decode cX6_settle 21 = .ok (.aload_n 0, 1) := by decide +kernel
theorem dX6_settle_22 : decode cX6_settle 22 = .ok (.getfield 43, 3) := by decide +kernel
theorem dX6_settle_25 : decode cX6_settle 25 = .ok (.getfield 73, 3) := by decide +kernel
theorem dX6_settle_28 : decode cX6_settle 28 = .ok (.istore_n 1, 1) := by decide +kernel
theorem dX6_settle_29 : decode cX6_settle 29 = .ok (.aload_n 0, 1) := by decide +kernel
theorem dX6_settle_30 : decode cX6_settle 30 = .ok (.getfield 27, 3) := by decide +kernel
theorem dX6_settle_33 : decode cX6_settle 33 = .ok (.ifCond .eq 36, 3) := by decide +kernel
theorem dX6_settle_36 : decode cX6_settle 36 = .ok (.iload_n 1, 1) := by decide +kernel
theorem dX6_settle_37 : decode cX6_settle 37 = .ok (.bipush (-16), 2) := by decide +kernel
theorem dX6_settle_39 : decode cX6_settle 39 = .ok (.iand, 1) := by decide +kernel
theorem dX6_settle_40 : decode cX6_settle 40 = .ok (.aload_n 0, 1) := by decide +kernel
theorem dX6_settle_41 : decode cX6_settle 41 = .ok (.getfield 43, 3) := by decide +kernel
theorem dX6_settle_44 : decode cX6_settle 44 = .ok (.getfield 44, 3) := by decide +kernel
theorem dX6_settle_47 : decode cX6_settle 47 = .ok (.bipush 15, 2) := by decide +kernel
theorem dX6_settle_49 : decode cX6_settle 49 = .ok (.iand, 1) := by decide +kernel
theorem dX6_settle_50 : decode cX6_settle 50 = .ok (.aload_n 0, 1) := by decide +kernel
theorem dX6_settle_51 : decode cX6_settle 51 = .ok (.getfield 27, 3) := by decide +kernel
theorem dX6_settle_54 : decode cX6_settle 54 = .ok (.iconst (-1), 1) := by decide +kernel
theorem dX6_settle_55 : decode cX6_settle 55 = .ok (.ixor, 1) := by decide +kernel
theorem dX6_settle_56 : decode cX6_settle 56 = .ok (.iand, 1) := by decide +kernel
theorem dX6_settle_57 : decode cX6_settle 57 = .ok (.ior, 1) := by decide +kernel
theorem dX6_settle_58 : decode cX6_settle 58 = .ok (.aload_n 0, 1) := by decide +kernel
theorem dX6_settle_59 : decode cX6_settle 59 = .ok (.getfield 30, 3) := by decide +kernel
theorem dX6_settle_62 : decode cX6_settle 62 = .ok (.aload_n 0, 1) := by decide +kernel
theorem dX6_settle_63 : decode cX6_settle 63 = .ok (.getfield 27, 3) := by decide +kernel
theorem dX6_settle_66 : decode cX6_settle 66 = .ok (.iand, 1) := by decide +kernel
theorem dX6_settle_67 : decode cX6_settle 67 = .ok (.ior, 1) := by decide +kernel
theorem dX6_settle_68 : decode cX6_settle 68 = .ok (.istore_n 1, 1) := by decide +kernel
theorem dX6_settle_69 : decode cX6_settle 69 = .ok (.aload_n 0, 1) := by decide +kernel
theorem dX6_settle_70 : decode cX6_settle 70 = .ok (.iconst 0, 1) := by decide +kernel
theorem dX6_settle_71 : decode cX6_settle 71 = .ok (.putfield 27, 3) := by decide +kernel
theorem dX6_settle_74 : decode cX6_settle 74 = .ok (.aload_n 0, 1) := by decide +kernel
theorem dX6_settle_75 : decode cX6_settle 75 = .ok (.getfield 43, 3) := by decide +kernel
theorem dX6_settle_78 : decode cX6_settle 78 = .ok (.iconst (-1), 1) := by decide +kernel
theorem dX6_settle_79 : decode cX6_settle 79 = .ok (.putfield 73, 3) := by decide +kernel
theorem dX6_settle_82 : decode cX6_settle 82 = .ok (.aload_n 0, 1) := by decide +kernel
theorem dX6_settle_83 : decode cX6_settle 83 = .ok (.iload_n 1, 1) := by decide +kernel
theorem dX6_settle_84 : decode cX6_settle 84 = .ok (.invokevirtual 76, 3) := by decide +kernel
theorem dX6_settle_87 : decode cX6_settle 87 = .ok (.return_, 1) := by decide +kernel
theorem dX6_lookForInterrupt_0 : decode cX6_lookForInterrupt 0 = .ok (.aload_n 0, 1) := by decide +kernel
theorem dX6_lookForInterrupt_1 : decode cX6_lookForInterrupt 1 = .ok (.getfield 43, 3) := by decide +kernel
theorem dX6_lookForInterrupt_4 : decode cX6_lookForInterrupt 4 = .ok (.getfield 44, 3) := by decide +kernel
theorem dX6_lookForInterrupt_7 : decode cX6_lookForInterrupt 7 = .ok (.iconst 5, 1) := by decide +kernel
theorem dX6_lookForInterrupt_8 : decode cX6_lookForInterrupt 8 = .ok (.ishr, 1) := by decide +kernel
theorem dX6_lookForInterrupt_9 : decode cX6_lookForInterrupt 9 = .ok (.bipush 7, 2) := by decide +kernel
theorem dX6_lookForInterrupt_11 : decode cX6_lookForInterrupt 11 = .ok (.iand, 1) := by decide +kernel
theorem dX6_lookForInterrupt_12 : decode cX6_lookForInterrupt 12 = .ok (.istore_n 1, 1) := by decide +kernel
theorem dX6_lookForInterrupt_13 : decode cX6_lookForInterrupt 13 = .ok (.aload_n 0, 1) := by decide +kernel
theorem dX6_lookForInterrupt_14 : decode cX6_lookForInterrupt 14 = .ok (.getfield 33, 3) := by decide +kernel
theorem dX6_lookForInterrupt_17 : decode cX6_lookForInterrupt 17 = .ok (.getfield 79, 3) := by decide +kernel
theorem dX6_lookForInterrupt_20 : decode cX6_lookForInterrupt 20 = .ok (.getfield 83, 3) := by decide +kernel
theorem dX6_lookForInterrupt_23 : decode cX6_lookForInterrupt 23 = .ok (.ifCond .eq 23, 3) := by decide +kernel
theorem dX6_lookForInterrupt_26 : decode cX6_lookForInterrupt 26 = .ok (.iload_n 1, 1) := by decide +kernel
theorem dX6_lookForInterrupt_27 : decode cX6_lookForInterrupt 27 = .ok (.iconst 5, 1) := by decide +kernel
theorem dX6_lookForInterrupt_28 : decode cX6_lookForInterrupt 28 = .ok (.if_icmp .ge 18, 3) := by decide +kernel
theorem dX6_lookForInterrupt_31 : decode cX6_lookForInterrupt 31 = .ok (.aload_n 0, 1) := by decide +kernel
theorem dX6_lookForInterrupt_32 : decode cX6_lookForInterrupt 32 = .ok (.getfield 33, 3) := by decide +kernel
theorem dX6_lookForInterrupt_35 : decode cX6_lookForInterrupt 35 = .ok (.getfield 79, 3) := by decide +kernel
theorem dX6_lookForInterrupt_38 : decode cX6_lookForInterrupt 38 = .ok (.astore_n 2, 1) := by decide +kernel
theorem dX6_lookForInterrupt_39 : decode cX6_lookForInterrupt 39 = .ok (.sipush 144, 3) := by decide +kernel
theorem dX6_lookForInterrupt_42 : decode cX6_lookForInterrupt 42 = .ok (.istore_n 3, 1) := by decide +kernel
theorem dX6_lookForInterrupt_43 : decode cX6_lookForInterrupt 43 = .ok (.goto 68, 3) := by decide +kernel
theorem dX6_lookForInterrupt_46 : decode cX6_lookForInterrupt 46 = .ok (.aload_n 0, 1) := by decide +kernel
theorem dX6_lookForInterrupt_47 : decode cX6_lookForInterrupt 47 = .ok (.getfield 33, 3) := by decide +kernel
theorem dX6_lookForInterrupt_50 : decode cX6_lookForInterrupt 50 = .ok (.getfield 88, 3) := by decide +kernel
theorem dX6_lookForInterrupt_53 : decode cX6_lookForInterrupt 53 = .ok (.getfield 92, 3) := by decide +kernel
theorem dX6_lookForInterrupt_56 : decode cX6_lookForInterrupt 56 = .ok (.ifCond .eq 22, 3) := by decide +kernel
theorem dX6_lookForInterrupt_59 : decode cX6_lookForInterrupt 59 = .ok (.iload_n 1, 1) := by decide +kernel
theorem dX6_lookForInterrupt_60 : decode cX6_lookForInterrupt 60 = .ok (.iconst 4, 1) := by decide +kernel
theorem dX6_lookForInterrupt_61 : decode cX6_lookForInterrupt 61 = .ok (.if_icmp .ge 17, 3) := by decide +kernel
theorem dX6_lookForInterrupt_64 : decode cX6_lookForInterrupt 64 = .ok (.aload_n 0, 1) := by decide +kernel
theorem dX6_lookForInterrupt_65 : decode cX6_lookForInterrupt 65 = .ok (.getfield 33, 3) := by decide +kernel
theorem dX6_lookForInterrupt_68 : decode cX6_lookForInterrupt 68 = .ok (.getfield 88, 3) := by decide +kernel
theorem dX6_lookForInterrupt_71 : decode cX6_lookForInterrupt 71 = .ok (.astore_n 2, 1) := by decide +kernel
theorem dX6_lookForInterrupt_72 : decode cX6_lookForInterrupt 72 = .ok (.bipush 48, 2) := by decide +kernel
theorem dX6_lookForInterrupt_74 : decode cX6_lookForInterrupt 74 = .ok (.istore_n 3, 1) := by decide +kernel
theorem dX6_lookForInterrupt_75 : decode cX6_lookForInterrupt 75 = .ok (.goto 36, 3) := by decide +kernel
theorem dX6_lookForInterrupt_78 : decode cX6_lookForInterrupt 78 = .ok (.aload_n 0, 1) := by decide +kernel
theorem dX6_lookForInterrupt_79 : decode cX6_lookForInterrupt 79 = .ok (.getfield 33, 3) := by decide +kernel
theorem dX6_lookForInterrupt_82 : decode cX6_lookForInterrupt 82 = .ok (.getfield 95, 3) := by decide +kernel
theorem dX6_lookForInterrupt_85 : decode cX6_lookForInterrupt 85 = .ok (.getfield 99, 3) := by decide +kernel
theorem dX6_lookForInterrupt_88 : decode cX6_lookForInterrupt 88 = .ok (.ifCond .eq 22, 3) := by decide +kernel
theorem dX6_lookForInterrupt_91 : decode cX6_lookForInterrupt 91 = .ok (.iload_n 1, 1) := by decide +kernel
theorem dX6_lookForInterrupt_92 : decode cX6_lookForInterrupt 92 = .ok (.iconst 4, 1) := by decide +kernel
theorem dX6_lookForInterrupt_93 : decode cX6_lookForInterrupt 93 = .ok (.if_icmp .ge 17, 3) := by decide +kernel
theorem dX6_lookForInterrupt_96 : decode cX6_lookForInterrupt 96 = .ok (.aload_n 0, 1) := by decide +kernel
theorem dX6_lookForInterrupt_97 : decode cX6_lookForInterrupt 97 = .ok (.getfield 33, 3) := by decide +kernel
theorem dX6_lookForInterrupt_100 : decode cX6_lookForInterrupt 100 = .ok (.getfield 95, 3) := by decide +kernel
theorem dX6_lookForInterrupt_103 : decode cX6_lookForInterrupt 103 = .ok (.astore_n 2, 1) := by decide +kernel
theorem dX6_lookForInterrupt_104 : decode cX6_lookForInterrupt 104 = .ok (.bipush 52, 2) := by decide +kernel
theorem dX6_lookForInterrupt_106 : decode cX6_lookForInterrupt 106 = .ok (.istore_n 3, 1) := by decide +kernel
theorem dX6_lookForInterrupt_107 : decode cX6_lookForInterrupt 107 = .ok (.goto 4, 3) := by decide +kernel
theorem dX6_lookForInterrupt_110 : decode cX6_lookForInterrupt 110 = .ok (.return_, 1) := by decide +kernel
theorem dX6_lookForInterrupt_111 : decode cX6_lookForInterrupt 111 = .ok (.aload_n 2, 1) := by decide +kernel
theorem dX6_lookForInterrupt_112 : decode cX6_lookForInterrupt 112 = .ok (.iconst 0, 1) := by decide +kernel
theorem dX6_lookForInterrupt_113 : decode cX6_lookForInterrupt 113 = .ok (.putfield 102, 3) := by decide +kernel
theorem dX6_lookForInterrupt_116 : decode cX6_lookForInterrupt 116 = .ok (.aload_n 0, 1) := by decide +kernel
theorem dX6_lookForInterrupt_117 : decode cX6_lookForInterrupt 117 = .ok (.iconst 0, 1) := by decide +kernel
theorem dX6_lookForInterrupt_118 : decode cX6_lookForInterrupt 118 = .ok (.putfield 20, 3) := by decide +kernel
theorem dX6_lookForInterrupt_121 : decode cX6_lookForInterrupt 121 = .ok (.aload_n 0, 1) := by decide +kernel
theorem dX6_lookForInterrupt_122 : decode cX6_lookForInterrupt 122 = .ok (.iload_n 3, 1) := by decide +kernel
theorem dX6_lookForInterrupt_123 : decode cX6_lookForInterrupt 123 = .ok (.invokevirtual 67, 3) := by decide +kernel
theorem dX6_lookForInterrupt_126 : decode cX6_lookForInterrupt 126 = .ok (.return_, 1) := by decide +kernel
set_option maxRecDepth 20000 in
theorem ggX6_enter_X6_trap : GoodIn wsX6_enter wsX6_trap := goodIn_ca (goodIn_r _ [7, 8, 9, 10, 11, 12, 13, 6, 14, 15, 16, 17, 18, 19, 1, 20, 21, 22, 23, 24, 25, 26, 27, 28, 29, 30, 31, 32, 33, 34, 35, 36, 37, 38, 39, 40, 41, 42, 43, 44, 45, 46, 47, 48, 49, 50, 51, 52, 53, 54, 55, 56, 57, 58, 59, 60, 61, 62, 63, 64, 65, 66, 67, 68, 69, 70, 71, 72, 73, 74, 75, 76, 77, 78, 79, 80, 81, 82, 83, 84, 85, 86, 87, 88, 89, 90, 91, 92, 93, 94, 95, 96, 97, 98, 99, 100, 101, 102, 103, 104, 105, 106, 107, 108, 109, 110, 111, 112, 113, 114, 115, 116, 117, 118, 119, 120, 121, 122, 123, 124, 125, 126, 127, 128, 129, 130, 131, 132, 133, 134, 135, 136, 144, 145, 146, 147, 148, 149, 150, 151, 152, 153, 154, 155, 156, 157, 158, 159, 160, 161, 162, 163, 164, 165, 166, 167, 168, 169, 170, 171, 172, 173, 174, 175, 176, 177, 178, 179, 180, 181, 182, 183] (by decide +kernel) (by decide +kernel)) (goodIn_sub (fun _ h => List.mem_cons_of_mem _ (List.mem_append_right _ h)) (by decide +kernel))
set_option maxRecDepth 20000 in
theorem gX6_enter_X6_trap : GoodIn wsX6_enter (wsV RX6 105 RX6 yX6_trap wsX6_trap) := goodIn_app (goodIn_of _ (by decide +kernel)) ggX6_enter_X6_trap
set_option maxRecDepth 20000 in
theorem ggX6_enter_X6_settle : GoodIn wsX6_enter wsX6_settle := goodIn_r _ [140, 8, 141, 9, 142, 143, 85, 86, 87, 6, 88, 10, 89, 144, 145, 146, 147, 148, 149, 150, 151, 152, 153, 154] (by decide +kernel) (by decide +kernel)
set_option maxRecDepth 20000 in
theorem gX6_enter_X6_settle : GoodIn wsX6_enter (wsV RX6 70 RX6 yX6_settle wsX6_settle) := goodIn_app (goodIn_of _ (by decide +kernel)) ggX6_enter_X6_settle
theorem dX6_enter_0 : decode cX6_enter 0 = .ok (.aload_n 0, 1) := by decide +kernel
theorem dX6_enter_1 : decode cX6_enter 1 = .ok (.iload_n 1, 1) := by decide +kernel
theorem dX6_enter_2 : decode cX6_enter 2 = .ok (.invokevirtual 105, 3) := by decide +kernel
theorem dX6_enter_5 : decode cX6_enter 5 = .ok (.goto 9, 3) := by decide +kernel
theorem dX6_enter_8 : decode cX6_enter 8 = .ok (.astore_n 2, 1) := by decide +kernel
theorem dX6_enter_9 : decode cX6_enter 9 = .ok (.aload_n 0, 1) := by decide +kernel
theorem dX6_enter_10 : decode cX6_enter 10 = .ok (.iconst 3, 1) := by decide +kernel
theorem dX6_enter_11 : decode cX6_enter 11 = .ok (.putfield 17, 3) := by decide +kernel
theorem dX6_enter_14 : decode cX6_enter 14 = .ok (.aload_n 0, 1) := by decide +kernel
theorem dX6_enter_15 : decode cX6_enter 15 = .ok (.invokevirtual 70, 3) := by decide +kernel
theorem dX6_enter_18 : decode cX6_enter 18 = .ok (.return_, 1) := by decide +kernel
set_option maxRecDepth 20000 in
theorem ggX6_trap_X6_readWord : GoodIn wsX6_trap wsX6_readWord := goodIn_ca (goodIn_r _ [8, 9, 10, 11, 12, 7, 13, 14, 15, 16, 17, 18, 19, 20, 21, 22, 23, 24, 25, 26, 27, 28, 29, 30, 31, 32, 33, 34, 35, 36, 37, 38, 39, 40, 41, 42, 43, 44, 45, 46, 47, 48, 49, 50, 51, 52, 53, 54, 55, 56, 57, 58, 59, 60, 61, 62, 63, 64, 65, 66, 67, 68, 69, 70, 71, 72, 73, 74, 75, 132, 133, 134, 135, 136, 137, 138, 139, 140, 143, 144, 145, 146, 147, 148, 149, 150, 151, 152, 153, 154, 155, 156, 157, 158, 159, 160, 161, 162, 163, 164, 165, 166, 167, 168, 169, 170, 171, 141, 142] (by decide +kernel) (by decide +kernel)) (goodIn_sub (fun _ h => List.mem_cons_of_mem _ (List.mem_append_right _ h)) (by decide +kernel))
set_option maxRecDepth 20000 in
theorem gX6_trap_X6_readWord : GoodIn wsX6_trap (wsV RX6 56 RX6 yX6_readWord wsX6_readWord) := goodIn_app (goodIn_of _ (by decide +kernel)) ggX6_trap_X6_readWord
set_option maxRecDepth 20000 in
theorem ggX6_trap_X6_mode : GoodIn wsX6_trap wsX6_mode := goodIn_r _ [79, 1, 2, 132, 133, 134, 135, 136, 137, 138, 139, 140, 141, 142] (by decide +kernel) (by decide +kernel)
set_option maxRecDepth 20000 in
theorem gX6_trap_X6_mode : GoodIn wsX6_trap (wsV RX6 52 RX6 yX6_mode wsX6_mode) := goodIn_app (goodIn_of _ (by decide +kernel)) ggX6_trap_X6_mode
set_option maxRecDepth 20000 in
theorem ggX6_trap_X6_takeStatus : GoodIn wsX6_trap wsX6_takeStatus := goodIn_r _ [83, 1, 2, 3, 84, 132, 133, 134, 135, 136, 137, 138, 139, 140, 141, 142] (by decide +kernel) (by decide +kernel)
set_option maxRecDepth 20000 in
theorem gX6_trap_X6_takeStatus : GoodIn wsX6_trap (wsV RX6 76 RX6 yX6_takeStatus wsX6_takeStatus) := goodIn_app (goodIn_of _ (by decide +kernel)) ggX6_trap_X6_takeStatus
set_option maxRecDepth 20000 in
theorem ggX6_trap_X6_push : GoodIn wsX6_trap wsX6_push := goodIn_ca (goodIn_r _ [88, 76, 77, 78, 7, 79, 1, 2, 89, 90, 91, 92, 3, 93, 94, 95, 96, 97, 9, 10, 11, 12, 13, 14, 15, 16, 17, 18, 19, 20, 21, 22, 23, 24, 25, 26, 27, 28, 29, 30, 31, 32, 98, 99, 100, 36, 101, 46, 47, 48, 49, 50, 51, 52, 102, 53, 39, 40, 41, 55, 56, 57, 58, 61, 59, 60, 63, 64, 65, 66, 103, 68, 69, 70, 71, 72, 73, 74, 75, 104, 105, 106, 107, 108, 109, 110, 111, 112, 113, 114, 115, 116, 117, 118, 119, 120, 121, 122, 123, 124, 125, 126, 127, 128, 129, 130, 131, 132, 133, 134, 135, 136, 137, 138, 139, 140, 141, 142, 143, 144, 145, 146, 147, 148, 149, 150, 151, 152, 153, 154, 155, 156, 157, 158, 159, 160, 161, 162, 163, 164, 165, 166, 167, 168, 169, 170, 171] (by decide +kernel) (by decide +kernel)) (goodIn_sub (fun _ h => List.mem_cons_of_mem _ (List.mem_append_right _ h)) (by decide +kernel))
set_option maxRecDepth 20000 in
theorem gX6_trap_X6_push : GoodIn wsX6_trap (wsV RX6 108 RX6 yX6_push wsX6_push) := goodIn_app (goodIn_of _ (by decide +kernel)) ggX6_trap_X6_push
theorem dX6_trap_0 : decode cX6_trap 0 = .ok (.aload_n 0, 1) := by decide +kernel
theorem dX6_trap_1 : decode cX6_trap 1 = .ok (.getfield 43, 3) := by decide +kernel
theorem dX6_trap_4 : decode cX6_trap 4 = .ok (.getfield 44, 3) := by decide +kernel
theorem dX6_trap_7 : decode cX6_trap 7 = .ok (.istore_n 2, 1) := by decide +kernel
theorem dX6_trap_8 : decode cX6_trap 8 = .ok (.aload_n 0, 1) := by decide +kernel
theorem dX6_trap_9 : decode cX6_trap 9 = .ok (.getfield 7, 3) := by decide +kernel
theorem dX6_trap_12 : decode cX6_trap 12 = .ok (.bipush 7, 2) := by decide +kernel
theorem dX6_trap_14 : decode cX6_trap 14 = .ok (.iaload, 1) := by decide +kernel
theorem dX6_trap_15 : decode cX6_trap 15 = .ok (.istore_n 3, 1) := by decide +kernel
theorem dX6_trap_16 : decode cX6_trap 16 = .ok (.aload_n 0, 1) := by decide +kernel
theorem dX6_trap_17 : decode cX6_trap 17 = .ok (.iconst 0, 1) := by decide +kernel
theorem dX6_trap_18 : decode cX6_trap 18 = .ok (.iload_n 1, 1) := by decide +kernel
theorem dX6_trap_19 : decode cX6_trap 19 = .ok (.invokevirtual 56, 3) := by decide +kernel
theorem dX6_trap_22 : decode cX6_trap 22 = .ok (.istore 4, 2) := by decide +kernel
theorem dX6_trap_24 : decode cX6_trap 24 = .ok (.aload_n 0, 1) := by decide +kernel
theorem dX6_trap_25 : decode cX6_trap 25 = .ok (.iconst 0, 1) := by decide +kernel
theorem dX6_trap_26 : decode cX6_trap 26 = .ok (.iload_n 1, 1) := by decide +kernel
theorem dX6_trap_27 : decode cX6_trap 27 = .ok (.iconst 2, 1) := by decide +kernel
theorem dX6_trap_28 : decode cX6_trap 28 = .ok (.iadd, 1) := by decide +kernel
theorem dX6_trap_29 : decode cX6_trap 29 = .ok (.invokevirtual 56, 3) := by decide +kernel
theorem dX6_trap_32 : decode cX6_trap 32 = .ok (.istore 5, 2) := by decide +kernel
theorem dX6_trap_34 : decode cX6_trap 34 = .ok (.aload_n 0, 1) := by decide +kernel
theorem dX6_trap_35 : decode cX6_trap 35 = .ok (.iload 5, 2) := by decide +kernel
theorem dX6_trap_37 : decode cX6_trap 37 = .ok (.sipush 20719, 3) := by decide +kernel
theorem dX6_trap_40 : decode cX6_trap 40 = .ok (.iand, 1) := by decide +kernel
theorem dX6_trap_41 : decode cX6_trap 41 = .ok (.sipush (-4097), 3) := by decide +kernel
theorem dX6_trap_44 : decode cX6_trap 44 = .ok (.iand, 1) := by decide +kernel
theorem dX6_trap_45 : decode cX6_trap 45 = .ok (.aload_n 0, 1) := by decide +kernel
theorem dX6_trap_46 : decode cX6_trap 46 = .ok (.invokevirtual 52, 3) := by decide +kernel
theorem dX6_trap_49 : decode cX6_trap 49 = .ok (.bipush 12, 2) := by decide +kernel
theorem dX6_trap_51 : decode cX6_trap 51 = .ok (.ishl, 1) := by decide +kernel
theorem dX6_trap_52 : decode cX6_trap 52 = .ok (.ior, 1) := by decide +kernel
theorem dX6_trap_53 : decode cX6_trap 53 = .ok (.invokevirtual 76, 3) := by decide +kernel
theorem dX6_trap_56 : decode cX6_trap 56 = .ok (.aload_n 0, 1) := by decide +kernel
theorem dX6_trap_57 : decode cX6_trap 57 = .ok (.iload_n 2, 1) := by decide +kernel
theorem dX6_trap_58 : decode cX6_trap 58 = .ok (.invokevirtual 108, 3) := by decide +kernel
theorem dX6_trap_61 : decode cX6_trap 61 = .ok (.aload_n 0, 1) := by decide +kernel
theorem dX6_trap_62 : decode cX6_trap 62 = .ok (.iload_n 3, 1) := by decide +kernel
theorem dX6_trap_63 : decode cX6_trap 63 = .ok (.invokevirtual 108, 3) := by decide +kernel
theorem dX6_trap_66 : decode cX6_trap 66 = .ok (.aload_n 0, 1) := by decide +kernel
theorem dX6_trap_67 : decode cX6_trap 67 = .ok (.getfield 7, 3) := by decide +kernel
theorem dX6_trap_70 : decode cX6_trap 70 = .ok (.bipush 7, 2) := by decide +kernel
theorem dX6_trap_72 : decode cX6_trap 72 = .ok (.iload 4, 2) := by decide +kernel
theorem dX6_trap_74 : decode cX6_trap 74 = .ok (.iastore, 1) := by decide +kernel
theorem dX6_trap_75 : decode cX6_trap 75 = .ok (.return_, 1) := by decide +kernel
theorem dX6_stop_0 : decode cX6_stop 0 = .ok (.aload_n 0, 1) := by decide +kernel
theorem dX6_stop_1 : decode cX6_stop 1 = .ok (.iload_n 1, 1) := by decide +kernel
theorem dX6_stop_2 : decode cX6_stop 2 = .ok (.putfield 24, 3) := by decide +kernel
theorem dX6_stop_5 : decode cX6_stop 5 = .ok (.new 65, 3) := by decide +kernel
theorem dX6_stop_8 : decode cX6_stop 8 = .ok (.dup, 1) := by decide +kernel
theorem dX6_stop_9 : decode cX6_stop 9 = .ok (.invokespecial 111, 3) := by decide +kernel
theorem dX6_stop_12 : decode cX6_stop 12 = .ok (.athrow, 1) := by decide +kernel
set_option maxRecDepth 20000 in
theorem ggX6_readWord_X6_stop : GoodIn wsX6_readWord wsX6_stop := goodIn_ca (goodIn_r _ [6, 7, 8, 9, 69, 70, 71, 72, 73, 74, 75, 76, 77] (by decide +kernel) (by decide +kernel)) (goodIn_sub (fun _ h => List.mem_cons_of_mem _ (List.mem_append_right _ h)) (by decide +kernel))
set_option maxRecDepth 20000 in
theorem gX6_readWord_X6_stop : GoodIn wsX6_readWord (wsV RX6 112 RX6 yX6_stop wsX6_stop) := goodIn_app (goodIn_of _ (by decide +kernel)) ggX6_readWord_X6_stop
set_option maxRecDepth 20000 in
theorem ggX6_readWord_X6_place : GoodIn wsX6_readWord wsX6_place := goodIn_ca (goodIn_r _ [13, 1, 14, 15, 16, 17, 18, 19, 20, 21, 22, 23, 24, 25, 2, 3, 4, 5, 6, 7, 8, 9, 69, 70, 71, 72, 73, 74, 75, 76, 77, 78, 79, 80, 81, 82, 83, 84, 85, 86] (by decide +kernel) (by decide +kernel)) (goodIn_sub (fun _ h => List.mem_cons_of_mem _ (List.mem_append_right _ h)) (by decide +kernel))
set_option maxRecDepth 20000 in
theorem gX6_readWord_X6_place : GoodIn wsX6_readWord (wsV RX6 115 RX6 yX6_place wsX6_place) := goodIn_app (goodIn_of _ (by decide +kernel)) ggX6_readWord_X6_place
set_option maxRecDepth 20000 in
theorem ggX6_readWord_X0_read : GoodIn wsX6_readWord wsX0_read := goodIn_r _ [30, 31, 32, 33, 34, 35, 36, 37, 29, 38, 39, 40, 41, 42, 43, 44, 45, 46, 47, 48, 49, 50, 51, 52, 53, 54, 55, 56, 57, 58, 59, 60, 61, 62, 63, 64, 65, 66, 67, 68, 78, 79, 80, 81, 82, 83, 87, 88, 89, 90, 91, 92, 93, 94, 95, 96, 97, 98, 99, 100, 101, 102, 103, 104, 105, 106, 84, 85, 86, 107, 108] (by decide +kernel) (by decide +kernel)
set_option maxRecDepth 20000 in
theorem gX6_readWord_X0_read : GoodIn wsX6_readWord (wsV RX6 119 RX0 yX0_read wsX0_read) := goodIn_app (goodIn_of _ (by decide +kernel)) ggX6_readWord_X0_read
theorem dX6_readWord_0 : decode cX6_readWord 0 = .ok (.iload_n 2, 1) := by decide +kernel
theorem dX6_readWord_1 : decode cX6_readWord 1 = .ok (.iconst 1, 1) := by decide +kernel
theorem dX6_readWord_2 : decode cX6_readWord 2 = .ok (.iand, 1) := by decide +kernel
theorem dX6_readWord_3 : decode cX6_readWord 3 = .ok (.ifCond .eq 8, 3) := by decide +kernel
theorem dX6_readWord_6 : decode cX6_readWord 6 = .ok (.aload_n 0, 1) := by decide +kernel
theorem dX6_readWord_7 : decode cX6_readWord 7 = .ok (.iconst 4, 1) := by decide +kernel
theorem dX6_readWord_8 : decode cX6_readWord 8 = .ok (.invokevirtual 112, 3) := by decide +kernel
theorem dX6_readWord_11 : decode cX6_readWord 11 = .ok (.aload_n 0, 1) := by decide +kernel
theorem dX6_readWord_12 : decode cX6_readWord 12 = .ok (.getfield 33, 3) := by decide +kernel
theorem dX6_readWord_15 : decode cX6_readWord 15 = .ok (.aload_n 0, 1) := by decide +kernel
theorem dX6_readWord_16 : decode cX6_readWord 16 = .ok (.iload_n 1, 1) := by decide +kernel
theorem dX6_readWord_17 : decode cX6_readWord 17 = .ok (.iload_n 2, 1) := by decide +kernel
theorem dX6_readWord_18 : decode cX6_readWord 18 = .ok (.iconst 0, 1) := by decide +kernel
theorem dX6_readWord_19 : decode cX6_readWord 19 = .ok (.invokevirtual 115, 3) := by decide +kernel
theorem dX6_readWord_22 : decode cX6_readWord 22 = .ok (.invokevirtual 119, 3) := by decide +kernel
theorem dX6_readWord_25 : decode cX6_readWord 25 = .ok (.istore_n 3, 1) := by decide +kernel
theorem dX6_readWord_26 : decode cX6_readWord 26 = .ok (.iload_n 3, 1) := by decide +kernel
theorem dX6_readWord_27 : decode cX6_readWord 27 = .ok (.ifCond .ge 8, 3) := by decide +kernel
theorem dX6_readWord_30 : decode cX6_readWord 30 = .ok (.aload_n 0, 1) := by decide +kernel
theorem dX6_readWord_31 : decode cX6_readWord 31 = .ok (.iconst 4, 1) := by decide +kernel
theorem dX6_readWord_32 : decode cX6_readWord 32 = .ok (.invokevirtual 112, 3) := by decide +kernel
theorem dX6_readWord_35 : decode cX6_readWord 35 = .ok (.iload_n 3, 1) := by decide +kernel
theorem dX6_readWord_36 : decode cX6_readWord 36 = .ok (.ireturn, 1) := by decide +kernel
set_option maxRecDepth 20000 in
theorem ggX6_writeWord_X6_stop : GoodIn wsX6_writeWord wsX6_stop := goodIn_ca (goodIn_r _ [6, 7, 8, 9, 91, 92, 93, 94, 95, 96, 97, 98, 99] (by decide +kernel) (by decide +kernel)) (goodIn_sub (fun _ h => List.mem_cons_of_mem _ (List.mem_append_right _ h)) (by decide +kernel))
set_option maxRecDepth 20000 in
theorem gX6_writeWord_X6_stop : GoodIn wsX6_writeWord (wsV RX6 112 RX6 yX6_stop wsX6_stop) := goodIn_app (goodIn_of _ (by decide +kernel)) ggX6_writeWord_X6_stop
set_option maxRecDepth 20000 in
theorem ggX6_writeWord_X6_place : GoodIn wsX6_writeWord wsX6_place := goodIn_ca (goodIn_r _ [13, 1, 14, 15, 16, 17, 18, 19, 20, 21, 22, 23, 24, 25, 2, 3, 4, 5, 6, 7, 8, 9, 91, 92, 93, 94, 95, 96, 97, 98, 99, 100, 101, 102, 103, 104, 105, 106, 107, 108] (by decide +kernel) (by decide +kernel)) (goodIn_sub (fun _ h => List.mem_cons_of_mem _ (List.mem_append_right _ h)) (by decide +kernel))
set_option maxRecDepth 20000 in
theorem gX6_writeWord_X6_place : GoodIn wsX6_writeWord (wsV RX6 115 RX6 yX6_place wsX6_place) := goodIn_app (goodIn_of _ (by decide +kernel)) ggX6_writeWord_X6_place
set_option maxRecDepth 20000 in
theorem ggX6_writeWord_X0_write : GoodIn wsX6_writeWord wsX0_write := goodIn_r _ [30, 31, 32, 33, 34, 35, 36, 37, 38, 39, 40, 41, 42, 43, 44, 45, 46, 47, 48, 49, 50, 51, 52, 53, 54, 55, 56, 57, 58, 59, 60, 61, 62, 63, 64, 65, 66, 67, 68, 69, 70, 71, 72, 73, 74, 75, 76, 77, 78, 79, 80, 81, 82, 83, 84, 85, 86, 87, 88, 89, 90, 100, 101, 102, 103, 104, 105, 106, 107, 108, 109, 110, 111, 112, 113, 114, 115, 116, 117, 118, 119, 120, 121, 122, 123, 124, 125, 126, 127, 128, 129, 130] (by decide +kernel) (by decide +kernel)
set_option maxRecDepth 20000 in
theorem gX6_writeWord_X0_write : GoodIn wsX6_writeWord (wsV RX6 123 RX0 yX0_write wsX0_write) := goodIn_app (goodIn_of _ (by decide +kernel)) ggX6_writeWord_X0_write
theorem dX6_writeWord_0 : decode cX6_writeWord 0 = .ok (.iload_n 2, 1) := by decide +kernel
theorem dX6_writeWord_1 : decode cX6_writeWord 1 = .ok (.iconst 1, 1) := by decide +kernel
theorem dX6_writeWord_2 : decode cX6_writeWord 2 = .ok (.iand, 1) := by decide +kernel
theorem dX6_writeWord_3 : decode cX6_writeWord 3 = .ok (.ifCond .eq 8, 3) := by decide +kernel
theorem dX6_writeWord_6 : decode cX6_writeWord 6 = .ok (.aload_n 0, 1) := by decide +kernel
theorem dX6_writeWord_7 : decode cX6_writeWord 7 = .ok (.iconst 4, 1) := by decide +kernel
theorem dX6_writeWord_8 : decode cX6_writeWord 8 = .ok (.invokevirtual 112, 3) := by decide +kernel
theorem dX6_writeWord_11 : decode cX6_writeWord 11 = .ok (.aload_n 0, 1) := by decide +kernel
theorem dX6_writeWord_12 : decode cX6_writeWord 12 = .ok (.getfield 33, 3) := by decide +kernel
theorem dX6_writeWord_15 : decode cX6_writeWord 15 = .ok (.aload_n 0, 1) := by decide +kernel
theorem dX6_writeWord_16 : decode cX6_writeWord 16 = .ok (.iload_n 1, 1) := by decide +kernel
theorem dX6_writeWord_17 : decode cX6_writeWord 17 = .ok (.iload_n 2, 1) := by decide +kernel
theorem dX6_writeWord_18 : decode cX6_writeWord 18 = .ok (.iconst 1, 1) := by decide +kernel
theorem dX6_writeWord_19 : decode cX6_writeWord 19 = .ok (.invokevirtual 115, 3) := by decide +kernel
theorem dX6_writeWord_22 : decode cX6_writeWord 22 = .ok (.iload_n 3, 1) := by decide +kernel
theorem dX6_writeWord_23 : decode cX6_writeWord 23 = .ok (.invokevirtual 123, 3) := by decide +kernel
theorem dX6_writeWord_26 : decode cX6_writeWord 26 = .ok (.ifCond .ne 8, 3) := by decide +kernel
theorem dX6_writeWord_29 : decode cX6_writeWord 29 = .ok (.aload_n 0, 1) := by decide +kernel
theorem dX6_writeWord_30 : decode cX6_writeWord 30 = .ok (.iconst 4, 1) := by decide +kernel
theorem dX6_writeWord_31 : decode cX6_writeWord 31 = .ok (.invokevirtual 112, 3) := by decide +kernel
theorem dX6_writeWord_34 : decode cX6_writeWord 34 = .ok (.return_, 1) := by decide +kernel
set_option maxRecDepth 20000 in
theorem ggX6_place_X4_locate : GoodIn wsX6_place wsX4_locate := goodIn_r _ [7, 8, 9, 10, 11, 12, 13, 37, 38, 39] (by decide +kernel) (by decide +kernel)
set_option maxRecDepth 20000 in
theorem gX6_place_X4_locate : GoodIn wsX6_place (wsV RX6 136 RX4 yX4_locate wsX4_locate) := goodIn_app (goodIn_of _ (by decide +kernel)) ggX6_place_X4_locate
set_option maxRecDepth 20000 in
theorem ggX6_place_X6_stop : GoodIn wsX6_place wsX6_stop := goodIn_ca (goodIn_r _ [18, 19, 20, 21, 22, 23, 24, 25, 26, 27, 28, 29, 30] (by decide +kernel) (by decide +kernel)) (goodIn_sub (fun _ h => List.mem_cons_of_mem _ (List.mem_append_right _ h)) (by decide +kernel))
set_option maxRecDepth 20000 in
theorem gX6_place_X6_stop : GoodIn wsX6_place (wsV RX6 112 RX6 yX6_stop wsX6_stop) := goodIn_app (goodIn_of _ (by decide +kernel)) ggX6_place_X6_stop
theorem dX6_place_0 : decode cX6_place 0 = .ok (.aload_n 0, 1) := by decide +kernel
theorem dX6_place_1 : decode cX6_place 1 = .ok (.getfield 33, 3) := by decide +kernel
theorem dX6_place_4 : decode cX6_place 4 = .ok (.getfield 132, 3) := by decide +kernel
theorem dX6_place_7 : decode cX6_place 7 = .ok (.iload_n 1, 1) := by decide +kernel
theorem dX6_place_8 : decode cX6_place 8 = .ok (.iload_n 2, 1) := by decide +kernel
theorem dX6_place_9 : decode cX6_place 9 = .ok (.iload_n 3, 1) := by decide +kernel
theorem dX6_place_10 : decode cX6_place 10 = .ok (.invokevirtual 136, 3) := by decide +kernel
theorem dX6_place_13 : decode cX6_place 13 = .ok (.istore 4, 2) := by decide +kernel
theorem dX6_place_15 : decode cX6_place 15 = .ok (.iload 4, 2) := by decide +kernel
theorem dX6_place_17 : decode cX6_place 17 = .ok (.ifCond .ge 10, 3) := by decide +kernel
theorem dX6_place_20 : decode cX6_place 20 = .ok (.aload_n 0, 1) := by decide +kernel
theorem dX6_place_21 : decode cX6_place 21 = .ok (.sipush 168, 3) := by decide +kernel
theorem dX6_place_24 : decode cX6_place 24 = .ok (.invokevirtual 112, 3) := by decide +kernel
theorem dX6_place_27 : decode cX6_place 27 = .ok (.iload 4, 2) := by decide +kernel
theorem dX6_place_29 : decode cX6_place 29 = .ok (.ireturn, 1) := by decide +kernel
set_option maxRecDepth 20000 in
theorem ggX6_push_X6_mode : GoodIn wsX6_push wsX6_mode := goodIn_r _ [5, 6, 7, 107, 108, 109, 110, 111, 112, 113, 114, 115, 116, 117] (by decide +kernel) (by decide +kernel)
set_option maxRecDepth 20000 in
theorem gX6_push_X6_mode : GoodIn wsX6_push (wsV RX6 52 RX6 yX6_mode wsX6_mode) := goodIn_app (goodIn_of _ (by decide +kernel)) ggX6_push_X6_mode
set_option maxRecDepth 20000 in
theorem ggX6_push_X6_fall : GoodIn wsX6_push wsX6_fall := goodIn_r _ [11, 12, 13, 107, 108, 109, 110, 111, 112, 113, 114, 115] (by decide +kernel) (by decide +kernel)
set_option maxRecDepth 20000 in
theorem gX6_push_X6_fall : GoodIn wsX6_push (wsV RX6 141 RX6 yX6_fall wsX6_fall) := goodIn_app (goodIn_of _ (by decide +kernel)) ggX6_push_X6_fall
set_option maxRecDepth 20000 in
theorem ggX6_push_X6_writeWord : GoodIn wsX6_push wsX6_writeWord := goodIn_ca (goodIn_r _ [17, 18, 19, 20, 21, 4, 22, 23, 24, 25, 26, 27, 28, 29, 30, 31, 32, 33, 34, 35, 36, 37, 38, 39, 40, 41, 42, 43, 44, 45, 46, 47, 48, 49, 50, 51, 52, 53, 54, 55, 56, 57, 58, 59, 60, 61, 62, 63, 64, 65, 66, 67, 68, 69, 70, 71, 72, 73, 74, 75, 76, 77, 78, 79, 80, 81, 82, 83, 84, 85, 86, 87, 88, 89, 90, 91, 92, 93, 94, 95, 96, 97, 98, 99, 100, 101, 102, 103, 104, 105, 106, 107, 108, 109, 110, 111, 112, 113, 114, 115, 118, 119, 120, 121, 122, 123, 124, 125, 126, 127, 128, 129, 130, 131, 132, 133, 134, 135, 136, 137, 138, 139, 140, 141, 142, 143, 144, 145, 146, 116, 117] (by decide +kernel) (by decide +kernel)) (goodIn_sub (fun _ h => List.mem_cons_of_mem _ (List.mem_append_right _ h)) (by decide +kernel))
set_option maxRecDepth 20000 in
theorem gX6_push_X6_writeWord : GoodIn wsX6_push (wsV RX6 144 RX6 yX6_writeWord wsX6_writeWord) := goodIn_app (goodIn_of _ (by decide +kernel)) ggX6_push_X6_writeWord
theorem dX6_push_0 : decode cX6_push 0 = .ok (.aload_n 0, 1) := by decide +kernel
theorem dX6_push_1 : decode cX6_push 1 = .ok (.aload_n 0, 1) := by decide +kernel
theorem dX6_push_2 : decode cX6_push 2 = .ok (.invokevirtual 52, 3) := by decide +kernel
theorem dX6_push_5 : decode cX6_push 5 = .ok (.aload_n 0, 1) := by decide +kernel
theorem dX6_push_6 : decode cX6_push 6 = .ok (.bipush 6, 2) := by decide +kernel
theorem dX6_push_8 : decode cX6_push 8 = .ok (.iconst 2, 1) := by decide +kernel
theorem dX6_push_9 : decode cX6_push 9 = .ok (.invokevirtual 141, 3) := by decide +kernel
theorem dX6_push_12 : decode cX6_push 12 = .ok (.iload_n 1, 1) := by decide +kernel
theorem dX6_push_13 : decode cX6_push 13 = .ok (.invokevirtual 144, 3) := by decide +kernel
theorem dX6_push_16 : decode cX6_push 16 = .ok (.return_, 1) := by decide +kernel
theorem dX6_fall_0 : decode cX6_fall 0 = .ok (.aload_n 0, 1) := by decide +kernel
theorem dX6_fall_1 : decode cX6_fall 1 = .ok (.getfield 7, 3) := by decide +kernel
theorem dX6_fall_4 : decode cX6_fall 4 = .ok (.iload_n 1, 1) := by decide +kernel
theorem dX6_fall_5 : decode cX6_fall 5 = .ok (.aload_n 0, 1) := by decide +kernel
theorem dX6_fall_6 : decode cX6_fall 6 = .ok (.getfield 7, 3) := by decide +kernel
theorem dX6_fall_9 : decode cX6_fall 9 = .ok (.iload_n 1, 1) := by decide +kernel
theorem dX6_fall_10 : decode cX6_fall 10 = .ok (.iaload, 1) := by decide +kernel
theorem dX6_fall_11 : decode cX6_fall 11 = .ok (.iload_n 2, 1) := by decide +kernel
theorem dX6_fall_12 : decode cX6_fall 12 = .ok (.isub, 1) := by decide +kernel
theorem dX6_fall_13 : decode cX6_fall 13 = .ok (.ldc 60, 2) := by decide +kernel
theorem dX6_fall_15 : decode cX6_fall 15 = .ok (.iand, 1) := by decide +kernel
theorem dX6_fall_16 : decode cX6_fall 16 = .ok (.iastore, 1) := by decide +kernel
theorem dX6_fall_17 : decode cX6_fall 17 = .ok (.aload_n 0, 1) := by decide +kernel
theorem dX6_fall_18 : decode cX6_fall 18 = .ok (.getfield 7, 3) := by decide +kernel
theorem dX6_fall_21 : decode cX6_fall 21 = .ok (.iload_n 1, 1) := by decide +kernel
theorem dX6_fall_22 : decode cX6_fall 22 = .ok (.iaload, 1) := by decide +kernel
theorem dX6_fall_23 : decode cX6_fall 23 = .ok (.ireturn, 1) := by decide +kernel
set_option maxRecDepth 20000 in
theorem ggX8_run_X6_perform : GoodIn wsX8_run wsX6_perform := goodIn_ca (goodIn_r _ [12, 13, 14, 15, 16, 17, 18, 19, 20, 21, 22, 23, 24, 25, 26, 27, 28, 29, 30, 11, 31, 32, 33, 34, 35, 36, 37, 38, 39, 40, 41, 42, 43, 44, 45, 46, 47, 48, 49, 50, 51, 52, 53, 54, 55, 56, 57, 58, 59, 60, 61, 62, 63, 64, 65, 66, 67, 68, 69, 70, 71, 72, 73, 74, 75, 76, 77, 78, 79, 80, 81, 82, 83, 84, 85, 86, 87, 88, 89, 90, 91, 92, 93, 94, 95, 96, 97, 98, 99, 100, 101, 102, 103, 104, 105, 106, 107, 108, 109, 110, 111, 112, 113, 114, 115, 116, 117, 118, 119, 120, 121, 122, 123, 124, 125, 126, 127, 128, 129, 130, 131, 132, 133, 134, 135, 136, 137, 138, 139, 140, 141, 142, 143, 144, 145, 146, 147, 148, 149, 150, 151, 152, 155, 156, 157, 158, 159, 160, 161, 162, 163, 164, 165, 166, 167, 206, 207, 208, 209, 210, 211, 212, 213, 214, 215, 216, 217, 218, 219, 220, 221, 222, 223, 224, 225, 226, 227, 228, 229, 230, 231, 232, 233, 234, 235, 236, 237, 238, 239, 240, 241, 242, 243, 244, 245] (by decide +kernel) (by decide +kernel)) (goodIn_sub (fun _ h => List.mem_cons_of_mem _ (List.mem_append_right _ h)) (by decide +kernel))
set_option maxRecDepth 20000 in
theorem gX8_run_X6_perform : GoodIn wsX8_run (wsV RX8 73 RX6 yX6_perform wsX6_perform) := goodIn_app (goodIn_of _ (by decide +kernel)) ggX8_run_X6_perform
set_option maxRecDepth 20000 in
theorem ggX8_run_X0_goOn : GoodIn wsX8_run wsX0_goOn := goodIn_r _ [171, 24, 26, 71, 172, 173, 174, 115, 175, 118, 119, 176, 177, 117, 120, 81, 153, 110, 111, 94, 95, 96, 97, 98, 178, 179, 180, 126, 181, 128, 129, 131, 83, 182, 183, 184, 185, 186, 187, 188, 130, 189, 190, 191, 154, 135, 136, 215, 216, 217, 218, 219, 220, 221, 222, 223, 224, 225, 226, 227, 228, 229, 230, 231, 232, 233, 234, 235, 236, 237, 243, 244, 245] (by decide +kernel) (by decide +kernel)
set_option maxRecDepth 20000 in
theorem gX8_run_X0_goOn : GoodIn wsX8_run (wsV RX8 76 RX0 yX0_goOn wsX0_goOn) := goodIn_app (goodIn_of _ (by decide +kernel)) ggX8_run_X0_goOn
set_option maxRecDepth 20000 in
theorem ggX8_run_X6_lookForInterrupt : GoodIn wsX8_run wsX6_lookForInterrupt := goodIn_ca (goodIn_r _ [195, 32, 33, 14, 196, 197, 133, 198, 199, 200, 201, 202, 122, 203, 15, 42, 66, 81, 83, 206, 207, 208, 209, 210, 211, 212, 213, 214, 238, 239, 215, 216, 217, 218, 219, 220, 228, 229, 230, 231, 232, 233, 234, 235, 236, 237, 243, 244, 245, 221, 222, 223, 224, 225, 226, 227, 240, 241, 242] (by decide +kernel) (by decide +kernel)) (goodIn_sub (fun _ h => List.mem_cons_of_mem _ (List.mem_append_right _ h)) (by decide +kernel))
set_option maxRecDepth 20000 in
theorem gX8_run_X6_lookForInterrupt : GoodIn wsX8_run (wsV RX8 79 RX6 yX6_lookForInterrupt wsX6_lookForInterrupt) := goodIn_app (goodIn_of _ (by decide +kernel)) ggX8_run_X6_lookForInterrupt
theorem dX8_run_0 : decode cX8_run 0 = .ok (.iload_n 1, 1) := by decide +kernel
theorem dX8_run_1 : decode cX8_run 1 = .ok (.iconst 1, 1) := by decide +kernel
theorem dX8_run_2 : decode cX8_run 2 = .ok (.if_icmp .lt 9, 3) := by decide +kernel
theorem dX8_run_5 : decode cX8_run 5 = .ok (.iload_n 1, 1) := by decide +kernel
theorem dX8_run_6 : decode cX8_run 6 = .ok (.bipush 40, 2) := by decide +kernel
theorem dX8_run_8 : decode cX8_run 8 = .ok (.if_icmp .le 11, 3) := by decide +kernel
theorem dX8_run_11 : decode cX8_run 11 = .ok (.new 32, 3) := by decide +kernel
theorem dX8_run_14 : decode cX8_run 14 = .ok (.dup, 1) := by decide +kernel
theorem dX8_run_15 : decode cX8_run 15 = .ok (.invokespecial 34, 3) := by decide +kernel
theorem dX8_run_18 : decode cX8_run 18 = .ok (.athrow, 1) := by decide +kernel
theorem dX8_run_19 : decode cX8_run 19 = .ok (.aload_n 0, 1) := by decide +kernel
theorem dX8_run_20 : decode cX8_run 20 = .ok (.getfield 21, 3) := by decide +kernel
theorem dX8_run_23 : decode cX8_run 23 = .ok (.getfield 63, 3) := by decide +kernel
theorem dX8_run_26 : decode cX8_run 26 = .ok (.ifCond .eq 11, 3) := by decide +kernel
theorem dX8_run_29 : decode cX8_run 29 = .ok (.new 70, 3) := by decide +kernel
theorem dX8_run_32 : decode cX8_run 32 = .ok (.dup, 1) := by decide +kernel
theorem dX8_run_33 : decode cX8_run 33 = .ok (.invokespecial 72, 3) := by decide +kernel
theorem dX8_run_36 : decode cX8_run 36 = .ok (.athrow, 1) := by decide +kernel
theorem dX8_run_37 : decode cX8_run 37 = .ok (.iconst 1, 1) := by decide +kernel
theorem dX8_run_38 : decode cX8_run 38 = .ok (.istore_n 2, 1) := by decide +kernel
theorem dX8_run_39 : decode cX8_run 39 = .ok (.iload_n 2, 1) := by decide +kernel
theorem dX8_run_40 : decode cX8_run 40 = .ok (.iload_n 1, 1) := by decide +kernel
theorem dX8_run_41 : decode cX8_run 41 = .ok (.if_icmp .gt 52, 3) := by decide +kernel
theorem dX8_run_44 : decode cX8_run 44 = .ok (.aload_n 0, 1) := by decide +kernel
theorem dX8_run_45 : decode cX8_run 45 = .ok (.getfield 21, 3) := by decide +kernel
theorem dX8_run_48 : decode cX8_run 48 = .ok (.invokevirtual 73, 3) := by decide +kernel
theorem dX8_run_51 : decode cX8_run 51 = .ok (.aload_n 0, 1) := by decide +kernel
theorem dX8_run_52 : decode cX8_run 52 = .ok (.getfield 21, 3) := by decide +kernel
theorem dX8_run_55 : decode cX8_run 55 = .ok (.getfield 63, 3) := by decide +kernel
theorem dX8_run_58 : decode cX8_run 58 = .ok (.ifCond .ne 17, 3) := by decide +kernel
theorem dX8_run_61 : decode cX8_run 61 = .ok (.aload_n 0, 1) := by decide +kernel
theorem dX8_run_62 : decode cX8_run 62 = .ok (.getfield 10, 3) := by decide +kernel
theorem dX8_run_65 : decode cX8_run 65 = .ok (.invokevirtual 76, 3) := by decide +kernel
theorem dX8_run_68 : decode cX8_run 68 = .ok (.aload_n 0, 1) := by decide +kernel
theorem dX8_run_69 : decode cX8_run 69 = .ok (.getfield 21, 3) := by decide +kernel
theorem dX8_run_72 : decode cX8_run 72 = .ok (.invokevirtual 79, 3) := by decide +kernel
theorem dX8_run_75 : decode cX8_run 75 = .ok (.aload_n 0, 1) := by decide +kernel
theorem dX8_run_76 : decode cX8_run 76 = .ok (.getfield 21, 3) := by decide +kernel
theorem dX8_run_79 : decode cX8_run 79 = .ok (.getfield 63, 3) := by decide +kernel
theorem dX8_run_82 : decode cX8_run 82 = .ok (.ifCond .eq 5, 3) := by decide +kernel
theorem dX8_run_85 : decode cX8_run 85 = .ok (.iload_n 2, 1) := by decide +kernel
theorem dX8_run_86 : decode cX8_run 86 = .ok (.ireturn, 1) := by decide +kernel
theorem dX8_run_87 : decode cX8_run 87 = .ok (.iinc 2 1, 3) := by decide +kernel
theorem dX8_run_90 : decode cX8_run 90 = .ok (.goto (-51), 3) := by decide +kernel
theorem dX8_run_93 : decode cX8_run 93 = .ok (.iload_n 1, 1) := by decide +kernel
theorem dX8_run_94 : decode cX8_run 94 = .ok (.ireturn, 1) := by decide +kernel
abbrev vwCl : List vw_C := [(RX0, TX0, 6), (RX1, TX1, 10), (RX2, TX2, 3), (RX4, TX4, 3), (RX5, TX5, 7), (RX6, TX6, 9), (RX7, TX7, 2), (RX8, TX8, 2), (RX9, TX9, 28)]
end
section
/-! THE CLAIM OUT OF ONE WALK OF THE LAW'S BODY. Your part is whole_start (and what it stands on); all else here is the same for every law, but numbers. -/
def R_law : String := "UnibusMachineLaw"
def lw_P (b : Addr) (xs : List Int32) (args : Array Value) (s : State) : Prop := args = #[.ref b] ∧ s.IntsAt b xs ∧ xs.length ≤ 256 ∧ (Jvm.Cond.and given_1 narrow_1).before args s = true
def lw_Q (_ : Array Value) (s : State) (o : Outcome) (t : State) : Prop := o = .returned (some (.int 1)) ∧ Framed s o t [] 167 2606
def lw_Z (below : List Frame) (a : Array Value) (s : State) : State → Prop := fun t => ∃ o, t.status = .running ∧ Ended t below o ∧ lw_Q a s o t
/-- the law's own end, with 1 on the stack, nothing written that was there before, its room as the claim has it -/
theorem lw_ret {p : Program} {l : Launch} {e : Env} {s : State} {m : MethodId} {below : List Frame} {meth : Method} {c : Code} {b : Nat} (hx : p.tables.exec = Jvm.exec) (hb : c.code = code) (hr : meth.sig.returnType = ret) (hlocks : meth.locks = false) {pc : Nat} {H : Heap} {ls : Array Slot} (hdg : decode code pc = .ok (.ireturn, 1)) : W p l e room_1 s m #[Value.ref b] below meth c H [] 167 2606 (lw_Z below #[Value.ref b] s) (F0 m pc ls [.int 1]) := by
  intro T hT X
  obtain ⟨fs, hret, hrun, hended, hW, hframe⟩ := X.leave (v := some (.int 1)) (hlocks := hlocks) (fun h => by rw [hr] at h; cases h)
  have hmeth' : T.vm.method? m = some meth := X.method'
  refine ⟨T.setFrames fs, ?_, .returned (some (.int 1)), hrun, hended, rfl, ⟨_, rfl⟩, hW, hframe⟩
  jvm_step X.here [X.here.top, hx, hb, hdg, hmeth', hr, ret, narrow_b1]
  (try refine ⟨rfl, ?_⟩); (try refine ⟨rfl, ?_⟩)
  first | (intro acts; rw [hret _ acts rfl rfl rfl]) | rw [hret _ _ rfl rfl rfl]
  exact Steps.refl _
/-- what holds at the law's entry: the machine, the code, the tables' words (any of lw_tbl by 'hts w (by decide +kernel)'), the script of L ints xs at the cell b, what the Statement gives of the start (any of its parts by flat_of_before) -/
def lw_At (p : Program) (s : State) (m : MethodId) (meth : Method) (c : Code) (b L : Nat) (xs : Nat → Int32) : Prop :=
  p.tables.exec = Jvm.exec ∧ c.code = code ∧ meth.sig.returnType = ret ∧ c.maxLocals = 7 ∧ s.vm.findClass R_law = some m.cls ∧ (∀ w ∈ lw_tbl, w.before #[Value.ref b] s = true) ∧ va_X b L xs s s.heap ∧ b < s.heap.size ∧ meth.locks = false ∧ (Jvm.Cond.and given_1 narrow_1).before #[Value.ref b] s = true
-- plain facts of ints
theorem fz_lt {a b : Int32} : a < b ↔ a.toInt < b.toInt := Int32.lt_iff_toInt_lt
theorem fz_le {a b : Int32} : a ≤ b ↔ a.toInt ≤ b.toInt := Int32.le_iff_toInt_le
theorem fz_eq {a b : Int32} : a = b ↔ a.toInt = b.toInt := Int32.toInt_inj.symm
theorem fz_nlt {a b : Int32} : ¬ a < b ↔ b.toInt ≤ a.toInt := by rw [fz_lt]; omega
theorem fz_nle {a b : Int32} : ¬ a ≤ b ↔ b.toInt < a.toInt := by rw [fz_le]; omega
theorem fz_ne {a b : Int32} : ¬ a = b ↔ a.toInt ≠ b.toInt := by rw [fz_eq]
theorem fz_rng (a : Int32) : -2147483648 ≤ a.toInt ∧ a.toInt ≤ 2147483647 := by
  have h1 := Int32.le_toInt a
  have h2 := Int32.toInt_lt a
  omega
theorem fz_bm (x : Int) (h1 : -2147483648 ≤ x) (h2 : x ≤ 2147483647) : x.bmod (2 ^ 32) = x := by
  rw [Int.bmod_def]
  have h : ((2 ^ 32 : Nat) : Int) = 4294967296 := by decide
  rw [h]
  split <;> omega
theorem fz_sub (a b : Int32) (h1 : -2147483648 ≤ a.toInt - b.toInt) (h2 : a.toInt - b.toInt ≤ 2147483647) : (a - b).toInt = a.toInt - b.toInt := by
  rw [Int32.toInt_sub, fz_bm _ h1 h2]
theorem fz_add (a b : Int32) (h1 : -2147483648 ≤ a.toInt + b.toInt) (h2 : a.toInt + b.toInt ≤ 2147483647) : (a + b).toInt = a.toInt + b.toInt := by
  rw [Int32.toInt_add, fz_bm _ h1 h2]
theorem fz_mul (a b : Int32) (h1 : -2147483648 ≤ a.toInt * b.toInt) (h2 : a.toInt * b.toInt ≤ 2147483647) : (a * b).toInt = a.toInt * b.toInt := by
  rw [Int32.toInt_mul, fz_bm _ h1 h2]
theorem fz_16 (a b : Int32) (h1 : 0 ≤ a.toInt) (h2 : a.toInt < 8) (h3 : 0 ≤ b.toInt) (h4 : b.toInt < 16) : (16 * a + b).toInt = 16 * a.toInt + b.toInt := by
  have k : (16 : Int32).toInt = 16 := by decide
  have e1 : (16 * a).toInt = 16 * a.toInt := by rw [fz_mul _ _ (by rw [k]; omega) (by rw [k]; omega), k]
  rw [fz_add _ _ (by rw [e1]; omega) (by rw [e1]; omega), e1]
theorem fz_div2 (a : Int32) (h : 0 ≤ a.toInt) : (a / 2).toInt = a.toInt / 2 := by
  have k : (2 : Int32).toInt = 2 := by decide
  have hr := fz_rng a
  rw [Int32.toInt_div, k, Int.tdiv_eq_ediv_of_nonneg h, fz_bm _ (by omega) (by omega)]
theorem fz_rem2 (a : Int32) (h : 0 ≤ a.toInt) : (a - a / 2 * 2).toInt = a.toInt % 2 := by
  have k : (2 : Int32).toInt = 2 := by decide
  have e := fz_div2 a h
  have hr := fz_rng a
  have e2 : (a / 2 * 2).toInt = a.toInt / 2 * 2 := by rw [fz_mul _ _ (by rw [k, e]; omega) (by rw [k, e]; omega), k, e]
  rw [fz_sub _ _ (by rw [e2]; omega) (by rw [e2]; omega), e2]
  omega
theorem fz_nat (a : Int32) (h : 0 ≤ a.toInt) : ∃ n : Nat, n < 2 ^ 31 ∧ a = nI n ∧ a.toInt = n := by
  have hr := fz_rng a
  refine ⟨a.toInt.toNat, by omega, ?_, by omega⟩
  rw [fz_eq, nI_toInt (by omega)]
  omega
theorem fz_and1 (a : Int32) : (a &&& 1).toInt = a.toInt % 2 := by
  have h1 : (a &&& 1).toInt = (a.toBitVec &&& 1#32).toInt := rfl
  rw [h1, BitVec.toInt_eq_toNat_bmod, BitVec.toNat_and]
  have h2 : a.toInt = a.toBitVec.toInt := rfl
  rw [h2, BitVec.toInt_eq_toNat_bmod]
  have h3 : (1#32).toNat = 1 := rfl
  rw [h3, Nat.and_one_is_mod]
  have h4 := a.toBitVec.isLt
  rw [fz_bm _ (by omega) (by omega), Int.bmod_def]
  have h : ((2 ^ 32 : Nat) : Int) = 4294967296 := by decide
  rw [h]
  split <;> omega
theorem fz_shr1 (a : Int32) (h : 0 ≤ a.toInt) : (a >>> (1 &&& 31)).toInt = a.toInt / 2 := by
  have e : ((1 : Int32) &&& 31) = 1 := by decide
  rw [e]
  have h1 : (a >>> (1 : Int32)).toInt = (a.toBitVec.sshiftRight 1).toInt := rfl
  rw [h1, BitVec.toInt_sshiftRight]
  show a.toInt >>> 1 = _
  rw [Int.shiftRight_eq_div_pow]
  rfl
theorem fz_sw (x : Int32) : x = 0 ∨ x = 1 ∨ x = 2 ∨ x = 3 ∨ x = 4 ∨ x = 5 ∨ x = 6 ∨ x = 7 ∨ x = 8 ∨ x = 9 ∨ x = 10 ∨ x = 11 ∨ (x.toInt < 0 ∨ 11 < x.toInt) := by
  simp only [fz_eq, show (0 : Int32).toInt = 0 from by decide, show (1 : Int32).toInt = 1 from by decide, show (2 : Int32).toInt = 2 from by decide, show (3 : Int32).toInt = 3 from by decide, show (4 : Int32).toInt = 4 from by decide, show (5 : Int32).toInt = 5 from by decide, show (6 : Int32).toInt = 6 from by decide, show (7 : Int32).toInt = 7 from by decide, show (8 : Int32).toInt = 8 from by decide, show (9 : Int32).toInt = 9 from by decide, show (10 : Int32).toInt = 10 from by decide, show (11 : Int32).toInt = 11 from by decide]
  omega
theorem fz_flags (l : Launch) (h : l.flags = flags0) : l.stackTraces = false := by
  unfold Launch.stackTraces
  rw [h]
  decide
/-- what a device register of a new object answers -/
def dv (z : Int) : Int32 := if z = 57428 ∨ z = 57440 then 128 else if (57344 ≤ z ∧ z ≤ 57408 ∧ z % 2 = 0) ∨ z = 57424 ∨ z = 57426 ∨ z = 57430 ∨ z = 57442 ∨ z = 57444 ∨ z = 57446 ∨ z = 57470 then 0 else -1
theorem dv_pos {z : Int} (h : z = 57428 ∨ z = 57440) : (128 : Int32) = dv z := by unfold dv; rw [if_pos h]
theorem dv_zero {z : Int} (h : ¬ (z = 57428 ∨ z = 57440)) (h2 : (57344 ≤ z ∧ z ≤ 57408 ∧ z % 2 = 0) ∨ z = 57424 ∨ z = 57426 ∨ z = 57430 ∨ z = 57442 ∨ z = 57444 ∨ z = 57446 ∨ z = 57470) : (0 : Int32) = dv z := by unfold dv; rw [if_neg h, if_pos h2]
theorem dv_neg {z : Int} (h : ¬ (z = 57428 ∨ z = 57440)) (h2 : ¬ ((57344 ≤ z ∧ z ≤ 57408 ∧ z % 2 = 0) ∨ z = 57424 ∨ z = 57426 ∨ z = 57430 ∨ z = 57442 ∨ z = 57444 ∨ z = 57446 ∨ z = 57470)) : (-1 : Int32) = dv z := by unfold dv; rw [if_neg h, if_neg h2]
abbrev rdy : Nat → Int32 := upd (upd (fun _ => 0) (0 : Int32).toNatClampNeg (vp_nar .boolean 1)) (2 : Int32).toNatClampNeg (vp_nar .boolean 1)
theorem fz_mask (a : Int32) (h : 0 ≤ a.toInt) (h2 : a.toInt < 65536) : (a &&& 65535).toInt = a.toInt := by
  have h1 : (a &&& 65535).toInt = (a.toBitVec &&& 65535#32).toInt := rfl
  have h3 : a.toInt = a.toBitVec.toInt := rfl
  have h4 := a.toBitVec.isLt
  have h5 : a.toBitVec.toNat < 65536 := by
    rw [h3, BitVec.toInt_eq_toNat_bmod, Int.bmod_def] at h h2
    have k : ((2 ^ 32 : Nat) : Int) = 4294967296 := by decide
    rw [k] at h h2
    split at h <;> omega
  rw [h1, h3, BitVec.toInt_eq_toNat_bmod, BitVec.toInt_eq_toNat_bmod, BitVec.toNat_and]
  have h6 : (65535#32).toNat = 2 ^ 16 - 1 := rfl
  rw [h6, Nat.and_two_pow_sub_one_eq_mod, Nat.mod_eq_of_lt h5]
theorem fz_m2 (a : Int32) (h : 2 ≤ a.toInt) (h2 : a.toInt < 65536) : ((a - 2) &&& 65535).toInt = a.toInt - 2 := by
  have k : (2 : Int32).toInt = 2 := by decide
  have e : (a - 2).toInt = a.toInt - 2 := by rw [fz_sub _ _ (by rw [k]; omega) (by rw [k]; omega), k]
  rw [fz_mask _ (by rw [e]; omega) (by rw [e]; omega), e]
theorem fz_nc (x k : Int32) (h : k.toInt < x.toInt) (h0 : 0 ≤ k.toInt) : k.toNatClampNeg ≠ x.toNatClampNeg := by
  show k.toInt.toNat ≠ x.toInt.toNat
  omega
end
section
set_option maxHeartbeats 4000000 in
set_option maxRecDepth 100000 in
theorem c_stop (l : Launch) (dC : Nat → ClassId) (dI : Nat → Nat → Nat) (h0 : Nat) (ar : Nat) (oB : Nat) (oS : Nat) (ve : Int32) (sz : Nat) (hlt : l.stackTraces = false) : vx_Met l yX6_stop wsX6_stop ({ frames := 6, cells := 1, slots := 6, locals := 82 } : Room) (va_Pc [.ref h0, .int 4] (fun U => U.heap.size = sz ∧ va_P (dC, dI) vwCl [(h0, .inr (5, [.ref ar, .ref oB, .ref oS, .int 0, .int 0, .int 0, .int ve, .int 0, .int 0]))] U.heap ∧ va_K (dC, dI) vwCl [] U ∧ va_D (fun _ => True) [(h0, .inr (5, [.ref ar, .ref oB, .ref oS, .int 0, .int 0, .int 0, .int ve, .int 0, .int 0]))] ∧ vx_Zq Bundle.tN "UNASSIGNED_STACK" Bundle.steD (va_A [(h0, .inr (5, [.ref ar, .ref oB, .ref oS, .int 0, .int 0, .int 0, .int ve, .int 0, .int 0]))] sz) U U.heap ∧ vx_Zq Bundle.tN "SUPPRESSED_SENTINEL" Bundle.listD (va_A [(h0, .inr (5, [.ref ar, .ref oB, .ref oS, .int 0, .int 0, .int 0, .int ve, .int 0, .int 0]))] sz) U U.heap ∧ va_Nw (.declares (Bundle.init0 "java/lang/RuntimeException")) U ∧ va_Nw (.declares (Bundle.init0 "java/lang/Exception")) U ∧ va_Nw (.declares (Bundle.init0 Bundle.tN)) U ∧ va_Nw (.castable "java/lang/UnsupportedOperationException" "java/lang/UnsupportedOperationException") U)) (va_Qv (fun (u : Unit) => False) (fun (u : Unit) (t : State) => va_P (dC, dI) vwCl [(h0, .inr (5, [.ref ar, .ref oB, .ref oS, .int 0, .int 0, .int 0, .int ve, .int 0, .int 0]))] t.heap ∧ va_K (dC, dI) vwCl [] t ∧ va_D (va_A [(h0, .inr (5, [.ref ar, .ref oB, .ref oS, .int 0, .int 0, .int 0, .int ve, .int 0, .int 0]))] sz) [(h0, .inr (5, [.ref ar, .ref oB, .ref oS, .int 0, .int 0, .int 0, .int ve, .int 0, .int 0]))]) (va_A [(h0, .inr (5, [.ref ar, .ref oB, .ref oS, .int 0, .int 0, .int 0, .int ve, .int 0, .int 0]))] sz)) (vx_X (fun _ : Unit => True) (fun (E : String) (_ : Unit) (t : State) => E = "java/lang/UnsupportedOperationException" ∧ va_P (dC, dI) vwCl [(h0, .inr (5, [.ref ar, .ref oB, .ref oS, .int 0, .int 0, .int 0, .int 4, .int 0, .int 0]))] t.heap ∧ va_K (dC, dI) vwCl [] t ∧ va_D (va_A [(h0, .inr (5, [.ref ar, .ref oB, .ref oS, .int 0, .int 0, .int 0, .int ve, .int 0, .int 0]))] sz) [(h0, .inr (5, [.ref ar, .ref oB, .ref oS, .int 0, .int 0, .int 0, .int 4, .int 0, .int 0]))] ∧ sz + 1 ≤ t.heap.size) (va_A [(h0, .inr (5, [.ref ar, .ref oB, .ref oS, .int 0, .int 0, .int 0, .int ve, .int 0, .int 0]))] sz)) 1 6 (va_A [(h0, .inr (5, [.ref ar, .ref oB, .ref oS, .int 0, .int 0, .int 0, .int ve, .int 0, .int 0]))] sz) := by
  refine vx_ofW (cc := cX6_stop) (maxL := 2) (ret := none) (by decide) rfl ?_
  intro p e s m args below meth c s₁ B hml htab hv
  obtain ⟨rfl, hsz, hP, hK, hD0, hZU, hZN, hd1, hd2, hd3, hcU⟩ := hv
  have hx := B.exec
  have hb := B.bytes
  have hr := B.returns
  have hts := atoms_spec (ws := wsX6_stop) B.pre
  have hown : s.vm.findClass RX6 = some m.cls := findClass_of_methodNamed B.named
  have hlocks := B.notSynchronized
  have hD := hD0.self (sz := sz)
  generalize hAe : va_A [(h0, .inr (5, [.ref ar, .ref oB, .ref oS, .int 0, .int 0, .int 0, .int ve, .int 0, .int 0]))] sz = A at hD hZU hZN ⊢
  have hA : ∀ q : Nat, s.heap.size ≤ q → A q := fun q h => by rw [← hAe]; exact Or.inr (by omega)
  have hS0 : ∀ G : Heap, s.heap = G → va_S A s.heap G [] := fun G h => by subst h; exact va_S.rf
  generalize hHe : s.heap = H at hP ⊢
  have hS := hS0 H hHe
  have hP : va_P (dC, dI) vwCl [(h0, .inr (5, [.ref ar, .ref oB, .ref oS, .int 0, .int 0, .int 0, .int ve, .int 0, .int 0]))] H := hP
  have hD : va_D A [(h0, .inr (5, [.ref ar, .ref oB, .ref oS, .int 0, .int 0, .int 0, .int ve, .int 0, .int 0]))] := hD
  have hK : va_K (dC, dI) vwCl [] s := hK
  have hl := lv_entry ([.ref h0, .int 4]) (n := 2) (Nat.le_of_ble_eq_true rfl)
  rw [lg_entry_eq]
  generalize (lg_sl ([.ref h0, .int 4]) ++ List.replicate (2 - (lg_sl ([.ref h0, .int 4])).length) Slot.unset).toArray = ls at hl ⊢
  have hl : lv_has ls 2 [(0, .ref h0), (1, .int 4)] := hl
  refine lv_aload_n hx hb dX6_stop_0 rfl (lv_at hl 0 rfl) ?_
  refine lv_iload_n hx hb dX6_stop_1 rfl (lv_at hl 1 rfl) ?_
  refine va_put (D := (dC, dI)) (ci := 5) (v := .int 4) (ty := .int) (C := RX6) (T := TX6) (N := 9) hx hb hts (by decide +kernel) tyX6 tyX6_ok nmX6 hown hK hP hD hS 0 rfl rfl 6 (by decide) (hts (.fieldLink RX6 24 "UnibusMachine$Processor" "vector" "I") (by decide +kernel)) (fun _ h9 => h9) rfl (by decide +kernel) rfl rfl (Nat.le_of_ble_eq_true rfl) dX6_stop_2 (fun H locs hP hD hS => ?_)
  have hP : va_P (dC, dI) vwCl [(h0, .inr (5, [.ref ar, .ref oB, .ref oS, .int 0, .int 0, .int 0, .int 4, .int 0, .int 0]))] H := hP
  have hD : va_D A [(h0, .inr (5, [.ref ar, .ref oB, .ref oS, .int 0, .int 0, .int 0, .int 4, .int 0, .int 0]))] := hD
  exact gr_throw0 (names := ["java/lang/RuntimeException", "java/lang/Exception"]) (cls := "java/lang/UnsupportedOperationException") (ik := 65) (ic := 111) (A := A) hx hb hlt hown (by decide) (by decide) (hts (.classLink RX6 65 "java/lang/UnsupportedOperationException") (by decide +kernel)) (hts (.initialized "java/lang/UnsupportedOperationException") (by decide +kernel)) (vx_hat (fun w h => hts w (List.mem_cons_of_mem _ (List.mem_append_right _ h))) (by decide +kernel) (vx_c (va_Nw.use rfl hcU) (vx_c (va_Nw.use rfl hd1) (vx_c (va_Nw.use rfl hd2) (vx_c (va_Nw.use rfl hd3) vx_n))))) (by decide +kernel) hZU hZN hS (by rw [hml]; exact hl.1) dX6_stop_5 dX6_stop_8 dX6_stop_9 dX6_stop_12 (fun x h => (htab x h).elim) (Nat.le_of_ble_eq_true rfl) (Nat.le_of_ble_eq_true rfl) (Nat.le_of_ble_eq_true rfl) (Nat.le_of_ble_eq_true rfl) hlocks (fun t hal hz hk => ⟨(), trivial, ⟨rfl, hP.kept (fun k q h => hk q.1 (hP k q h).lt), va_K.moved hal hK, hD, by have h9 := hS.1; omega⟩, Nat.le_trans hS.1 (Nat.le_of_succ_le hz), fun q h1 h2 => (hk q (Nat.lt_of_lt_of_le h1 hS.1)).trans (hS.2.1 q h1 h2)⟩) hS.2.2 (Nat.le_of_ble_eq_true rfl) (Nat.le_of_ble_eq_true rfl)
set_option maxHeartbeats 4000000 in
set_option maxRecDepth 100000 in
theorem c_mode (l : Launch) (dC : Nat → ClassId) (dI : Nat → Nat → Nat) (h0 : Nat) (ar : Nat) (oB : Nat) (oS : Nat) (ve : Int32) (sz : Nat) : Met l yX6_mode wsX6_mode ({ frames := 0, cells := 0, slots := 0, locals := 0 } : Room) (va_Pc [.ref h0] (fun U => U.heap.size = sz ∧ va_P (dC, dI) vwCl [(h0, .inr (5, [.ref ar, .ref oB, .ref oS, .int 0, .int 0, .int 0, .int ve, .int 0, .int 0])), (oS, .inr (6, [.int 224, .int (-1)]))] U.heap ∧ va_K (dC, dI) vwCl [] U ∧ va_D (fun _ => True) [(h0, .inr (5, [.ref ar, .ref oB, .ref oS, .int 0, .int 0, .int 0, .int ve, .int 0, .int 0])), (oS, .inr (6, [.int 224, .int (-1)]))])) (va_Qi (fun (r : Int32) (u : Unit) => (0 = r)) (fun (u : Unit) (t : State) => va_P (dC, dI) vwCl [(h0, .inr (5, [.ref ar, .ref oB, .ref oS, .int 0, .int 0, .int 0, .int ve, .int 0, .int 0])), (oS, .inr (6, [.int 224, .int (-1)]))] t.heap ∧ va_K (dC, dI) vwCl [] t ∧ va_D (va_A [(h0, .inr (5, [.ref ar, .ref oB, .ref oS, .int 0, .int 0, .int 0, .int ve, .int 0, .int 0])), (oS, .inr (6, [.int 224, .int (-1)]))] sz) [(h0, .inr (5, [.ref ar, .ref oB, .ref oS, .int 0, .int 0, .int 0, .int ve, .int 0, .int 0])), (oS, .inr (6, [.int 224, .int (-1)]))]) (va_A [(h0, .inr (5, [.ref ar, .ref oB, .ref oS, .int 0, .int 0, .int 0, .int ve, .int 0, .int 0])), (oS, .inr (6, [.int 224, .int (-1)]))] sz)) 0 0 (va_A [(h0, .inr (5, [.ref ar, .ref oB, .ref oS, .int 0, .int 0, .int 0, .int ve, .int 0, .int 0])), (oS, .inr (6, [.int 224, .int (-1)]))] sz) := by
  refine Met.ofW (cc := cX6_mode) (maxL := 1) (ret := (some .int)) (by decide) rfl ?_
  intro p e s m args below meth c s₁ B hml hv
  obtain ⟨rfl, hsz, hP, hK, hD0⟩ := hv
  have hx := B.exec
  have hb := B.bytes
  have hr := B.returns
  have hts := atoms_spec (ws := wsX6_mode) B.pre
  have hown : s.vm.findClass RX6 = some m.cls := findClass_of_methodNamed B.named
  have hlocks := B.notSynchronized
  have hD := hD0.self (sz := sz)
  generalize hAe : va_A [(h0, .inr (5, [.ref ar, .ref oB, .ref oS, .int 0, .int 0, .int 0, .int ve, .int 0, .int 0])), (oS, .inr (6, [.int 224, .int (-1)]))] sz = A at hD ⊢
  have hA : ∀ q : Nat, s.heap.size ≤ q → A q := fun q h => by rw [← hAe]; exact Or.inr (by omega)
  have hS0 : ∀ G : Heap, s.heap = G → va_S A s.heap G [] := fun G h => by subst h; exact va_S.rf
  generalize hHe : s.heap = H at hP ⊢
  have hS := hS0 H hHe
  have hP : va_P (dC, dI) vwCl [(h0, .inr (5, [.ref ar, .ref oB, .ref oS, .int 0, .int 0, .int 0, .int ve, .int 0, .int 0])), (oS, .inr (6, [.int 224, .int (-1)]))] H := hP
  have hD : va_D A [(h0, .inr (5, [.ref ar, .ref oB, .ref oS, .int 0, .int 0, .int 0, .int ve, .int 0, .int 0])), (oS, .inr (6, [.int 224, .int (-1)]))] := hD
  have hK : va_K (dC, dI) vwCl [] s := hK
  have hl := lv_entry ([.ref h0]) (n := 1) (Nat.le_of_ble_eq_true rfl)
  rw [lg_entry_eq]
  generalize (lg_sl ([.ref h0]) ++ List.replicate (1 - (lg_sl ([.ref h0])).length) Slot.unset).toArray = ls at hl ⊢
  have hl : lv_has ls 1 [(0, .ref h0)] := hl
  refine lv_aload_n hx hb dX6_mode_0 rfl (lv_at hl 0 rfl) ?_
  refine va_get (D := (dC, dI)) (ci := 5) (v := .ref oS) (C := RX6) (T := TX6) (N := 9) hx hb hts (by decide +kernel) hown hK hP 0 rfl rfl 2 (by decide) (hts (.fieldLink RX6 43 "UnibusMachine$Processor" "status" "LUnibusMachine$Status;") (by decide +kernel)) (fun _ h9 => h9) rfl dX6_mode_1 ?_
  refine va_get (D := (dC, dI)) (ci := 6) (v := .int 224) (C := RX7) (T := TX7) (N := 2) hx hb hts (by decide +kernel) hown hK hP 1 rfl rfl 0 (by decide) (hts (.fieldLink RX6 44 "UnibusMachine$Status" "now" "I") (by decide +kernel)) (fun _ h9 => h9) rfl dX6_mode_4 ?_
  refine lv_bipush (v := 14) hx hb dX6_mode_7 (by decide) ?_
  refine lv_ishr hx hb dX6_mode_9 ?_
  refine lv_topi (fun y1 ey1 => ?_)
  obtain rfl : y1 = 0 := by rw [ey1]; decide
  refine lv_iconst (v := 1) hx hb dX6_mode_10 (by decide) ?_
  refine lv_iand hx hb dX6_mode_11 ?_
  refine lv_topi (fun y2 ey2 => ?_)
  obtain rfl : y2 = 0 := by rw [ey2]; decide
  have hP9 := hP.sub (ws' := [(h0, .inr (5, [.ref ar, .ref oB, .ref oS, .int 0, .int 0, .int 0, .int ve, .int 0, .int 0])), (oS, .inr (6, [.int 224, .int (-1)]))]) [0, 1] rfl
  have hD9 := hD.sub (ws' := [(h0, .inr (5, [.ref ar, .ref oB, .ref oS, .int 0, .int 0, .int 0, .int ve, .int 0, .int 0])), (oS, .inr (6, [.int 224, .int (-1)]))]) [0, 1] (by decide) rfl
  have hK9 := hK.sub (tys' := []) [] rfl
  exact W.iret (v := 0) hx hb hr (fun t ht hW => ⟨⟨0, (), rfl, rfl, by rw [ht]; exact hP9, va_K.moved hW.alike hK9, hD9⟩, hS.F ht⟩) hS.2.2 dX6_mode_12
set_option maxHeartbeats 4000000 in
set_option maxRecDepth 100000 in
theorem c_readOdd (l : Launch) (dC : Nat → ClassId) (dI : Nat → Nat → Nat) (h0 : Nat) (ar : Nat) (oB : Nat) (oS : Nat) (ve : Int32) (sz : Nat) (hlt : l.stackTraces = false) : vx_Met l yX6_readWord wsX6_readWord ({ frames := 7, cells := 1, slots := 6, locals := 103 } : Room) (va_Pc [.ref h0, .int 0, .int 1] (fun U => U.heap.size = sz ∧ va_P (dC, dI) vwCl [(h0, .inr (5, [.ref ar, .ref oB, .ref oS, .int 0, .int 0, .int 0, .int ve, .int 0, .int 0]))] U.heap ∧ va_K (dC, dI) vwCl [] U ∧ va_D (fun _ => True) [(h0, .inr (5, [.ref ar, .ref oB, .ref oS, .int 0, .int 0, .int 0, .int ve, .int 0, .int 0]))] ∧ vx_Zq Bundle.tN "UNASSIGNED_STACK" Bundle.steD (va_A [(h0, .inr (5, [.ref ar, .ref oB, .ref oS, .int 0, .int 0, .int 0, .int ve, .int 0, .int 0]))] sz) U U.heap ∧ vx_Zq Bundle.tN "SUPPRESSED_SENTINEL" Bundle.listD (va_A [(h0, .inr (5, [.ref ar, .ref oB, .ref oS, .int 0, .int 0, .int 0, .int ve, .int 0, .int 0]))] sz) U U.heap ∧ va_Nw (.declares (Bundle.init0 "java/lang/RuntimeException")) U ∧ va_Nw (.declares (Bundle.init0 "java/lang/Exception")) U ∧ va_Nw (.declares (Bundle.init0 Bundle.tN)) U ∧ va_Nw (.castable "java/lang/UnsupportedOperationException" "java/lang/UnsupportedOperationException") U)) (va_Qi (fun (r : Int32) (u : Unit) => False) (fun (u : Unit) (t : State) => va_P (dC, dI) vwCl [(h0, .inr (5, [.ref ar, .ref oB, .ref oS, .int 0, .int 0, .int 0, .int ve, .int 0, .int 0]))] t.heap ∧ va_K (dC, dI) vwCl [] t ∧ va_D (va_A [(h0, .inr (5, [.ref ar, .ref oB, .ref oS, .int 0, .int 0, .int 0, .int ve, .int 0, .int 0]))] sz) [(h0, .inr (5, [.ref ar, .ref oB, .ref oS, .int 0, .int 0, .int 0, .int ve, .int 0, .int 0]))]) (va_A [(h0, .inr (5, [.ref ar, .ref oB, .ref oS, .int 0, .int 0, .int 0, .int ve, .int 0, .int 0]))] sz)) (vx_X (fun _ : Unit => True) (fun (E : String) (_ : Unit) (t : State) => E = "java/lang/UnsupportedOperationException" ∧ va_P (dC, dI) vwCl [(h0, .inr (5, [.ref ar, .ref oB, .ref oS, .int 0, .int 0, .int 0, .int 4, .int 0, .int 0]))] t.heap ∧ va_K (dC, dI) vwCl [] t ∧ va_D (va_A [(h0, .inr (5, [.ref ar, .ref oB, .ref oS, .int 0, .int 0, .int 0, .int ve, .int 0, .int 0]))] sz) [(h0, .inr (5, [.ref ar, .ref oB, .ref oS, .int 0, .int 0, .int 0, .int 4, .int 0, .int 0]))] ∧ sz + 1 ≤ t.heap.size) (va_A [(h0, .inr (5, [.ref ar, .ref oB, .ref oS, .int 0, .int 0, .int 0, .int ve, .int 0, .int 0]))] sz)) 1 6 (va_A [(h0, .inr (5, [.ref ar, .ref oB, .ref oS, .int 0, .int 0, .int 0, .int ve, .int 0, .int 0]))] sz) := by
  refine vx_ofW (cc := cX6_readWord) (maxL := 4) (ret := (some .int)) (by decide) rfl ?_
  intro p e s m args below meth c s₁ B hml htab hv
  obtain ⟨rfl, hsz, hP, hK, hD0, hZU, hZN, hd1, hd2, hd3, hcU⟩ := hv
  have hx := B.exec
  have hb := B.bytes
  have hr := B.returns
  have hts := atoms_spec (ws := wsX6_readWord) B.pre
  have hown : s.vm.findClass RX6 = some m.cls := findClass_of_methodNamed B.named
  have hlocks := B.notSynchronized
  have hD := hD0.self (sz := sz)
  generalize hAe : va_A [(h0, .inr (5, [.ref ar, .ref oB, .ref oS, .int 0, .int 0, .int 0, .int ve, .int 0, .int 0]))] sz = A at hD hZU hZN ⊢
  have hA : ∀ q : Nat, s.heap.size ≤ q → A q := fun q h => by rw [← hAe]; exact Or.inr (by omega)
  have hS0 : ∀ G : Heap, s.heap = G → va_S A s.heap G [] := fun G h => by subst h; exact va_S.rf
  generalize hHe : s.heap = H at hP ⊢
  have hS := hS0 H hHe
  have hP : va_P (dC, dI) vwCl [(h0, .inr (5, [.ref ar, .ref oB, .ref oS, .int 0, .int 0, .int 0, .int ve, .int 0, .int 0]))] H := hP
  have hD : va_D A [(h0, .inr (5, [.ref ar, .ref oB, .ref oS, .int 0, .int 0, .int 0, .int ve, .int 0, .int 0]))] := hD
  have hK : va_K (dC, dI) vwCl [] s := hK
  have hl := lv_entry ([.ref h0, .int 0, .int 1]) (n := 4) (Nat.le_of_ble_eq_true rfl)
  rw [lg_entry_eq]
  generalize (lg_sl ([.ref h0, .int 0, .int 1]) ++ List.replicate (4 - (lg_sl ([.ref h0, .int 0, .int 1])).length) Slot.unset).toArray = ls at hl ⊢
  have hl : lv_has ls 4 [(0, .ref h0), (1, .int 0), (2, .int 1)] := hl
  refine lv_iload_n hx hb dX6_readWord_0 rfl (lv_at hl 2 rfl) ?_
  refine lv_iconst (v := 1) hx hb dX6_readWord_1 (by decide) ?_
  refine lv_iand hx hb dX6_readWord_2 ?_
  refine lv_topi (fun y1 ey1 => ?_)
  obtain rfl : y1 = 1 := by rw [ey1]; decide
  refine lv_if_eq (tgt := 11) hx hb dX6_readWord_3 (by decide) (fun c2 => ?_) (fun c2 => ?_)
  · exact absurd c2 (by decide)
  · skip
    refine lv_aload_n hx hb dX6_readWord_6 rfl (lv_at hl 0 rfl) ?_
    refine lv_iconst (v := 4) hx hb dX6_readWord_7 (by decide) ?_
    have hPc := hP.sub (ws' := [(h0, .inr (5, [.ref ar, .ref oB, .ref oS, .int 0, .int 0, .int 0, .int ve, .int 0, .int 0]))]) [0] rfl
    have hDc := hD.sub (ws' := [(h0, .inr (5, [.ref ar, .ref oB, .ref oS, .int 0, .int 0, .int 0, .int ve, .int 0, .int 0]))]) [0] (by decide) rfl
    have hKc := hK.sub (tys' := []) [] rfl
    have hFc := va_free (wc := [(h0, .inr (5, [.ref ar, .ref oB, .ref oS, .int 0, .int 0, .int 0, .int ve, .int 0, .int 0]))]) hD hS hA [0] rfl
    have hSz := hS.1
    refine vx_callv (vx_runV (As := [.int 4]) (rest := []) ⟨hx, hb, hml, hown, hts⟩ (c_stop l dC dI h0 ar oB oS ve H.size hlt) (cwV 1 hts gX6_readWord_X6_stop rfl rfl rfl (by decide +kernel) ⟨Nat.le_of_ble_eq_true rfl, Nat.le_of_ble_eq_true rfl⟩) ⟨fun a U g mk q => by obtain ⟨q0, q1, qP, qK, qD, e0, e1, e2, e3, e4, e5⟩ := q; exact ⟨q0, q1, qP, va_K.moved (u := U) (U := U.calling g mk a) (Vm.Alike.refl U.vm) qK, qD, vx_Zq.moved (u := U) (U := U.calling g mk a) (Vm.Alike.refl U.vm) e0, vx_Zq.moved (u := U) (U := U.calling g mk a) (Vm.Alike.refl U.vm) e1, va_Nw.same (U := U.calling g mk a) rfl rfl e2, va_Nw.same (U := U.calling g mk a) rfl rfl e3, va_Nw.same (U := U.calling g mk a) rfl rfl e4, va_Nw.same (U := U.calling g mk a) rfl rfl e5⟩, va_recv hKc hPc (ci := 5) (q0 := 0) rfl rfl, fun U hU hW => ⟨rfl, by rw [hU], by rw [hU]; exact hPc, va_K.moved hW.alike hKc, hDc.weaken (fun _ _ _ _ => trivial), by rw [hU]; exact vx_Zq.moved hW.alike (vx_Zq.narrow (vx_Zq.kept hZU hS.2.1) hFc), by rw [hU]; exact vx_Zq.moved hW.alike (vx_Zq.narrow (vx_Zq.kept hZN hS.2.1) hFc), va_Nw.warmD hW hd1, va_Nw.warmD hW hd2, va_Nw.warmD hW hd3, va_Nw.warmC hW hcU⟩⟩ rfl rfl hl.1 rfl (lv_room (Nat.le_of_ble_eq_true rfl)) dX6_readWord_8 ⟨Nat.le_of_ble_eq_true rfl, Nat.le_of_ble_eq_true rfl⟩) hS (fun q _ h => hFc q h) hFc (fun q _ h => hFc q h) (fun E9 ce9 q9 u t H1 locs ht hvm hpx hBX hz1 hk1 hS hce hcv hcl => ?_) (fun u4 t H1 locs ht hvm hw hB hz1 hk1 hS => ?_)
    · skip
      obtain ⟨rfl, hP1, hK1, hD1, hg1⟩ := hBX
      rw [ht] at hP1 hg1
      have hK1 := va_K.moved hvm.symm hK1
      obtain ⟨hP, hD⟩ := va_join (wr := []) (w1 := [(h0, .inr (5, [.ref ar, .ref oB, .ref oS, .int 0, .int 0, .int 0, .int 4, .int 0, .int 0]))]) hP hD [0] [] rfl rfl (by decide) (by decide) hk1 hFc hP1 hD1
      have hK := (hK.sub (tys' := []) [] rfl).app hK1
      have hgr : sz + 1 ≤ H1.size := by omega
      have hP9 : va_P (dC, dI) vwCl [(h0, .inr (5, [.ref ar, .ref oB, .ref oS, .int 0, .int 0, .int 0, .int 4, .int 0, .int 0]))] H1 := hP.sub [0] rfl
      have hD9 : va_D A [(h0, .inr (5, [.ref ar, .ref oB, .ref oS, .int 0, .int 0, .int 0, .int 4, .int 0, .int 0]))] := hD.sub [0] (by decide) rfl
      have hK9 : va_K (dC, dI) vwCl [] s := hK.sub [] rfl
      exact vx_out (fun x h => (htab x h).elim) hlocks hce hcv hcl (fun t9 ht9 hal9 => ⟨(), trivial, ⟨rfl, by rw [ht9]; exact hP9, va_K.moved hal9 hK9, hD9, by rw [ht9]; exact hgr⟩, hS.F ht9⟩) hS.2.2 (Nat.le_of_ble_eq_true rfl) (Nat.le_of_ble_eq_true rfl)
    · skip
      exact False.elim hw
set_option maxHeartbeats 4000000 in
set_option maxRecDepth 100000 in
theorem c_peek4 (l : Launch) (dC : Nat → ClassId) (dI : Nat → Nat → Nat) (h0 : Nat) (am : Nat) (oM : Nat) (oS : Nat) (oK : Nat) (oL : Nat) (oD : Nat) (tm : ClassId) (f : Nat → Int32) (sz : Nat) (hF0 : f (2 : Int32).toNatClampNeg = 1) : Met l yX0_peek wsX0_peek ({ frames := 0, cells := 0, slots := 0, locals := 0 } : Room) (va_Pc [.ref h0, .int 4] (fun U => U.heap.size = sz ∧ va_P (dC, dI) vwCl [(h0, .inr (0, [.ref am, .ref oM, .ref oS, .ref oK, .ref oL, .ref oD])), (am, .inl (tm, 512, .inl f))] U.heap ∧ va_K (dC, dI) vwCl [(tm, .int)] U ∧ va_D (fun _ => True) [(h0, .inr (0, [.ref am, .ref oM, .ref oS, .ref oK, .ref oL, .ref oD])), (am, .inl (tm, 512, .inl f))])) (va_Qi (fun (r : Int32) (u : Unit) => (1 = r)) (fun (u : Unit) (t : State) => va_P (dC, dI) vwCl [(h0, .inr (0, [.ref am, .ref oM, .ref oS, .ref oK, .ref oL, .ref oD])), (am, .inl (tm, 512, .inl f))] t.heap ∧ va_K (dC, dI) vwCl [(tm, .int)] t ∧ va_D (va_A [(h0, .inr (0, [.ref am, .ref oM, .ref oS, .ref oK, .ref oL, .ref oD])), (am, .inl (tm, 512, .inl f))] sz) [(h0, .inr (0, [.ref am, .ref oM, .ref oS, .ref oK, .ref oL, .ref oD])), (am, .inl (tm, 512, .inl f))]) (va_A [(h0, .inr (0, [.ref am, .ref oM, .ref oS, .ref oK, .ref oL, .ref oD])), (am, .inl (tm, 512, .inl f))] sz)) 0 0 (va_A [(h0, .inr (0, [.ref am, .ref oM, .ref oS, .ref oK, .ref oL, .ref oD])), (am, .inl (tm, 512, .inl f))] sz) := by
  refine Met.ofW (cc := cX0_peek) (maxL := 2) (ret := (some .int)) (by decide) rfl ?_
  intro p e s m args below meth c s₁ B hml hv
  obtain ⟨rfl, hsz, hP, hK, hD0⟩ := hv
  have hx := B.exec
  have hb := B.bytes
  have hr := B.returns
  have hts := atoms_spec (ws := wsX0_peek) B.pre
  have hown : s.vm.findClass RX0 = some m.cls := findClass_of_methodNamed B.named
  have hlocks := B.notSynchronized
  have hD := hD0.self (sz := sz)
  generalize hAe : va_A [(h0, .inr (0, [.ref am, .ref oM, .ref oS, .ref oK, .ref oL, .ref oD])), (am, .inl (tm, 512, .inl f))] sz = A at hD ⊢
  have hA : ∀ q : Nat, s.heap.size ≤ q → A q := fun q h => by rw [← hAe]; exact Or.inr (by omega)
  have hS0 : ∀ G : Heap, s.heap = G → va_S A s.heap G [] := fun G h => by subst h; exact va_S.rf
  generalize hHe : s.heap = H at hP ⊢
  have hS := hS0 H hHe
  have hP : va_P (dC, dI) vwCl [(h0, .inr (0, [.ref am, .ref oM, .ref oS, .ref oK, .ref oL, .ref oD])), (am, .inl (tm, 512, .inl f))] H := hP
  have hD : va_D A [(h0, .inr (0, [.ref am, .ref oM, .ref oS, .ref oK, .ref oL, .ref oD])), (am, .inl (tm, 512, .inl f))] := hD
  have hK : va_K (dC, dI) vwCl [(tm, .int)] s := hK
  have hl := lv_entry ([.ref h0, .int 4]) (n := 2) (Nat.le_of_ble_eq_true rfl)
  rw [lg_entry_eq]
  generalize (lg_sl ([.ref h0, .int 4]) ++ List.replicate (2 - (lg_sl ([.ref h0, .int 4])).length) Slot.unset).toArray = ls at hl ⊢
  have hl : lv_has ls 2 [(0, .ref h0), (1, .int 4)] := hl
  refine lv_iload_n hx hb dX0_peek_0 rfl (lv_at hl 1 rfl) ?_
  refine lv_iconst (v := 1) hx hb dX0_peek_1 (by decide) ?_
  refine lv_iand hx hb dX0_peek_2 ?_
  refine lv_topi (fun y1 ey1 => ?_)
  obtain rfl : y1 = 0 := by rw [ey1]; decide
  refine lv_if_eq (tgt := 8) hx hb dX0_peek_3 (by decide) (fun c2 => ?_) (fun c2 => ?_)
  · skip
    refine lv_iload_n hx hb dX0_peek_8 rfl (lv_at hl 1 rfl) ?_
    refine lv_if_lt (tgt := 28) hx hb dX0_peek_9 (by decide) (fun c3 => ?_) (fun c3 => ?_)
    · exact absurd c3 (by decide)
    · skip
      refine lv_iload_n hx hb dX0_peek_12 rfl (lv_at hl 1 rfl) ?_
      refine lv_sipush (v := 1024) hx hb dX0_peek_13 (by decide) ?_
      refine lv_icmp_ge (tgt := 28) hx hb dX0_peek_16 (by decide) (fun c4 => ?_) (fun c4 => ?_)
      · exact absurd c4 (by decide)
      · skip
        refine lv_aload_n hx hb dX0_peek_19 rfl (lv_at hl 0 rfl) ?_
        refine va_get (D := (dC, dI)) (ci := 0) (v := .ref am) (C := RX0) (T := TX0) (N := 6) hx hb hts (by decide +kernel) hown hK hP 0 rfl rfl 0 (by decide) (hts (.fieldLink RX0 9 "UnibusMachine$Bus" "memory" "[I") (by decide +kernel)) (fun _ h9 => h9) rfl dX0_peek_20 ?_
        refine lv_iload_n hx hb dX0_peek_23 rfl (lv_at hl 1 rfl) ?_
        refine lv_iconst (v := 1) hx hb dX0_peek_24 (by decide) ?_
        refine lv_ishr hx hb dX0_peek_25 ?_
        refine lv_topi (fun y5 ey5 => ?_)
        obtain rfl : y5 = 2 := by rw [ey5]; decide
        refine va_iald (D := (dC, dI)) hx hb hK hP 1 0 rfl rfl (vp_in_iff.mpr (by decide)) dX0_peek_26 ?_
        refine lv_topi (fun y6 ey6 => ?_)
        obtain rfl : y6 = 1 := by rw [ey6]; assumption
        have hP9 := hP.sub (ws' := [(h0, .inr (0, [.ref am, .ref oM, .ref oS, .ref oK, .ref oL, .ref oD])), (am, .inl (tm, 512, .inl f))]) [0, 1] rfl
        have hD9 := hD.sub (ws' := [(h0, .inr (0, [.ref am, .ref oM, .ref oS, .ref oK, .ref oL, .ref oD])), (am, .inl (tm, 512, .inl f))]) [0, 1] (by decide) rfl
        have hK9 := hK.sub (tys' := [(tm, .int)]) [0] rfl
        exact W.iret (v := 1) hx hb hr (fun t ht hW => ⟨⟨1, (), rfl, rfl, by rw [ht]; exact hP9, va_K.moved hW.alike hK9, hD9⟩, hS.F ht⟩) hS.2.2 dX0_peek_27
  · exact absurd c2 (by decide)
set_option maxHeartbeats 4000000 in
set_option maxRecDepth 100000 in
theorem c_read4 (l : Launch) (dC : Nat → ClassId) (dI : Nat → Nat → Nat) (h0 : Nat) (am : Nat) (oM : Nat) (oS : Nat) (oK : Nat) (oL : Nat) (oD : Nat) (tm : ClassId) (f : Nat → Int32) (sz : Nat) (hF0 : f (2 : Int32).toNatClampNeg = 1) : Met l yX0_read wsX0_read ({ frames := 1, cells := 0, slots := 0, locals := 21 } : Room) (va_Pc [.ref h0, .int 4] (fun U => U.heap.size = sz ∧ va_P (dC, dI) vwCl [(h0, .inr (0, [.ref am, .ref oM, .ref oS, .ref oK, .ref oL, .ref oD])), (am, .inl (tm, 512, .inl f))] U.heap ∧ va_K (dC, dI) vwCl [(tm, .int)] U ∧ va_D (fun _ => True) [(h0, .inr (0, [.ref am, .ref oM, .ref oS, .ref oK, .ref oL, .ref oD])), (am, .inl (tm, 512, .inl f))])) (va_Qi (fun (r : Int32) (u : Unit) => (1 = r)) (fun (u : Unit) (t : State) => va_P (dC, dI) vwCl [(h0, .inr (0, [.ref am, .ref oM, .ref oS, .ref oK, .ref oL, .ref oD])), (am, .inl (tm, 512, .inl f))] t.heap ∧ va_K (dC, dI) vwCl [(tm, .int)] t ∧ va_D (va_A [(h0, .inr (0, [.ref am, .ref oM, .ref oS, .ref oK, .ref oL, .ref oD])), (am, .inl (tm, 512, .inl f))] sz) [(h0, .inr (0, [.ref am, .ref oM, .ref oS, .ref oK, .ref oL, .ref oD])), (am, .inl (tm, 512, .inl f))]) (va_A [(h0, .inr (0, [.ref am, .ref oM, .ref oS, .ref oK, .ref oL, .ref oD])), (am, .inl (tm, 512, .inl f))] sz)) 0 0 (va_A [(h0, .inr (0, [.ref am, .ref oM, .ref oS, .ref oK, .ref oL, .ref oD])), (am, .inl (tm, 512, .inl f))] sz) := by
  refine Met.ofW (cc := cX0_read) (maxL := 3) (ret := (some .int)) (by decide) rfl ?_
  intro p e s m args below meth c s₁ B hml hv
  obtain ⟨rfl, hsz, hP, hK, hD0⟩ := hv
  have hx := B.exec
  have hb := B.bytes
  have hr := B.returns
  have hts := atoms_spec (ws := wsX0_read) B.pre
  have hown : s.vm.findClass RX0 = some m.cls := findClass_of_methodNamed B.named
  have hlocks := B.notSynchronized
  have hD := hD0.self (sz := sz)
  generalize hAe : va_A [(h0, .inr (0, [.ref am, .ref oM, .ref oS, .ref oK, .ref oL, .ref oD])), (am, .inl (tm, 512, .inl f))] sz = A at hD ⊢
  have hA : ∀ q : Nat, s.heap.size ≤ q → A q := fun q h => by rw [← hAe]; exact Or.inr (by omega)
  have hS0 : ∀ G : Heap, s.heap = G → va_S A s.heap G [] := fun G h => by subst h; exact va_S.rf
  generalize hHe : s.heap = H at hP ⊢
  have hS := hS0 H hHe
  have hP : va_P (dC, dI) vwCl [(h0, .inr (0, [.ref am, .ref oM, .ref oS, .ref oK, .ref oL, .ref oD])), (am, .inl (tm, 512, .inl f))] H := hP
  have hD : va_D A [(h0, .inr (0, [.ref am, .ref oM, .ref oS, .ref oK, .ref oL, .ref oD])), (am, .inl (tm, 512, .inl f))] := hD
  have hK : va_K (dC, dI) vwCl [(tm, .int)] s := hK
  have hl := lv_entry ([.ref h0, .int 4]) (n := 3) (Nat.le_of_ble_eq_true rfl)
  rw [lg_entry_eq]
  generalize (lg_sl ([.ref h0, .int 4]) ++ List.replicate (3 - (lg_sl ([.ref h0, .int 4])).length) Slot.unset).toArray = ls at hl ⊢
  have hl : lv_has ls 3 [(0, .ref h0), (1, .int 4)] := hl
  refine lv_aload_n hx hb dX0_read_0 rfl (lv_at hl 0 rfl) ?_
  refine lv_iload_n hx hb dX0_read_1 rfl (lv_at hl 1 rfl) ?_
  have hPc := hP.sub (ws' := [(h0, .inr (0, [.ref am, .ref oM, .ref oS, .ref oK, .ref oL, .ref oD])), (am, .inl (tm, 512, .inl f))]) [0, 1] rfl
  have hDc := hD.sub (ws' := [(h0, .inr (0, [.ref am, .ref oM, .ref oS, .ref oK, .ref oL, .ref oD])), (am, .inl (tm, 512, .inl f))]) [0, 1] (by decide) rfl
  have hKc := hK.sub (tys' := [(tm, .int)]) [0] rfl
  have hFc := va_free (wc := [(h0, .inr (0, [.ref am, .ref oM, .ref oS, .ref oK, .ref oL, .ref oD])), (am, .inl (tm, 512, .inl f))]) hD hS hA [0, 1] rfl
  refine va_calli (va_runV (As := [.int 4]) (rest := []) ⟨hx, hb, hml, hown, hts⟩ (c_peek4 l dC dI h0 am oM oS oK oL oD tm f H.size (by first | assumption | omega)) (cwV 1 hts gX0_read_X0_peek rfl rfl rfl (by decide +kernel) ⟨Nat.le_of_ble_eq_true rfl, Nat.le_of_ble_eq_true rfl⟩) ⟨fun a U g mk q => by obtain ⟨q0, q1, qP, qK, qD⟩ := q; exact ⟨q0, q1, qP, va_K.moved (u := U) (U := U.calling g mk a) (Vm.Alike.refl U.vm) qK, qD⟩, va_recv hKc hPc (ci := 0) (q0 := 0) rfl rfl, fun U hU hW => ⟨rfl, by rw [hU], by rw [hU]; exact hPc, va_K.moved hW.alike hKc, hDc.weaken (fun _ _ _ _ => trivial)⟩⟩ rfl rfl hl.1 rfl (lv_room (Nat.le_of_ble_eq_true rfl)) dX0_read_2 ⟨Nat.le_of_ble_eq_true rfl, Nat.le_of_ble_eq_true rfl⟩) hS (fun q _ h => hFc q h) hFc (fun r1 u2 t H1 locs ht hvm hw hB hz1 hk1 hS => ?_)
  obtain ⟨hP1, hK1, hD1⟩ := hB
  rw [ht] at hP1
  have hK1 := va_K.moved hvm.symm hK1
  try dsimp only at hw
  obtain ⟨hP, hD⟩ := va_join (wr := []) (w1 := [(h0, .inr (0, [.ref am, .ref oM, .ref oS, .ref oK, .ref oL, .ref oD])), (am, .inl (tm, 512, .inl f))]) hP hD [0, 1] [] rfl rfl (by decide) (by decide) hk1 hFc hP1 hD1
  have hK := (hK.sub (tys' := []) [] rfl).app hK1
  generalize H1 = H at hP hS ⊢
  have hP : va_P (dC, dI) vwCl [(h0, .inr (0, [.ref am, .ref oM, .ref oS, .ref oK, .ref oL, .ref oD])), (am, .inl (tm, 512, .inl f))] H := hP
  have hD : va_D A [(h0, .inr (0, [.ref am, .ref oM, .ref oS, .ref oK, .ref oL, .ref oD])), (am, .inl (tm, 512, .inl f))] := hD
  have hK : va_K (dC, dI) vwCl [(tm, .int)] s := hK
  refine W.widen (k := 0) (n := 0) (Nat.le_of_ble_eq_true rfl) (Nat.le_of_ble_eq_true rfl) ?_
  obtain rfl := hw
  refine lv_istore_n (lv' := [(2, .int 1), (0, .ref h0), (1, .int 4)]) hx hb dX0_read_5 rfl hl (by decide) rfl (fun ls hl => ?_)
  refine lv_iload_n hx hb dX0_read_6 rfl (lv_at hl 2 rfl) ?_
  refine lv_ldc (v := 57426) hx hb hown (hts (.constant RX0 91 (57426)) (by decide +kernel)) dX0_read_7 ?_
  refine lv_icmp_ne (tgt := 29) hx hb dX0_read_9 (by decide) (fun c3 => ?_) (fun c3 => ?_)
  · skip
    refine lv_iload_n hx hb dX0_read_29 rfl (lv_at hl 0 rfl) ?_
    have hP9 := hP.sub (ws' := [(h0, .inr (0, [.ref am, .ref oM, .ref oS, .ref oK, .ref oL, .ref oD])), (am, .inl (tm, 512, .inl f))]) [0, 1] rfl
    have hD9 := hD.sub (ws' := [(h0, .inr (0, [.ref am, .ref oM, .ref oS, .ref oK, .ref oL, .ref oD])), (am, .inl (tm, 512, .inl f))]) [0, 1] (by decide) rfl
    have hK9 := hK.sub (tys' := [(tm, .int)]) [0] rfl
    exact W.iret (v := 1) hx hb hr (fun t ht hW => ⟨⟨1, (), rfl, rfl, by rw [ht]; exact hP9, va_K.moved hW.alike hK9, hD9⟩, hS.F ht⟩) hS.2.2 dX0_read_30
  · exact absurd c3 (by decide)
set_option maxHeartbeats 4000000 in
set_option maxRecDepth 100000 in
theorem c_peek6 (l : Launch) (dC : Nat → ClassId) (dI : Nat → Nat → Nat) (h0 : Nat) (am : Nat) (oM : Nat) (oS : Nat) (oK : Nat) (oL : Nat) (oD : Nat) (tm : ClassId) (f : Nat → Int32) (sz : Nat) (hF0 : f (3 : Int32).toNatClampNeg = 224) : Met l yX0_peek wsX0_peek ({ frames := 0, cells := 0, slots := 0, locals := 0 } : Room) (va_Pc [.ref h0, .int 6] (fun U => U.heap.size = sz ∧ va_P (dC, dI) vwCl [(h0, .inr (0, [.ref am, .ref oM, .ref oS, .ref oK, .ref oL, .ref oD])), (am, .inl (tm, 512, .inl f))] U.heap ∧ va_K (dC, dI) vwCl [(tm, .int)] U ∧ va_D (fun _ => True) [(h0, .inr (0, [.ref am, .ref oM, .ref oS, .ref oK, .ref oL, .ref oD])), (am, .inl (tm, 512, .inl f))])) (va_Qi (fun (r : Int32) (u : Unit) => (224 = r)) (fun (u : Unit) (t : State) => va_P (dC, dI) vwCl [(h0, .inr (0, [.ref am, .ref oM, .ref oS, .ref oK, .ref oL, .ref oD])), (am, .inl (tm, 512, .inl f))] t.heap ∧ va_K (dC, dI) vwCl [(tm, .int)] t ∧ va_D (va_A [(h0, .inr (0, [.ref am, .ref oM, .ref oS, .ref oK, .ref oL, .ref oD])), (am, .inl (tm, 512, .inl f))] sz) [(h0, .inr (0, [.ref am, .ref oM, .ref oS, .ref oK, .ref oL, .ref oD])), (am, .inl (tm, 512, .inl f))]) (va_A [(h0, .inr (0, [.ref am, .ref oM, .ref oS, .ref oK, .ref oL, .ref oD])), (am, .inl (tm, 512, .inl f))] sz)) 0 0 (va_A [(h0, .inr (0, [.ref am, .ref oM, .ref oS, .ref oK, .ref oL, .ref oD])), (am, .inl (tm, 512, .inl f))] sz) := by
  refine Met.ofW (cc := cX0_peek) (maxL := 2) (ret := (some .int)) (by decide) rfl ?_
  intro p e s m args below meth c s₁ B hml hv
  obtain ⟨rfl, hsz, hP, hK, hD0⟩ := hv
  have hx := B.exec
  have hb := B.bytes
  have hr := B.returns
  have hts := atoms_spec (ws := wsX0_peek) B.pre
  have hown : s.vm.findClass RX0 = some m.cls := findClass_of_methodNamed B.named
  have hlocks := B.notSynchronized
  have hD := hD0.self (sz := sz)
  generalize hAe : va_A [(h0, .inr (0, [.ref am, .ref oM, .ref oS, .ref oK, .ref oL, .ref oD])), (am, .inl (tm, 512, .inl f))] sz = A at hD ⊢
  have hA : ∀ q : Nat, s.heap.size ≤ q → A q := fun q h => by rw [← hAe]; exact Or.inr (by omega)
  have hS0 : ∀ G : Heap, s.heap = G → va_S A s.heap G [] := fun G h => by subst h; exact va_S.rf
  generalize hHe : s.heap = H at hP ⊢
  have hS := hS0 H hHe
  have hP : va_P (dC, dI) vwCl [(h0, .inr (0, [.ref am, .ref oM, .ref oS, .ref oK, .ref oL, .ref oD])), (am, .inl (tm, 512, .inl f))] H := hP
  have hD : va_D A [(h0, .inr (0, [.ref am, .ref oM, .ref oS, .ref oK, .ref oL, .ref oD])), (am, .inl (tm, 512, .inl f))] := hD
  have hK : va_K (dC, dI) vwCl [(tm, .int)] s := hK
  have hl := lv_entry ([.ref h0, .int 6]) (n := 2) (Nat.le_of_ble_eq_true rfl)
  rw [lg_entry_eq]
  generalize (lg_sl ([.ref h0, .int 6]) ++ List.replicate (2 - (lg_sl ([.ref h0, .int 6])).length) Slot.unset).toArray = ls at hl ⊢
  have hl : lv_has ls 2 [(0, .ref h0), (1, .int 6)] := hl
  refine lv_iload_n hx hb dX0_peek_0 rfl (lv_at hl 1 rfl) ?_
  refine lv_iconst (v := 1) hx hb dX0_peek_1 (by decide) ?_
  refine lv_iand hx hb dX0_peek_2 ?_
  refine lv_topi (fun y1 ey1 => ?_)
  obtain rfl : y1 = 0 := by rw [ey1]; decide
  refine lv_if_eq (tgt := 8) hx hb dX0_peek_3 (by decide) (fun c2 => ?_) (fun c2 => ?_)
  · skip
    refine lv_iload_n hx hb dX0_peek_8 rfl (lv_at hl 1 rfl) ?_
    refine lv_if_lt (tgt := 28) hx hb dX0_peek_9 (by decide) (fun c3 => ?_) (fun c3 => ?_)
    · exact absurd c3 (by decide)
    · skip
      refine lv_iload_n hx hb dX0_peek_12 rfl (lv_at hl 1 rfl) ?_
      refine lv_sipush (v := 1024) hx hb dX0_peek_13 (by decide) ?_
      refine lv_icmp_ge (tgt := 28) hx hb dX0_peek_16 (by decide) (fun c4 => ?_) (fun c4 => ?_)
      · exact absurd c4 (by decide)
      · skip
        refine lv_aload_n hx hb dX0_peek_19 rfl (lv_at hl 0 rfl) ?_
        refine va_get (D := (dC, dI)) (ci := 0) (v := .ref am) (C := RX0) (T := TX0) (N := 6) hx hb hts (by decide +kernel) hown hK hP 0 rfl rfl 0 (by decide) (hts (.fieldLink RX0 9 "UnibusMachine$Bus" "memory" "[I") (by decide +kernel)) (fun _ h9 => h9) rfl dX0_peek_20 ?_
        refine lv_iload_n hx hb dX0_peek_23 rfl (lv_at hl 1 rfl) ?_
        refine lv_iconst (v := 1) hx hb dX0_peek_24 (by decide) ?_
        refine lv_ishr hx hb dX0_peek_25 ?_
        refine lv_topi (fun y5 ey5 => ?_)
        obtain rfl : y5 = 3 := by rw [ey5]; decide
        refine va_iald (D := (dC, dI)) hx hb hK hP 1 0 rfl rfl (vp_in_iff.mpr (by decide)) dX0_peek_26 ?_
        refine lv_topi (fun y6 ey6 => ?_)
        obtain rfl : y6 = 224 := by rw [ey6]; assumption
        have hP9 := hP.sub (ws' := [(h0, .inr (0, [.ref am, .ref oM, .ref oS, .ref oK, .ref oL, .ref oD])), (am, .inl (tm, 512, .inl f))]) [0, 1] rfl
        have hD9 := hD.sub (ws' := [(h0, .inr (0, [.ref am, .ref oM, .ref oS, .ref oK, .ref oL, .ref oD])), (am, .inl (tm, 512, .inl f))]) [0, 1] (by decide) rfl
        have hK9 := hK.sub (tys' := [(tm, .int)]) [0] rfl
        exact W.iret (v := 224) hx hb hr (fun t ht hW => ⟨⟨224, (), rfl, rfl, by rw [ht]; exact hP9, va_K.moved hW.alike hK9, hD9⟩, hS.F ht⟩) hS.2.2 dX0_peek_27
  · exact absurd c2 (by decide)
set_option maxHeartbeats 4000000 in
set_option maxRecDepth 100000 in
theorem c_read6 (l : Launch) (dC : Nat → ClassId) (dI : Nat → Nat → Nat) (h0 : Nat) (am : Nat) (oM : Nat) (oS : Nat) (oK : Nat) (oL : Nat) (oD : Nat) (tm : ClassId) (f : Nat → Int32) (sz : Nat) (hF0 : f (3 : Int32).toNatClampNeg = 224) : Met l yX0_read wsX0_read ({ frames := 1, cells := 0, slots := 0, locals := 21 } : Room) (va_Pc [.ref h0, .int 6] (fun U => U.heap.size = sz ∧ va_P (dC, dI) vwCl [(h0, .inr (0, [.ref am, .ref oM, .ref oS, .ref oK, .ref oL, .ref oD])), (am, .inl (tm, 512, .inl f))] U.heap ∧ va_K (dC, dI) vwCl [(tm, .int)] U ∧ va_D (fun _ => True) [(h0, .inr (0, [.ref am, .ref oM, .ref oS, .ref oK, .ref oL, .ref oD])), (am, .inl (tm, 512, .inl f))])) (va_Qi (fun (r : Int32) (u : Unit) => (224 = r)) (fun (u : Unit) (t : State) => va_P (dC, dI) vwCl [(h0, .inr (0, [.ref am, .ref oM, .ref oS, .ref oK, .ref oL, .ref oD])), (am, .inl (tm, 512, .inl f))] t.heap ∧ va_K (dC, dI) vwCl [(tm, .int)] t ∧ va_D (va_A [(h0, .inr (0, [.ref am, .ref oM, .ref oS, .ref oK, .ref oL, .ref oD])), (am, .inl (tm, 512, .inl f))] sz) [(h0, .inr (0, [.ref am, .ref oM, .ref oS, .ref oK, .ref oL, .ref oD])), (am, .inl (tm, 512, .inl f))]) (va_A [(h0, .inr (0, [.ref am, .ref oM, .ref oS, .ref oK, .ref oL, .ref oD])), (am, .inl (tm, 512, .inl f))] sz)) 0 0 (va_A [(h0, .inr (0, [.ref am, .ref oM, .ref oS, .ref oK, .ref oL, .ref oD])), (am, .inl (tm, 512, .inl f))] sz) := by
  refine Met.ofW (cc := cX0_read) (maxL := 3) (ret := (some .int)) (by decide) rfl ?_
  intro p e s m args below meth c s₁ B hml hv
  obtain ⟨rfl, hsz, hP, hK, hD0⟩ := hv
  have hx := B.exec
  have hb := B.bytes
  have hr := B.returns
  have hts := atoms_spec (ws := wsX0_read) B.pre
  have hown : s.vm.findClass RX0 = some m.cls := findClass_of_methodNamed B.named
  have hlocks := B.notSynchronized
  have hD := hD0.self (sz := sz)
  generalize hAe : va_A [(h0, .inr (0, [.ref am, .ref oM, .ref oS, .ref oK, .ref oL, .ref oD])), (am, .inl (tm, 512, .inl f))] sz = A at hD ⊢
  have hA : ∀ q : Nat, s.heap.size ≤ q → A q := fun q h => by rw [← hAe]; exact Or.inr (by omega)
  have hS0 : ∀ G : Heap, s.heap = G → va_S A s.heap G [] := fun G h => by subst h; exact va_S.rf
  generalize hHe : s.heap = H at hP ⊢
  have hS := hS0 H hHe
  have hP : va_P (dC, dI) vwCl [(h0, .inr (0, [.ref am, .ref oM, .ref oS, .ref oK, .ref oL, .ref oD])), (am, .inl (tm, 512, .inl f))] H := hP
  have hD : va_D A [(h0, .inr (0, [.ref am, .ref oM, .ref oS, .ref oK, .ref oL, .ref oD])), (am, .inl (tm, 512, .inl f))] := hD
  have hK : va_K (dC, dI) vwCl [(tm, .int)] s := hK
  have hl := lv_entry ([.ref h0, .int 6]) (n := 3) (Nat.le_of_ble_eq_true rfl)
  rw [lg_entry_eq]
  generalize (lg_sl ([.ref h0, .int 6]) ++ List.replicate (3 - (lg_sl ([.ref h0, .int 6])).length) Slot.unset).toArray = ls at hl ⊢
  have hl : lv_has ls 3 [(0, .ref h0), (1, .int 6)] := hl
  refine lv_aload_n hx hb dX0_read_0 rfl (lv_at hl 0 rfl) ?_
  refine lv_iload_n hx hb dX0_read_1 rfl (lv_at hl 1 rfl) ?_
  have hPc := hP.sub (ws' := [(h0, .inr (0, [.ref am, .ref oM, .ref oS, .ref oK, .ref oL, .ref oD])), (am, .inl (tm, 512, .inl f))]) [0, 1] rfl
  have hDc := hD.sub (ws' := [(h0, .inr (0, [.ref am, .ref oM, .ref oS, .ref oK, .ref oL, .ref oD])), (am, .inl (tm, 512, .inl f))]) [0, 1] (by decide) rfl
  have hKc := hK.sub (tys' := [(tm, .int)]) [0] rfl
  have hFc := va_free (wc := [(h0, .inr (0, [.ref am, .ref oM, .ref oS, .ref oK, .ref oL, .ref oD])), (am, .inl (tm, 512, .inl f))]) hD hS hA [0, 1] rfl
  refine va_calli (va_runV (As := [.int 6]) (rest := []) ⟨hx, hb, hml, hown, hts⟩ (c_peek6 l dC dI h0 am oM oS oK oL oD tm f H.size (by first | assumption | omega)) (cwV 1 hts gX0_read_X0_peek rfl rfl rfl (by decide +kernel) ⟨Nat.le_of_ble_eq_true rfl, Nat.le_of_ble_eq_true rfl⟩) ⟨fun a U g mk q => by obtain ⟨q0, q1, qP, qK, qD⟩ := q; exact ⟨q0, q1, qP, va_K.moved (u := U) (U := U.calling g mk a) (Vm.Alike.refl U.vm) qK, qD⟩, va_recv hKc hPc (ci := 0) (q0 := 0) rfl rfl, fun U hU hW => ⟨rfl, by rw [hU], by rw [hU]; exact hPc, va_K.moved hW.alike hKc, hDc.weaken (fun _ _ _ _ => trivial)⟩⟩ rfl rfl hl.1 rfl (lv_room (Nat.le_of_ble_eq_true rfl)) dX0_read_2 ⟨Nat.le_of_ble_eq_true rfl, Nat.le_of_ble_eq_true rfl⟩) hS (fun q _ h => hFc q h) hFc (fun r1 u2 t H1 locs ht hvm hw hB hz1 hk1 hS => ?_)
  obtain ⟨hP1, hK1, hD1⟩ := hB
  rw [ht] at hP1
  have hK1 := va_K.moved hvm.symm hK1
  try dsimp only at hw
  obtain ⟨hP, hD⟩ := va_join (wr := []) (w1 := [(h0, .inr (0, [.ref am, .ref oM, .ref oS, .ref oK, .ref oL, .ref oD])), (am, .inl (tm, 512, .inl f))]) hP hD [0, 1] [] rfl rfl (by decide) (by decide) hk1 hFc hP1 hD1
  have hK := (hK.sub (tys' := []) [] rfl).app hK1
  generalize H1 = H at hP hS ⊢
  have hP : va_P (dC, dI) vwCl [(h0, .inr (0, [.ref am, .ref oM, .ref oS, .ref oK, .ref oL, .ref oD])), (am, .inl (tm, 512, .inl f))] H := hP
  have hD : va_D A [(h0, .inr (0, [.ref am, .ref oM, .ref oS, .ref oK, .ref oL, .ref oD])), (am, .inl (tm, 512, .inl f))] := hD
  have hK : va_K (dC, dI) vwCl [(tm, .int)] s := hK
  refine W.widen (k := 0) (n := 0) (Nat.le_of_ble_eq_true rfl) (Nat.le_of_ble_eq_true rfl) ?_
  obtain rfl := hw
  refine lv_istore_n (lv' := [(2, .int 224), (0, .ref h0), (1, .int 6)]) hx hb dX0_read_5 rfl hl (by decide) rfl (fun ls hl => ?_)
  refine lv_iload_n hx hb dX0_read_6 rfl (lv_at hl 2 rfl) ?_
  refine lv_ldc (v := 57426) hx hb hown (hts (.constant RX0 91 (57426)) (by decide +kernel)) dX0_read_7 ?_
  refine lv_icmp_ne (tgt := 29) hx hb dX0_read_9 (by decide) (fun c3 => ?_) (fun c3 => ?_)
  · skip
    refine lv_iload_n hx hb dX0_read_29 rfl (lv_at hl 0 rfl) ?_
    have hP9 := hP.sub (ws' := [(h0, .inr (0, [.ref am, .ref oM, .ref oS, .ref oK, .ref oL, .ref oD])), (am, .inl (tm, 512, .inl f))]) [0, 1] rfl
    have hD9 := hD.sub (ws' := [(h0, .inr (0, [.ref am, .ref oM, .ref oS, .ref oK, .ref oL, .ref oD])), (am, .inl (tm, 512, .inl f))]) [0, 1] (by decide) rfl
    have hK9 := hK.sub (tys' := [(tm, .int)]) [0] rfl
    exact W.iret (v := 224) hx hb hr (fun t ht hW => ⟨⟨224, (), rfl, rfl, by rw [ht]; exact hP9, va_K.moved hW.alike hK9, hD9⟩, hS.F ht⟩) hS.2.2 dX0_read_30
  · exact absurd c3 (by decide)
set_option maxHeartbeats 4000000 in
set_option maxRecDepth 100000 in
theorem c_locate (l : Launch) (dC : Nat → ClassId) (dI : Nat → Nat → Nat) (h0 : Nat) (ad : Nat) (ab : Nat) (a0 : Int32) (w0 : Int32) (sz : Nat) : Met l yX4_locate wsX4_locate ({ frames := 0, cells := 0, slots := 0, locals := 0 } : Room) (va_Pc [.ref h0, .int 0, .int a0, .int w0] (fun U => U.heap.size = sz ∧ va_P (dC, dI) vwCl [(h0, .inr (3, [.ref ad, .ref ab, .int 0]))] U.heap ∧ va_K (dC, dI) vwCl [] U ∧ va_D (fun _ => True) [(h0, .inr (3, [.ref ad, .ref ab, .int 0]))])) (va_Qi (fun (r : Int32) (u : Unit) => (a0 = r)) (fun (u : Unit) (t : State) => va_P (dC, dI) vwCl [(h0, .inr (3, [.ref ad, .ref ab, .int 0]))] t.heap ∧ va_K (dC, dI) vwCl [] t ∧ va_D (va_A [(h0, .inr (3, [.ref ad, .ref ab, .int 0]))] sz) [(h0, .inr (3, [.ref ad, .ref ab, .int 0]))]) (va_A [(h0, .inr (3, [.ref ad, .ref ab, .int 0]))] sz)) 0 0 (va_A [(h0, .inr (3, [.ref ad, .ref ab, .int 0]))] sz) := by
  refine Met.ofW (cc := cX4_locate) (maxL := 9) (ret := (some .int)) (by decide) rfl ?_
  intro p e s m args below meth c s₁ B hml hv
  obtain ⟨rfl, hsz, hP, hK, hD0⟩ := hv
  have hx := B.exec
  have hb := B.bytes
  have hr := B.returns
  have hts := atoms_spec (ws := wsX4_locate) B.pre
  have hown : s.vm.findClass RX4 = some m.cls := findClass_of_methodNamed B.named
  have hlocks := B.notSynchronized
  have hD := hD0.self (sz := sz)
  generalize hAe : va_A [(h0, .inr (3, [.ref ad, .ref ab, .int 0]))] sz = A at hD ⊢
  have hA : ∀ q : Nat, s.heap.size ≤ q → A q := fun q h => by rw [← hAe]; exact Or.inr (by omega)
  have hS0 : ∀ G : Heap, s.heap = G → va_S A s.heap G [] := fun G h => by subst h; exact va_S.rf
  generalize hHe : s.heap = H at hP ⊢
  have hS := hS0 H hHe
  have hP : va_P (dC, dI) vwCl [(h0, .inr (3, [.ref ad, .ref ab, .int 0]))] H := hP
  have hD : va_D A [(h0, .inr (3, [.ref ad, .ref ab, .int 0]))] := hD
  have hK : va_K (dC, dI) vwCl [] s := hK
  have hl := lv_entry ([.ref h0, .int 0, .int a0, .int w0]) (n := 9) (Nat.le_of_ble_eq_true rfl)
  rw [lg_entry_eq]
  generalize (lg_sl ([.ref h0, .int 0, .int a0, .int w0]) ++ List.replicate (9 - (lg_sl ([.ref h0, .int 0, .int a0, .int w0])).length) Slot.unset).toArray = ls at hl ⊢
  have hl : lv_has ls 9 [(0, .ref h0), (1, .int 0), (2, .int a0), (3, .int w0)] := hl
  refine lv_aload_n hx hb dX4_locate_0 rfl (lv_at hl 0 rfl) ?_
  refine va_get (D := (dC, dI)) (ci := 3) (v := .int 0) (C := RX4) (T := TX4) (N := 3) hx hb hts (by decide +kernel) hown hK hP 0 rfl rfl 2 (by decide) (hts (.fieldLink RX4 16 "UnibusMachine$PageMap" "control" "I") (by decide +kernel)) (fun _ h9 => h9) rfl dX4_locate_1 ?_
  refine lv_iconst (v := 1) hx hb dX4_locate_4 (by decide) ?_
  refine lv_iand hx hb dX4_locate_5 ?_
  refine lv_topi (fun y1 ey1 => ?_)
  obtain rfl : y1 = 0 := by rw [ey1]; decide
  refine lv_if_ne (tgt := 11) hx hb dX4_locate_6 (by decide) (fun c2 => ?_) (fun c2 => ?_)
  · exact absurd c2 (by decide)
  · skip
    refine lv_iload_n hx hb dX4_locate_9 rfl (lv_at hl 2 rfl) ?_
    have hP9 := hP.sub (ws' := [(h0, .inr (3, [.ref ad, .ref ab, .int 0]))]) [0] rfl
    have hD9 := hD.sub (ws' := [(h0, .inr (3, [.ref ad, .ref ab, .int 0]))]) [0] (by decide) rfl
    have hK9 := hK.sub (tys' := []) [] rfl
    exact W.iret (v := a0) hx hb hr (fun t ht hW => ⟨⟨a0, (), rfl, (by first | rfl | omega | assumption), by rw [ht]; exact hP9, va_K.moved hW.alike hK9, hD9⟩, hS.F ht⟩) hS.2.2 dX4_locate_10
set_option maxHeartbeats 4000000 in
set_option maxRecDepth 100000 in
theorem c_place4 (l : Launch) (dC : Nat → ClassId) (dI : Nat → Nat → Nat) (h0 : Nat) (ar : Nat) (oB : Nat) (oS : Nat) (ve : Int32) (am : Nat) (oM : Nat) (oK : Nat) (oL : Nat) (oD : Nat) (ad : Nat) (ab : Nat) (sz : Nat) : Met l yX6_place wsX6_place ({ frames := 1, cells := 0, slots := 0, locals := 28 } : Room) (va_Pc [.ref h0, .int 0, .int 4, .int 0] (fun U => U.heap.size = sz ∧ va_P (dC, dI) vwCl [(h0, .inr (5, [.ref ar, .ref oB, .ref oS, .int 0, .int 0, .int 0, .int ve, .int 0, .int 0])), (oB, .inr (0, [.ref am, .ref oM, .ref oS, .ref oK, .ref oL, .ref oD])), (oM, .inr (3, [.ref ad, .ref ab, .int 0]))] U.heap ∧ va_K (dC, dI) vwCl [] U ∧ va_D (fun _ => True) [(h0, .inr (5, [.ref ar, .ref oB, .ref oS, .int 0, .int 0, .int 0, .int ve, .int 0, .int 0])), (oB, .inr (0, [.ref am, .ref oM, .ref oS, .ref oK, .ref oL, .ref oD])), (oM, .inr (3, [.ref ad, .ref ab, .int 0]))])) (va_Qi (fun (r : Int32) (u : Unit) => (4 = r)) (fun (u : Unit) (t : State) => va_P (dC, dI) vwCl [(h0, .inr (5, [.ref ar, .ref oB, .ref oS, .int 0, .int 0, .int 0, .int ve, .int 0, .int 0])), (oB, .inr (0, [.ref am, .ref oM, .ref oS, .ref oK, .ref oL, .ref oD])), (oM, .inr (3, [.ref ad, .ref ab, .int 0]))] t.heap ∧ va_K (dC, dI) vwCl [] t ∧ va_D (va_A [(h0, .inr (5, [.ref ar, .ref oB, .ref oS, .int 0, .int 0, .int 0, .int ve, .int 0, .int 0])), (oB, .inr (0, [.ref am, .ref oM, .ref oS, .ref oK, .ref oL, .ref oD])), (oM, .inr (3, [.ref ad, .ref ab, .int 0]))] sz) [(h0, .inr (5, [.ref ar, .ref oB, .ref oS, .int 0, .int 0, .int 0, .int ve, .int 0, .int 0])), (oB, .inr (0, [.ref am, .ref oM, .ref oS, .ref oK, .ref oL, .ref oD])), (oM, .inr (3, [.ref ad, .ref ab, .int 0]))]) (va_A [(h0, .inr (5, [.ref ar, .ref oB, .ref oS, .int 0, .int 0, .int 0, .int ve, .int 0, .int 0])), (oB, .inr (0, [.ref am, .ref oM, .ref oS, .ref oK, .ref oL, .ref oD])), (oM, .inr (3, [.ref ad, .ref ab, .int 0]))] sz)) 0 0 (va_A [(h0, .inr (5, [.ref ar, .ref oB, .ref oS, .int 0, .int 0, .int 0, .int ve, .int 0, .int 0])), (oB, .inr (0, [.ref am, .ref oM, .ref oS, .ref oK, .ref oL, .ref oD])), (oM, .inr (3, [.ref ad, .ref ab, .int 0]))] sz) := by
  refine Met.ofW (cc := cX6_place) (maxL := 5) (ret := (some .int)) (by decide) rfl ?_
  intro p e s m args below meth c s₁ B hml hv
  obtain ⟨rfl, hsz, hP, hK, hD0⟩ := hv
  have hx := B.exec
  have hb := B.bytes
  have hr := B.returns
  have hts := atoms_spec (ws := wsX6_place) B.pre
  have hown : s.vm.findClass RX6 = some m.cls := findClass_of_methodNamed B.named
  have hlocks := B.notSynchronized
  have hD := hD0.self (sz := sz)
  generalize hAe : va_A [(h0, .inr (5, [.ref ar, .ref oB, .ref oS, .int 0, .int 0, .int 0, .int ve, .int 0, .int 0])), (oB, .inr (0, [.ref am, .ref oM, .ref oS, .ref oK, .ref oL, .ref oD])), (oM, .inr (3, [.ref ad, .ref ab, .int 0]))] sz = A at hD ⊢
  have hA : ∀ q : Nat, s.heap.size ≤ q → A q := fun q h => by rw [← hAe]; exact Or.inr (by omega)
  have hS0 : ∀ G : Heap, s.heap = G → va_S A s.heap G [] := fun G h => by subst h; exact va_S.rf
  generalize hHe : s.heap = H at hP ⊢
  have hS := hS0 H hHe
  have hP : va_P (dC, dI) vwCl [(h0, .inr (5, [.ref ar, .ref oB, .ref oS, .int 0, .int 0, .int 0, .int ve, .int 0, .int 0])), (oB, .inr (0, [.ref am, .ref oM, .ref oS, .ref oK, .ref oL, .ref oD])), (oM, .inr (3, [.ref ad, .ref ab, .int 0]))] H := hP
  have hD : va_D A [(h0, .inr (5, [.ref ar, .ref oB, .ref oS, .int 0, .int 0, .int 0, .int ve, .int 0, .int 0])), (oB, .inr (0, [.ref am, .ref oM, .ref oS, .ref oK, .ref oL, .ref oD])), (oM, .inr (3, [.ref ad, .ref ab, .int 0]))] := hD
  have hK : va_K (dC, dI) vwCl [] s := hK
  have hl := lv_entry ([.ref h0, .int 0, .int 4, .int 0]) (n := 5) (Nat.le_of_ble_eq_true rfl)
  rw [lg_entry_eq]
  generalize (lg_sl ([.ref h0, .int 0, .int 4, .int 0]) ++ List.replicate (5 - (lg_sl ([.ref h0, .int 0, .int 4, .int 0])).length) Slot.unset).toArray = ls at hl ⊢
  have hl : lv_has ls 5 [(0, .ref h0), (1, .int 0), (2, .int 4), (3, .int 0)] := hl
  refine lv_aload_n hx hb dX6_place_0 rfl (lv_at hl 0 rfl) ?_
  refine va_get (D := (dC, dI)) (ci := 5) (v := .ref oB) (C := RX6) (T := TX6) (N := 9) hx hb hts (by decide +kernel) hown hK hP 0 rfl rfl 1 (by decide) (hts (.fieldLink RX6 33 "UnibusMachine$Processor" "bus" "LUnibusMachine$Bus;") (by decide +kernel)) (fun _ h9 => h9) rfl dX6_place_1 ?_
  refine va_get (D := (dC, dI)) (ci := 0) (v := .ref oM) (C := RX0) (T := TX0) (N := 6) hx hb hts (by decide +kernel) hown hK hP 1 rfl rfl 1 (by decide) (hts (.fieldLink RX6 132 "UnibusMachine$Bus" "map" "LUnibusMachine$PageMap;") (by decide +kernel)) (fun _ h9 => h9) rfl dX6_place_4 ?_
  refine lv_iload_n hx hb dX6_place_7 rfl (lv_at hl 1 rfl) ?_
  refine lv_iload_n hx hb dX6_place_8 rfl (lv_at hl 2 rfl) ?_
  refine lv_iload_n hx hb dX6_place_9 rfl (lv_at hl 3 rfl) ?_
  have hPc := hP.sub (ws' := [(oM, .inr (3, [.ref ad, .ref ab, .int 0]))]) [2] rfl
  have hDc := hD.sub (ws' := [(oM, .inr (3, [.ref ad, .ref ab, .int 0]))]) [2] (by decide) rfl
  have hKc := hK.sub (tys' := []) [] rfl
  have hFc := va_free (wc := [(oM, .inr (3, [.ref ad, .ref ab, .int 0]))]) hD hS hA [2] rfl
  refine va_calli (va_runV (As := [.int 0, .int 4, .int 0]) (rest := []) ⟨hx, hb, hml, hown, hts⟩ (c_locate l dC dI oM ad ab 4 0 H.size) (cwV 3 hts gX6_place_X4_locate rfl rfl rfl (by decide +kernel) ⟨Nat.le_of_ble_eq_true rfl, Nat.le_of_ble_eq_true rfl⟩) ⟨fun a U g mk q => by obtain ⟨q0, q1, qP, qK, qD⟩ := q; exact ⟨q0, q1, qP, va_K.moved (u := U) (U := U.calling g mk a) (Vm.Alike.refl U.vm) qK, qD⟩, va_recv hKc hPc (ci := 3) (q0 := 0) rfl rfl, fun U hU hW => ⟨rfl, by rw [hU], by rw [hU]; exact hPc, va_K.moved hW.alike hKc, hDc.weaken (fun _ _ _ _ => trivial)⟩⟩ rfl rfl hl.1 rfl (lv_room (Nat.le_of_ble_eq_true rfl)) dX6_place_10 ⟨Nat.le_of_ble_eq_true rfl, Nat.le_of_ble_eq_true rfl⟩) hS (fun q _ h => hFc q h) hFc (fun r1 u2 t H1 locs ht hvm hw hB hz1 hk1 hS => ?_)
  obtain ⟨hP1, hK1, hD1⟩ := hB
  rw [ht] at hP1
  have hK1 := va_K.moved hvm.symm hK1
  try dsimp only at hw
  obtain ⟨hP, hD⟩ := va_join (wr := [(h0, .inr (5, [.ref ar, .ref oB, .ref oS, .int 0, .int 0, .int 0, .int ve, .int 0, .int 0])), (oB, .inr (0, [.ref am, .ref oM, .ref oS, .ref oK, .ref oL, .ref oD]))]) (w1 := [(oM, .inr (3, [.ref ad, .ref ab, .int 0]))]) hP hD [2] [0, 1] rfl rfl (by decide) (by decide) hk1 hFc hP1 hD1
  have hK := (hK.sub (tys' := []) [] rfl).app hK1
  generalize H1 = H at hP hS ⊢
  have hP : va_P (dC, dI) vwCl [(h0, .inr (5, [.ref ar, .ref oB, .ref oS, .int 0, .int 0, .int 0, .int ve, .int 0, .int 0])), (oB, .inr (0, [.ref am, .ref oM, .ref oS, .ref oK, .ref oL, .ref oD])), (oM, .inr (3, [.ref ad, .ref ab, .int 0]))] H := hP
  have hD : va_D A [(h0, .inr (5, [.ref ar, .ref oB, .ref oS, .int 0, .int 0, .int 0, .int ve, .int 0, .int 0])), (oB, .inr (0, [.ref am, .ref oM, .ref oS, .ref oK, .ref oL, .ref oD])), (oM, .inr (3, [.ref ad, .ref ab, .int 0]))] := hD
  have hK : va_K (dC, dI) vwCl [] s := hK
  refine W.widen (k := 0) (n := 0) (Nat.le_of_ble_eq_true rfl) (Nat.le_of_ble_eq_true rfl) ?_
  obtain rfl := hw
  refine lv_istore (lv' := [(4, .int 4), (0, .ref h0), (1, .int 0), (2, .int 4), (3, .int 0)]) hx hb dX6_place_13 hl (by decide) rfl (fun ls hl => ?_)
  refine lv_iload hx hb dX6_place_15 (lv_at hl 0 rfl) ?_
  refine lv_if_ge (tgt := 27) hx hb dX6_place_17 (by decide) (fun c3 => ?_) (fun c3 => ?_)
  · skip
    refine lv_iload hx hb dX6_place_27 (lv_at hl 0 rfl) ?_
    have hP9 := hP.sub (ws' := [(h0, .inr (5, [.ref ar, .ref oB, .ref oS, .int 0, .int 0, .int 0, .int ve, .int 0, .int 0])), (oB, .inr (0, [.ref am, .ref oM, .ref oS, .ref oK, .ref oL, .ref oD])), (oM, .inr (3, [.ref ad, .ref ab, .int 0]))]) [0, 1, 2] rfl
    have hD9 := hD.sub (ws' := [(h0, .inr (5, [.ref ar, .ref oB, .ref oS, .int 0, .int 0, .int 0, .int ve, .int 0, .int 0])), (oB, .inr (0, [.ref am, .ref oM, .ref oS, .ref oK, .ref oL, .ref oD])), (oM, .inr (3, [.ref ad, .ref ab, .int 0]))]) [0, 1, 2] (by decide) rfl
    have hK9 := hK.sub (tys' := []) [] rfl
    exact W.iret (v := 4) hx hb hr (fun t ht hW => ⟨⟨4, (), rfl, rfl, by rw [ht]; exact hP9, va_K.moved hW.alike hK9, hD9⟩, hS.F ht⟩) hS.2.2 dX6_place_29
  · exact absurd c3 (by decide)
set_option maxHeartbeats 4000000 in
set_option maxRecDepth 100000 in
theorem c_place6 (l : Launch) (dC : Nat → ClassId) (dI : Nat → Nat → Nat) (h0 : Nat) (ar : Nat) (oB : Nat) (oS : Nat) (ve : Int32) (am : Nat) (oM : Nat) (oK : Nat) (oL : Nat) (oD : Nat) (ad : Nat) (ab : Nat) (sz : Nat) : Met l yX6_place wsX6_place ({ frames := 1, cells := 0, slots := 0, locals := 28 } : Room) (va_Pc [.ref h0, .int 0, .int 6, .int 0] (fun U => U.heap.size = sz ∧ va_P (dC, dI) vwCl [(h0, .inr (5, [.ref ar, .ref oB, .ref oS, .int 0, .int 0, .int 0, .int ve, .int 0, .int 0])), (oB, .inr (0, [.ref am, .ref oM, .ref oS, .ref oK, .ref oL, .ref oD])), (oM, .inr (3, [.ref ad, .ref ab, .int 0]))] U.heap ∧ va_K (dC, dI) vwCl [] U ∧ va_D (fun _ => True) [(h0, .inr (5, [.ref ar, .ref oB, .ref oS, .int 0, .int 0, .int 0, .int ve, .int 0, .int 0])), (oB, .inr (0, [.ref am, .ref oM, .ref oS, .ref oK, .ref oL, .ref oD])), (oM, .inr (3, [.ref ad, .ref ab, .int 0]))])) (va_Qi (fun (r : Int32) (u : Unit) => (6 = r)) (fun (u : Unit) (t : State) => va_P (dC, dI) vwCl [(h0, .inr (5, [.ref ar, .ref oB, .ref oS, .int 0, .int 0, .int 0, .int ve, .int 0, .int 0])), (oB, .inr (0, [.ref am, .ref oM, .ref oS, .ref oK, .ref oL, .ref oD])), (oM, .inr (3, [.ref ad, .ref ab, .int 0]))] t.heap ∧ va_K (dC, dI) vwCl [] t ∧ va_D (va_A [(h0, .inr (5, [.ref ar, .ref oB, .ref oS, .int 0, .int 0, .int 0, .int ve, .int 0, .int 0])), (oB, .inr (0, [.ref am, .ref oM, .ref oS, .ref oK, .ref oL, .ref oD])), (oM, .inr (3, [.ref ad, .ref ab, .int 0]))] sz) [(h0, .inr (5, [.ref ar, .ref oB, .ref oS, .int 0, .int 0, .int 0, .int ve, .int 0, .int 0])), (oB, .inr (0, [.ref am, .ref oM, .ref oS, .ref oK, .ref oL, .ref oD])), (oM, .inr (3, [.ref ad, .ref ab, .int 0]))]) (va_A [(h0, .inr (5, [.ref ar, .ref oB, .ref oS, .int 0, .int 0, .int 0, .int ve, .int 0, .int 0])), (oB, .inr (0, [.ref am, .ref oM, .ref oS, .ref oK, .ref oL, .ref oD])), (oM, .inr (3, [.ref ad, .ref ab, .int 0]))] sz)) 0 0 (va_A [(h0, .inr (5, [.ref ar, .ref oB, .ref oS, .int 0, .int 0, .int 0, .int ve, .int 0, .int 0])), (oB, .inr (0, [.ref am, .ref oM, .ref oS, .ref oK, .ref oL, .ref oD])), (oM, .inr (3, [.ref ad, .ref ab, .int 0]))] sz) := by
  refine Met.ofW (cc := cX6_place) (maxL := 5) (ret := (some .int)) (by decide) rfl ?_
  intro p e s m args below meth c s₁ B hml hv
  obtain ⟨rfl, hsz, hP, hK, hD0⟩ := hv
  have hx := B.exec
  have hb := B.bytes
  have hr := B.returns
  have hts := atoms_spec (ws := wsX6_place) B.pre
  have hown : s.vm.findClass RX6 = some m.cls := findClass_of_methodNamed B.named
  have hlocks := B.notSynchronized
  have hD := hD0.self (sz := sz)
  generalize hAe : va_A [(h0, .inr (5, [.ref ar, .ref oB, .ref oS, .int 0, .int 0, .int 0, .int ve, .int 0, .int 0])), (oB, .inr (0, [.ref am, .ref oM, .ref oS, .ref oK, .ref oL, .ref oD])), (oM, .inr (3, [.ref ad, .ref ab, .int 0]))] sz = A at hD ⊢
  have hA : ∀ q : Nat, s.heap.size ≤ q → A q := fun q h => by rw [← hAe]; exact Or.inr (by omega)
  have hS0 : ∀ G : Heap, s.heap = G → va_S A s.heap G [] := fun G h => by subst h; exact va_S.rf
  generalize hHe : s.heap = H at hP ⊢
  have hS := hS0 H hHe
  have hP : va_P (dC, dI) vwCl [(h0, .inr (5, [.ref ar, .ref oB, .ref oS, .int 0, .int 0, .int 0, .int ve, .int 0, .int 0])), (oB, .inr (0, [.ref am, .ref oM, .ref oS, .ref oK, .ref oL, .ref oD])), (oM, .inr (3, [.ref ad, .ref ab, .int 0]))] H := hP
  have hD : va_D A [(h0, .inr (5, [.ref ar, .ref oB, .ref oS, .int 0, .int 0, .int 0, .int ve, .int 0, .int 0])), (oB, .inr (0, [.ref am, .ref oM, .ref oS, .ref oK, .ref oL, .ref oD])), (oM, .inr (3, [.ref ad, .ref ab, .int 0]))] := hD
  have hK : va_K (dC, dI) vwCl [] s := hK
  have hl := lv_entry ([.ref h0, .int 0, .int 6, .int 0]) (n := 5) (Nat.le_of_ble_eq_true rfl)
  rw [lg_entry_eq]
  generalize (lg_sl ([.ref h0, .int 0, .int 6, .int 0]) ++ List.replicate (5 - (lg_sl ([.ref h0, .int 0, .int 6, .int 0])).length) Slot.unset).toArray = ls at hl ⊢
  have hl : lv_has ls 5 [(0, .ref h0), (1, .int 0), (2, .int 6), (3, .int 0)] := hl
  refine lv_aload_n hx hb dX6_place_0 rfl (lv_at hl 0 rfl) ?_
  refine va_get (D := (dC, dI)) (ci := 5) (v := .ref oB) (C := RX6) (T := TX6) (N := 9) hx hb hts (by decide +kernel) hown hK hP 0 rfl rfl 1 (by decide) (hts (.fieldLink RX6 33 "UnibusMachine$Processor" "bus" "LUnibusMachine$Bus;") (by decide +kernel)) (fun _ h9 => h9) rfl dX6_place_1 ?_
  refine va_get (D := (dC, dI)) (ci := 0) (v := .ref oM) (C := RX0) (T := TX0) (N := 6) hx hb hts (by decide +kernel) hown hK hP 1 rfl rfl 1 (by decide) (hts (.fieldLink RX6 132 "UnibusMachine$Bus" "map" "LUnibusMachine$PageMap;") (by decide +kernel)) (fun _ h9 => h9) rfl dX6_place_4 ?_
  refine lv_iload_n hx hb dX6_place_7 rfl (lv_at hl 1 rfl) ?_
  refine lv_iload_n hx hb dX6_place_8 rfl (lv_at hl 2 rfl) ?_
  refine lv_iload_n hx hb dX6_place_9 rfl (lv_at hl 3 rfl) ?_
  have hPc := hP.sub (ws' := [(oM, .inr (3, [.ref ad, .ref ab, .int 0]))]) [2] rfl
  have hDc := hD.sub (ws' := [(oM, .inr (3, [.ref ad, .ref ab, .int 0]))]) [2] (by decide) rfl
  have hKc := hK.sub (tys' := []) [] rfl
  have hFc := va_free (wc := [(oM, .inr (3, [.ref ad, .ref ab, .int 0]))]) hD hS hA [2] rfl
  refine va_calli (va_runV (As := [.int 0, .int 6, .int 0]) (rest := []) ⟨hx, hb, hml, hown, hts⟩ (c_locate l dC dI oM ad ab 6 0 H.size) (cwV 3 hts gX6_place_X4_locate rfl rfl rfl (by decide +kernel) ⟨Nat.le_of_ble_eq_true rfl, Nat.le_of_ble_eq_true rfl⟩) ⟨fun a U g mk q => by obtain ⟨q0, q1, qP, qK, qD⟩ := q; exact ⟨q0, q1, qP, va_K.moved (u := U) (U := U.calling g mk a) (Vm.Alike.refl U.vm) qK, qD⟩, va_recv hKc hPc (ci := 3) (q0 := 0) rfl rfl, fun U hU hW => ⟨rfl, by rw [hU], by rw [hU]; exact hPc, va_K.moved hW.alike hKc, hDc.weaken (fun _ _ _ _ => trivial)⟩⟩ rfl rfl hl.1 rfl (lv_room (Nat.le_of_ble_eq_true rfl)) dX6_place_10 ⟨Nat.le_of_ble_eq_true rfl, Nat.le_of_ble_eq_true rfl⟩) hS (fun q _ h => hFc q h) hFc (fun r1 u2 t H1 locs ht hvm hw hB hz1 hk1 hS => ?_)
  obtain ⟨hP1, hK1, hD1⟩ := hB
  rw [ht] at hP1
  have hK1 := va_K.moved hvm.symm hK1
  try dsimp only at hw
  obtain ⟨hP, hD⟩ := va_join (wr := [(h0, .inr (5, [.ref ar, .ref oB, .ref oS, .int 0, .int 0, .int 0, .int ve, .int 0, .int 0])), (oB, .inr (0, [.ref am, .ref oM, .ref oS, .ref oK, .ref oL, .ref oD]))]) (w1 := [(oM, .inr (3, [.ref ad, .ref ab, .int 0]))]) hP hD [2] [0, 1] rfl rfl (by decide) (by decide) hk1 hFc hP1 hD1
  have hK := (hK.sub (tys' := []) [] rfl).app hK1
  generalize H1 = H at hP hS ⊢
  have hP : va_P (dC, dI) vwCl [(h0, .inr (5, [.ref ar, .ref oB, .ref oS, .int 0, .int 0, .int 0, .int ve, .int 0, .int 0])), (oB, .inr (0, [.ref am, .ref oM, .ref oS, .ref oK, .ref oL, .ref oD])), (oM, .inr (3, [.ref ad, .ref ab, .int 0]))] H := hP
  have hD : va_D A [(h0, .inr (5, [.ref ar, .ref oB, .ref oS, .int 0, .int 0, .int 0, .int ve, .int 0, .int 0])), (oB, .inr (0, [.ref am, .ref oM, .ref oS, .ref oK, .ref oL, .ref oD])), (oM, .inr (3, [.ref ad, .ref ab, .int 0]))] := hD
  have hK : va_K (dC, dI) vwCl [] s := hK
  refine W.widen (k := 0) (n := 0) (Nat.le_of_ble_eq_true rfl) (Nat.le_of_ble_eq_true rfl) ?_
  obtain rfl := hw
  refine lv_istore (lv' := [(4, .int 6), (0, .ref h0), (1, .int 0), (2, .int 6), (3, .int 0)]) hx hb dX6_place_13 hl (by decide) rfl (fun ls hl => ?_)
  refine lv_iload hx hb dX6_place_15 (lv_at hl 0 rfl) ?_
  refine lv_if_ge (tgt := 27) hx hb dX6_place_17 (by decide) (fun c3 => ?_) (fun c3 => ?_)
  · skip
    refine lv_iload hx hb dX6_place_27 (lv_at hl 0 rfl) ?_
    have hP9 := hP.sub (ws' := [(h0, .inr (5, [.ref ar, .ref oB, .ref oS, .int 0, .int 0, .int 0, .int ve, .int 0, .int 0])), (oB, .inr (0, [.ref am, .ref oM, .ref oS, .ref oK, .ref oL, .ref oD])), (oM, .inr (3, [.ref ad, .ref ab, .int 0]))]) [0, 1, 2] rfl
    have hD9 := hD.sub (ws' := [(h0, .inr (5, [.ref ar, .ref oB, .ref oS, .int 0, .int 0, .int 0, .int ve, .int 0, .int 0])), (oB, .inr (0, [.ref am, .ref oM, .ref oS, .ref oK, .ref oL, .ref oD])), (oM, .inr (3, [.ref ad, .ref ab, .int 0]))]) [0, 1, 2] (by decide) rfl
    have hK9 := hK.sub (tys' := []) [] rfl
    exact W.iret (v := 6) hx hb hr (fun t ht hW => ⟨⟨6, (), rfl, rfl, by rw [ht]; exact hP9, va_K.moved hW.alike hK9, hD9⟩, hS.F ht⟩) hS.2.2 dX6_place_29
  · exact absurd c3 (by decide)
set_option maxHeartbeats 4000000 in
set_option maxRecDepth 100000 in
theorem c_placeW (l : Launch) (dC : Nat → ClassId) (dI : Nat → Nat → Nat) (h0 : Nat) (ar : Nat) (oB : Nat) (oS : Nat) (ve : Int32) (am : Nat) (oM : Nat) (oK : Nat) (oL : Nat) (oD : Nat) (ad : Nat) (ab : Nat) (a0 : Int32) (sz : Nat) (hH0 : 0 ≤ a0.toInt) : Met l yX6_place wsX6_place ({ frames := 1, cells := 0, slots := 0, locals := 28 } : Room) (va_Pc [.ref h0, .int 0, .int a0, .int 1] (fun U => U.heap.size = sz ∧ va_P (dC, dI) vwCl [(h0, .inr (5, [.ref ar, .ref oB, .ref oS, .int 0, .int 0, .int 0, .int ve, .int 0, .int 0])), (oB, .inr (0, [.ref am, .ref oM, .ref oS, .ref oK, .ref oL, .ref oD])), (oM, .inr (3, [.ref ad, .ref ab, .int 0]))] U.heap ∧ va_K (dC, dI) vwCl [] U ∧ va_D (fun _ => True) [(h0, .inr (5, [.ref ar, .ref oB, .ref oS, .int 0, .int 0, .int 0, .int ve, .int 0, .int 0])), (oB, .inr (0, [.ref am, .ref oM, .ref oS, .ref oK, .ref oL, .ref oD])), (oM, .inr (3, [.ref ad, .ref ab, .int 0]))])) (va_Qi (fun (r : Int32) (u : Unit) => (a0 = r)) (fun (u : Unit) (t : State) => va_P (dC, dI) vwCl [(h0, .inr (5, [.ref ar, .ref oB, .ref oS, .int 0, .int 0, .int 0, .int ve, .int 0, .int 0])), (oB, .inr (0, [.ref am, .ref oM, .ref oS, .ref oK, .ref oL, .ref oD])), (oM, .inr (3, [.ref ad, .ref ab, .int 0]))] t.heap ∧ va_K (dC, dI) vwCl [] t ∧ va_D (va_A [(h0, .inr (5, [.ref ar, .ref oB, .ref oS, .int 0, .int 0, .int 0, .int ve, .int 0, .int 0])), (oB, .inr (0, [.ref am, .ref oM, .ref oS, .ref oK, .ref oL, .ref oD])), (oM, .inr (3, [.ref ad, .ref ab, .int 0]))] sz) [(h0, .inr (5, [.ref ar, .ref oB, .ref oS, .int 0, .int 0, .int 0, .int ve, .int 0, .int 0])), (oB, .inr (0, [.ref am, .ref oM, .ref oS, .ref oK, .ref oL, .ref oD])), (oM, .inr (3, [.ref ad, .ref ab, .int 0]))]) (va_A [(h0, .inr (5, [.ref ar, .ref oB, .ref oS, .int 0, .int 0, .int 0, .int ve, .int 0, .int 0])), (oB, .inr (0, [.ref am, .ref oM, .ref oS, .ref oK, .ref oL, .ref oD])), (oM, .inr (3, [.ref ad, .ref ab, .int 0]))] sz)) 0 0 (va_A [(h0, .inr (5, [.ref ar, .ref oB, .ref oS, .int 0, .int 0, .int 0, .int ve, .int 0, .int 0])), (oB, .inr (0, [.ref am, .ref oM, .ref oS, .ref oK, .ref oL, .ref oD])), (oM, .inr (3, [.ref ad, .ref ab, .int 0]))] sz) := by
  refine Met.ofW (cc := cX6_place) (maxL := 5) (ret := (some .int)) (by decide) rfl ?_
  intro p e s m args below meth c s₁ B hml hv
  obtain ⟨rfl, hsz, hP, hK, hD0⟩ := hv
  have hx := B.exec
  have hb := B.bytes
  have hr := B.returns
  have hts := atoms_spec (ws := wsX6_place) B.pre
  have hown : s.vm.findClass RX6 = some m.cls := findClass_of_methodNamed B.named
  have hlocks := B.notSynchronized
  have hD := hD0.self (sz := sz)
  generalize hAe : va_A [(h0, .inr (5, [.ref ar, .ref oB, .ref oS, .int 0, .int 0, .int 0, .int ve, .int 0, .int 0])), (oB, .inr (0, [.ref am, .ref oM, .ref oS, .ref oK, .ref oL, .ref oD])), (oM, .inr (3, [.ref ad, .ref ab, .int 0]))] sz = A at hD ⊢
  have hA : ∀ q : Nat, s.heap.size ≤ q → A q := fun q h => by rw [← hAe]; exact Or.inr (by omega)
  have hS0 : ∀ G : Heap, s.heap = G → va_S A s.heap G [] := fun G h => by subst h; exact va_S.rf
  generalize hHe : s.heap = H at hP ⊢
  have hS := hS0 H hHe
  have hP : va_P (dC, dI) vwCl [(h0, .inr (5, [.ref ar, .ref oB, .ref oS, .int 0, .int 0, .int 0, .int ve, .int 0, .int 0])), (oB, .inr (0, [.ref am, .ref oM, .ref oS, .ref oK, .ref oL, .ref oD])), (oM, .inr (3, [.ref ad, .ref ab, .int 0]))] H := hP
  have hD : va_D A [(h0, .inr (5, [.ref ar, .ref oB, .ref oS, .int 0, .int 0, .int 0, .int ve, .int 0, .int 0])), (oB, .inr (0, [.ref am, .ref oM, .ref oS, .ref oK, .ref oL, .ref oD])), (oM, .inr (3, [.ref ad, .ref ab, .int 0]))] := hD
  have hK : va_K (dC, dI) vwCl [] s := hK
  have hl := lv_entry ([.ref h0, .int 0, .int a0, .int 1]) (n := 5) (Nat.le_of_ble_eq_true rfl)
  rw [lg_entry_eq]
  generalize (lg_sl ([.ref h0, .int 0, .int a0, .int 1]) ++ List.replicate (5 - (lg_sl ([.ref h0, .int 0, .int a0, .int 1])).length) Slot.unset).toArray = ls at hl ⊢
  have hl : lv_has ls 5 [(0, .ref h0), (1, .int 0), (2, .int a0), (3, .int 1)] := hl
  refine lv_aload_n hx hb dX6_place_0 rfl (lv_at hl 0 rfl) ?_
  refine va_get (D := (dC, dI)) (ci := 5) (v := .ref oB) (C := RX6) (T := TX6) (N := 9) hx hb hts (by decide +kernel) hown hK hP 0 rfl rfl 1 (by decide) (hts (.fieldLink RX6 33 "UnibusMachine$Processor" "bus" "LUnibusMachine$Bus;") (by decide +kernel)) (fun _ h9 => h9) rfl dX6_place_1 ?_
  refine va_get (D := (dC, dI)) (ci := 0) (v := .ref oM) (C := RX0) (T := TX0) (N := 6) hx hb hts (by decide +kernel) hown hK hP 1 rfl rfl 1 (by decide) (hts (.fieldLink RX6 132 "UnibusMachine$Bus" "map" "LUnibusMachine$PageMap;") (by decide +kernel)) (fun _ h9 => h9) rfl dX6_place_4 ?_
  refine lv_iload_n hx hb dX6_place_7 rfl (lv_at hl 1 rfl) ?_
  refine lv_iload_n hx hb dX6_place_8 rfl (lv_at hl 2 rfl) ?_
  refine lv_iload_n hx hb dX6_place_9 rfl (lv_at hl 3 rfl) ?_
  have hPc := hP.sub (ws' := [(oM, .inr (3, [.ref ad, .ref ab, .int 0]))]) [2] rfl
  have hDc := hD.sub (ws' := [(oM, .inr (3, [.ref ad, .ref ab, .int 0]))]) [2] (by decide) rfl
  have hKc := hK.sub (tys' := []) [] rfl
  have hFc := va_free (wc := [(oM, .inr (3, [.ref ad, .ref ab, .int 0]))]) hD hS hA [2] rfl
  refine va_calli (va_runV (As := [.int 0, .int a0, .int 1]) (rest := []) ⟨hx, hb, hml, hown, hts⟩ (c_locate l dC dI oM ad ab a0 1 H.size) (cwV 3 hts gX6_place_X4_locate rfl rfl rfl (by decide +kernel) ⟨Nat.le_of_ble_eq_true rfl, Nat.le_of_ble_eq_true rfl⟩) ⟨fun a U g mk q => by obtain ⟨q0, q1, qP, qK, qD⟩ := q; exact ⟨q0, q1, qP, va_K.moved (u := U) (U := U.calling g mk a) (Vm.Alike.refl U.vm) qK, qD⟩, va_recv hKc hPc (ci := 3) (q0 := 0) rfl rfl, fun U hU hW => ⟨rfl, by rw [hU], by rw [hU]; exact hPc, va_K.moved hW.alike hKc, hDc.weaken (fun _ _ _ _ => trivial)⟩⟩ rfl rfl hl.1 rfl (lv_room (Nat.le_of_ble_eq_true rfl)) dX6_place_10 ⟨Nat.le_of_ble_eq_true rfl, Nat.le_of_ble_eq_true rfl⟩) hS (fun q _ h => hFc q h) hFc (fun r1 u2 t H1 locs ht hvm hw hB hz1 hk1 hS => ?_)
  obtain ⟨hP1, hK1, hD1⟩ := hB
  rw [ht] at hP1
  have hK1 := va_K.moved hvm.symm hK1
  try dsimp only at hw
  obtain ⟨hP, hD⟩ := va_join (wr := [(h0, .inr (5, [.ref ar, .ref oB, .ref oS, .int 0, .int 0, .int 0, .int ve, .int 0, .int 0])), (oB, .inr (0, [.ref am, .ref oM, .ref oS, .ref oK, .ref oL, .ref oD]))]) (w1 := [(oM, .inr (3, [.ref ad, .ref ab, .int 0]))]) hP hD [2] [0, 1] rfl rfl (by decide) (by decide) hk1 hFc hP1 hD1
  have hK := (hK.sub (tys' := []) [] rfl).app hK1
  generalize H1 = H at hP hS ⊢
  have hP : va_P (dC, dI) vwCl [(h0, .inr (5, [.ref ar, .ref oB, .ref oS, .int 0, .int 0, .int 0, .int ve, .int 0, .int 0])), (oB, .inr (0, [.ref am, .ref oM, .ref oS, .ref oK, .ref oL, .ref oD])), (oM, .inr (3, [.ref ad, .ref ab, .int 0]))] H := hP
  have hD : va_D A [(h0, .inr (5, [.ref ar, .ref oB, .ref oS, .int 0, .int 0, .int 0, .int ve, .int 0, .int 0])), (oB, .inr (0, [.ref am, .ref oM, .ref oS, .ref oK, .ref oL, .ref oD])), (oM, .inr (3, [.ref ad, .ref ab, .int 0]))] := hD
  have hK : va_K (dC, dI) vwCl [] s := hK
  refine W.widen (k := 0) (n := 0) (Nat.le_of_ble_eq_true rfl) (Nat.le_of_ble_eq_true rfl) ?_
  obtain rfl := hw
  refine lv_istore (lv' := [(4, .int a0), (0, .ref h0), (1, .int 0), (2, .int a0), (3, .int 1)]) hx hb dX6_place_13 hl (by decide) rfl (fun ls hl => ?_)
  refine lv_iload hx hb dX6_place_15 (lv_at hl 0 rfl) ?_
  refine lv_if_ge (tgt := 27) hx hb dX6_place_17 (by decide) (fun c3 => ?_) (fun c3 => ?_)
  · have c3 := fz_le.mp c3
    have kk0 : (0 : Int32).toInt = 0 := by decide
    refine lv_iload hx hb dX6_place_27 (lv_at hl 0 rfl) ?_
    have hP9 := hP.sub (ws' := [(h0, .inr (5, [.ref ar, .ref oB, .ref oS, .int 0, .int 0, .int 0, .int ve, .int 0, .int 0])), (oB, .inr (0, [.ref am, .ref oM, .ref oS, .ref oK, .ref oL, .ref oD])), (oM, .inr (3, [.ref ad, .ref ab, .int 0]))]) [0, 1, 2] rfl
    have hD9 := hD.sub (ws' := [(h0, .inr (5, [.ref ar, .ref oB, .ref oS, .int 0, .int 0, .int 0, .int ve, .int 0, .int 0])), (oB, .inr (0, [.ref am, .ref oM, .ref oS, .ref oK, .ref oL, .ref oD])), (oM, .inr (3, [.ref ad, .ref ab, .int 0]))]) [0, 1, 2] (by decide) rfl
    have hK9 := hK.sub (tys' := []) [] rfl
    exact W.iret (v := a0) hx hb hr (fun t ht hW => ⟨⟨a0, (), rfl, (by first | rfl | omega | assumption), by rw [ht]; exact hP9, va_K.moved hW.alike hK9, hD9⟩, hS.F ht⟩) hS.2.2 dX6_place_29
  · have c3 := fz_nle.mp c3
    have kk0 : (0 : Int32).toInt = 0 := by decide
    exact False.elim (by omega)
set_option maxHeartbeats 4000000 in
set_option maxRecDepth 100000 in
theorem c_readWord4 (l : Launch) (dC : Nat → ClassId) (dI : Nat → Nat → Nat) (h0 : Nat) (ar : Nat) (oB : Nat) (oS : Nat) (ve : Int32) (am : Nat) (oM : Nat) (oK : Nat) (oL : Nat) (oD : Nat) (ad : Nat) (ab : Nat) (tm : ClassId) (f : Nat → Int32) (sz : Nat) (hF0 : f (2 : Int32).toNatClampNeg = 1) : Met l yX6_readWord wsX6_readWord ({ frames := 2, cells := 0, slots := 0, locals := 52 } : Room) (va_Pc [.ref h0, .int 0, .int 4] (fun U => U.heap.size = sz ∧ va_P (dC, dI) vwCl [(h0, .inr (5, [.ref ar, .ref oB, .ref oS, .int 0, .int 0, .int 0, .int ve, .int 0, .int 0])), (oB, .inr (0, [.ref am, .ref oM, .ref oS, .ref oK, .ref oL, .ref oD])), (oM, .inr (3, [.ref ad, .ref ab, .int 0])), (am, .inl (tm, 512, .inl f))] U.heap ∧ va_K (dC, dI) vwCl [(tm, .int)] U ∧ va_D (fun _ => True) [(h0, .inr (5, [.ref ar, .ref oB, .ref oS, .int 0, .int 0, .int 0, .int ve, .int 0, .int 0])), (oB, .inr (0, [.ref am, .ref oM, .ref oS, .ref oK, .ref oL, .ref oD])), (oM, .inr (3, [.ref ad, .ref ab, .int 0])), (am, .inl (tm, 512, .inl f))])) (va_Qi (fun (r : Int32) (u : Unit) => (1 = r)) (fun (u : Unit) (t : State) => va_P (dC, dI) vwCl [(h0, .inr (5, [.ref ar, .ref oB, .ref oS, .int 0, .int 0, .int 0, .int ve, .int 0, .int 0])), (oB, .inr (0, [.ref am, .ref oM, .ref oS, .ref oK, .ref oL, .ref oD])), (oM, .inr (3, [.ref ad, .ref ab, .int 0])), (am, .inl (tm, 512, .inl f))] t.heap ∧ va_K (dC, dI) vwCl [(tm, .int)] t ∧ va_D (va_A [(h0, .inr (5, [.ref ar, .ref oB, .ref oS, .int 0, .int 0, .int 0, .int ve, .int 0, .int 0])), (oB, .inr (0, [.ref am, .ref oM, .ref oS, .ref oK, .ref oL, .ref oD])), (oM, .inr (3, [.ref ad, .ref ab, .int 0])), (am, .inl (tm, 512, .inl f))] sz) [(h0, .inr (5, [.ref ar, .ref oB, .ref oS, .int 0, .int 0, .int 0, .int ve, .int 0, .int 0])), (oB, .inr (0, [.ref am, .ref oM, .ref oS, .ref oK, .ref oL, .ref oD])), (oM, .inr (3, [.ref ad, .ref ab, .int 0])), (am, .inl (tm, 512, .inl f))]) (va_A [(h0, .inr (5, [.ref ar, .ref oB, .ref oS, .int 0, .int 0, .int 0, .int ve, .int 0, .int 0])), (oB, .inr (0, [.ref am, .ref oM, .ref oS, .ref oK, .ref oL, .ref oD])), (oM, .inr (3, [.ref ad, .ref ab, .int 0])), (am, .inl (tm, 512, .inl f))] sz)) 0 0 (va_A [(h0, .inr (5, [.ref ar, .ref oB, .ref oS, .int 0, .int 0, .int 0, .int ve, .int 0, .int 0])), (oB, .inr (0, [.ref am, .ref oM, .ref oS, .ref oK, .ref oL, .ref oD])), (oM, .inr (3, [.ref ad, .ref ab, .int 0])), (am, .inl (tm, 512, .inl f))] sz) := by
  refine Met.ofW (cc := cX6_readWord) (maxL := 4) (ret := (some .int)) (by decide) rfl ?_
  intro p e s m args below meth c s₁ B hml hv
  obtain ⟨rfl, hsz, hP, hK, hD0⟩ := hv
  have hx := B.exec
  have hb := B.bytes
  have hr := B.returns
  have hts := atoms_spec (ws := wsX6_readWord) B.pre
  have hown : s.vm.findClass RX6 = some m.cls := findClass_of_methodNamed B.named
  have hlocks := B.notSynchronized
  have hD := hD0.self (sz := sz)
  generalize hAe : va_A [(h0, .inr (5, [.ref ar, .ref oB, .ref oS, .int 0, .int 0, .int 0, .int ve, .int 0, .int 0])), (oB, .inr (0, [.ref am, .ref oM, .ref oS, .ref oK, .ref oL, .ref oD])), (oM, .inr (3, [.ref ad, .ref ab, .int 0])), (am, .inl (tm, 512, .inl f))] sz = A at hD ⊢
  have hA : ∀ q : Nat, s.heap.size ≤ q → A q := fun q h => by rw [← hAe]; exact Or.inr (by omega)
  have hS0 : ∀ G : Heap, s.heap = G → va_S A s.heap G [] := fun G h => by subst h; exact va_S.rf
  generalize hHe : s.heap = H at hP ⊢
  have hS := hS0 H hHe
  have hP : va_P (dC, dI) vwCl [(h0, .inr (5, [.ref ar, .ref oB, .ref oS, .int 0, .int 0, .int 0, .int ve, .int 0, .int 0])), (oB, .inr (0, [.ref am, .ref oM, .ref oS, .ref oK, .ref oL, .ref oD])), (oM, .inr (3, [.ref ad, .ref ab, .int 0])), (am, .inl (tm, 512, .inl f))] H := hP
  have hD : va_D A [(h0, .inr (5, [.ref ar, .ref oB, .ref oS, .int 0, .int 0, .int 0, .int ve, .int 0, .int 0])), (oB, .inr (0, [.ref am, .ref oM, .ref oS, .ref oK, .ref oL, .ref oD])), (oM, .inr (3, [.ref ad, .ref ab, .int 0])), (am, .inl (tm, 512, .inl f))] := hD
  have hK : va_K (dC, dI) vwCl [(tm, .int)] s := hK
  have hl := lv_entry ([.ref h0, .int 0, .int 4]) (n := 4) (Nat.le_of_ble_eq_true rfl)
  rw [lg_entry_eq]
  generalize (lg_sl ([.ref h0, .int 0, .int 4]) ++ List.replicate (4 - (lg_sl ([.ref h0, .int 0, .int 4])).length) Slot.unset).toArray = ls at hl ⊢
  have hl : lv_has ls 4 [(0, .ref h0), (1, .int 0), (2, .int 4)] := hl
  refine lv_iload_n hx hb dX6_readWord_0 rfl (lv_at hl 2 rfl) ?_
  refine lv_iconst (v := 1) hx hb dX6_readWord_1 (by decide) ?_
  refine lv_iand hx hb dX6_readWord_2 ?_
  refine lv_topi (fun y1 ey1 => ?_)
  obtain rfl : y1 = 0 := by rw [ey1]; decide
  refine lv_if_eq (tgt := 11) hx hb dX6_readWord_3 (by decide) (fun c2 => ?_) (fun c2 => ?_)
  · skip
    refine lv_aload_n hx hb dX6_readWord_11 rfl (lv_at hl 0 rfl) ?_
    refine va_get (D := (dC, dI)) (ci := 5) (v := .ref oB) (C := RX6) (T := TX6) (N := 9) hx hb hts (by decide +kernel) hown hK hP 0 rfl rfl 1 (by decide) (hts (.fieldLink RX6 33 "UnibusMachine$Processor" "bus" "LUnibusMachine$Bus;") (by decide +kernel)) (fun _ h9 => h9) rfl dX6_readWord_12 ?_
    refine lv_aload_n hx hb dX6_readWord_15 rfl (lv_at hl 0 rfl) ?_
    refine lv_iload_n hx hb dX6_readWord_16 rfl (lv_at hl 1 rfl) ?_
    refine lv_iload_n hx hb dX6_readWord_17 rfl (lv_at hl 2 rfl) ?_
    refine lv_iconst (v := 0) hx hb dX6_readWord_18 (by decide) ?_
    have hPc := hP.sub (ws' := [(h0, .inr (5, [.ref ar, .ref oB, .ref oS, .int 0, .int 0, .int 0, .int ve, .int 0, .int 0])), (oB, .inr (0, [.ref am, .ref oM, .ref oS, .ref oK, .ref oL, .ref oD])), (oM, .inr (3, [.ref ad, .ref ab, .int 0]))]) [0, 1, 2] rfl
    have hDc := hD.sub (ws' := [(h0, .inr (5, [.ref ar, .ref oB, .ref oS, .int 0, .int 0, .int 0, .int ve, .int 0, .int 0])), (oB, .inr (0, [.ref am, .ref oM, .ref oS, .ref oK, .ref oL, .ref oD])), (oM, .inr (3, [.ref ad, .ref ab, .int 0]))]) [0, 1, 2] (by decide) rfl
    have hKc := hK.sub (tys' := []) [] rfl
    have hFc := va_free (wc := [(h0, .inr (5, [.ref ar, .ref oB, .ref oS, .int 0, .int 0, .int 0, .int ve, .int 0, .int 0])), (oB, .inr (0, [.ref am, .ref oM, .ref oS, .ref oK, .ref oL, .ref oD])), (oM, .inr (3, [.ref ad, .ref ab, .int 0]))]) hD hS hA [0, 1, 2] rfl
    refine va_calli (va_runV (As := [.int 0, .int 4, .int 0]) (rest := [.ref oB]) ⟨hx, hb, hml, hown, hts⟩ (c_place4 l dC dI h0 ar oB oS ve am oM oK oL oD ad ab H.size) (cwV 3 hts gX6_readWord_X6_place rfl rfl rfl (by decide +kernel) ⟨Nat.le_of_ble_eq_true rfl, Nat.le_of_ble_eq_true rfl⟩) ⟨fun a U g mk q => by obtain ⟨q0, q1, qP, qK, qD⟩ := q; exact ⟨q0, q1, qP, va_K.moved (u := U) (U := U.calling g mk a) (Vm.Alike.refl U.vm) qK, qD⟩, va_recv hKc hPc (ci := 5) (q0 := 0) rfl rfl, fun U hU hW => ⟨rfl, by rw [hU], by rw [hU]; exact hPc, va_K.moved hW.alike hKc, hDc.weaken (fun _ _ _ _ => trivial)⟩⟩ rfl rfl hl.1 rfl (lv_room (Nat.le_of_ble_eq_true rfl)) dX6_readWord_19 ⟨Nat.le_of_ble_eq_true rfl, Nat.le_of_ble_eq_true rfl⟩) hS (fun q _ h => hFc q h) hFc (fun r3 u4 t H1 locs ht hvm hw hB hz1 hk1 hS => ?_)
    obtain ⟨hP1, hK1, hD1⟩ := hB
    rw [ht] at hP1
    have hK1 := va_K.moved hvm.symm hK1
    try dsimp only at hw
    obtain ⟨hP, hD⟩ := va_join (wr := [(am, .inl (tm, 512, .inl f))]) (w1 := [(h0, .inr (5, [.ref ar, .ref oB, .ref oS, .int 0, .int 0, .int 0, .int ve, .int 0, .int 0])), (oB, .inr (0, [.ref am, .ref oM, .ref oS, .ref oK, .ref oL, .ref oD])), (oM, .inr (3, [.ref ad, .ref ab, .int 0]))]) hP hD [0, 1, 2] [3] rfl rfl (by decide) (by decide) hk1 hFc hP1 hD1
    have hK := (hK.sub (tys' := [(tm, .int)]) [0] rfl).app hK1
    generalize H1 = H at hP hS ⊢
    have hP : va_P (dC, dI) vwCl [(am, .inl (tm, 512, .inl f)), (h0, .inr (5, [.ref ar, .ref oB, .ref oS, .int 0, .int 0, .int 0, .int ve, .int 0, .int 0])), (oB, .inr (0, [.ref am, .ref oM, .ref oS, .ref oK, .ref oL, .ref oD])), (oM, .inr (3, [.ref ad, .ref ab, .int 0]))] H := hP
    have hD : va_D A [(am, .inl (tm, 512, .inl f)), (h0, .inr (5, [.ref ar, .ref oB, .ref oS, .int 0, .int 0, .int 0, .int ve, .int 0, .int 0])), (oB, .inr (0, [.ref am, .ref oM, .ref oS, .ref oK, .ref oL, .ref oD])), (oM, .inr (3, [.ref ad, .ref ab, .int 0]))] := hD
    have hK : va_K (dC, dI) vwCl [(tm, .int)] s := hK
    refine W.widen (k := 0) (n := 0) (Nat.le_of_ble_eq_true rfl) (Nat.le_of_ble_eq_true rfl) ?_
    obtain rfl := hw
    have hPc := hP.sub (ws' := [(oB, .inr (0, [.ref am, .ref oM, .ref oS, .ref oK, .ref oL, .ref oD])), (am, .inl (tm, 512, .inl f))]) [2, 0] rfl
    have hDc := hD.sub (ws' := [(oB, .inr (0, [.ref am, .ref oM, .ref oS, .ref oK, .ref oL, .ref oD])), (am, .inl (tm, 512, .inl f))]) [2, 0] (by decide) rfl
    have hKc := hK.sub (tys' := [(tm, .int)]) [0] rfl
    have hFc := va_free (wc := [(oB, .inr (0, [.ref am, .ref oM, .ref oS, .ref oK, .ref oL, .ref oD])), (am, .inl (tm, 512, .inl f))]) hD hS hA [2, 0] rfl
    refine va_calli (va_runV (As := [.int 4]) (rest := []) ⟨hx, hb, hml, hown, hts⟩ (c_read4 l dC dI oB am oM oS oK oL oD tm f H.size (by first | assumption | omega)) (cwV 1 hts gX6_readWord_X0_read rfl rfl rfl (by decide +kernel) ⟨Nat.le_of_ble_eq_true rfl, Nat.le_of_ble_eq_true rfl⟩) ⟨fun a U g mk q => by obtain ⟨q0, q1, qP, qK, qD⟩ := q; exact ⟨q0, q1, qP, va_K.moved (u := U) (U := U.calling g mk a) (Vm.Alike.refl U.vm) qK, qD⟩, va_recv hKc hPc (ci := 0) (q0 := 0) rfl rfl, fun U hU hW => ⟨rfl, by rw [hU], by rw [hU]; exact hPc, va_K.moved hW.alike hKc, hDc.weaken (fun _ _ _ _ => trivial)⟩⟩ rfl rfl hl.1 rfl (lv_room (Nat.le_of_ble_eq_true rfl)) dX6_readWord_22 ⟨Nat.le_of_ble_eq_true rfl, Nat.le_of_ble_eq_true rfl⟩) hS (fun q _ h => hFc q h) hFc (fun r5 u6 t H1 locs ht hvm hw hB hz1 hk1 hS => ?_)
    obtain ⟨hP1, hK1, hD1⟩ := hB
    rw [ht] at hP1
    have hK1 := va_K.moved hvm.symm hK1
    try dsimp only at hw
    obtain ⟨hP, hD⟩ := va_join (wr := [(h0, .inr (5, [.ref ar, .ref oB, .ref oS, .int 0, .int 0, .int 0, .int ve, .int 0, .int 0])), (oM, .inr (3, [.ref ad, .ref ab, .int 0]))]) (w1 := [(oB, .inr (0, [.ref am, .ref oM, .ref oS, .ref oK, .ref oL, .ref oD])), (am, .inl (tm, 512, .inl f))]) hP hD [2, 0] [1, 3] rfl rfl (by decide) (by decide) hk1 hFc hP1 hD1
    have hK := (hK.sub (tys' := []) [] rfl).app hK1
    generalize H1 = H at hP hS ⊢
    have hP : va_P (dC, dI) vwCl [(h0, .inr (5, [.ref ar, .ref oB, .ref oS, .int 0, .int 0, .int 0, .int ve, .int 0, .int 0])), (oM, .inr (3, [.ref ad, .ref ab, .int 0])), (oB, .inr (0, [.ref am, .ref oM, .ref oS, .ref oK, .ref oL, .ref oD])), (am, .inl (tm, 512, .inl f))] H := hP
    have hD : va_D A [(h0, .inr (5, [.ref ar, .ref oB, .ref oS, .int 0, .int 0, .int 0, .int ve, .int 0, .int 0])), (oM, .inr (3, [.ref ad, .ref ab, .int 0])), (oB, .inr (0, [.ref am, .ref oM, .ref oS, .ref oK, .ref oL, .ref oD])), (am, .inl (tm, 512, .inl f))] := hD
    have hK : va_K (dC, dI) vwCl [(tm, .int)] s := hK
    refine W.widen (k := 0) (n := 0) (Nat.le_of_ble_eq_true rfl) (Nat.le_of_ble_eq_true rfl) ?_
    obtain rfl := hw
    refine lv_istore_n (lv' := [(3, .int 1), (0, .ref h0), (1, .int 0), (2, .int 4)]) hx hb dX6_readWord_25 rfl hl (by decide) rfl (fun ls hl => ?_)
    refine lv_iload_n hx hb dX6_readWord_26 rfl (lv_at hl 0 rfl) ?_
    refine lv_if_ge (tgt := 35) hx hb dX6_readWord_27 (by decide) (fun c7 => ?_) (fun c7 => ?_)
    · skip
      refine lv_iload_n hx hb dX6_readWord_35 rfl (lv_at hl 0 rfl) ?_
      have hP9 := hP.sub (ws' := [(h0, .inr (5, [.ref ar, .ref oB, .ref oS, .int 0, .int 0, .int 0, .int ve, .int 0, .int 0])), (oB, .inr (0, [.ref am, .ref oM, .ref oS, .ref oK, .ref oL, .ref oD])), (oM, .inr (3, [.ref ad, .ref ab, .int 0])), (am, .inl (tm, 512, .inl f))]) [0, 2, 1, 3] rfl
      have hD9 := hD.sub (ws' := [(h0, .inr (5, [.ref ar, .ref oB, .ref oS, .int 0, .int 0, .int 0, .int ve, .int 0, .int 0])), (oB, .inr (0, [.ref am, .ref oM, .ref oS, .ref oK, .ref oL, .ref oD])), (oM, .inr (3, [.ref ad, .ref ab, .int 0])), (am, .inl (tm, 512, .inl f))]) [0, 2, 1, 3] (by decide) rfl
      have hK9 := hK.sub (tys' := [(tm, .int)]) [0] rfl
      exact W.iret (v := 1) hx hb hr (fun t ht hW => ⟨⟨1, (), rfl, rfl, by rw [ht]; exact hP9, va_K.moved hW.alike hK9, hD9⟩, hS.F ht⟩) hS.2.2 dX6_readWord_36
    · exact absurd c7 (by decide)
  · exact absurd c2 (by decide)
set_option maxHeartbeats 4000000 in
set_option maxRecDepth 100000 in
theorem c_readWord6 (l : Launch) (dC : Nat → ClassId) (dI : Nat → Nat → Nat) (h0 : Nat) (ar : Nat) (oB : Nat) (oS : Nat) (ve : Int32) (am : Nat) (oM : Nat) (oK : Nat) (oL : Nat) (oD : Nat) (ad : Nat) (ab : Nat) (tm : ClassId) (f : Nat → Int32) (sz : Nat) (hF0 : f (3 : Int32).toNatClampNeg = 224) : Met l yX6_readWord wsX6_readWord ({ frames := 2, cells := 0, slots := 0, locals := 52 } : Room) (va_Pc [.ref h0, .int 0, .int 6] (fun U => U.heap.size = sz ∧ va_P (dC, dI) vwCl [(h0, .inr (5, [.ref ar, .ref oB, .ref oS, .int 0, .int 0, .int 0, .int ve, .int 0, .int 0])), (oB, .inr (0, [.ref am, .ref oM, .ref oS, .ref oK, .ref oL, .ref oD])), (oM, .inr (3, [.ref ad, .ref ab, .int 0])), (am, .inl (tm, 512, .inl f))] U.heap ∧ va_K (dC, dI) vwCl [(tm, .int)] U ∧ va_D (fun _ => True) [(h0, .inr (5, [.ref ar, .ref oB, .ref oS, .int 0, .int 0, .int 0, .int ve, .int 0, .int 0])), (oB, .inr (0, [.ref am, .ref oM, .ref oS, .ref oK, .ref oL, .ref oD])), (oM, .inr (3, [.ref ad, .ref ab, .int 0])), (am, .inl (tm, 512, .inl f))])) (va_Qi (fun (r : Int32) (u : Unit) => (224 = r)) (fun (u : Unit) (t : State) => va_P (dC, dI) vwCl [(h0, .inr (5, [.ref ar, .ref oB, .ref oS, .int 0, .int 0, .int 0, .int ve, .int 0, .int 0])), (oB, .inr (0, [.ref am, .ref oM, .ref oS, .ref oK, .ref oL, .ref oD])), (oM, .inr (3, [.ref ad, .ref ab, .int 0])), (am, .inl (tm, 512, .inl f))] t.heap ∧ va_K (dC, dI) vwCl [(tm, .int)] t ∧ va_D (va_A [(h0, .inr (5, [.ref ar, .ref oB, .ref oS, .int 0, .int 0, .int 0, .int ve, .int 0, .int 0])), (oB, .inr (0, [.ref am, .ref oM, .ref oS, .ref oK, .ref oL, .ref oD])), (oM, .inr (3, [.ref ad, .ref ab, .int 0])), (am, .inl (tm, 512, .inl f))] sz) [(h0, .inr (5, [.ref ar, .ref oB, .ref oS, .int 0, .int 0, .int 0, .int ve, .int 0, .int 0])), (oB, .inr (0, [.ref am, .ref oM, .ref oS, .ref oK, .ref oL, .ref oD])), (oM, .inr (3, [.ref ad, .ref ab, .int 0])), (am, .inl (tm, 512, .inl f))]) (va_A [(h0, .inr (5, [.ref ar, .ref oB, .ref oS, .int 0, .int 0, .int 0, .int ve, .int 0, .int 0])), (oB, .inr (0, [.ref am, .ref oM, .ref oS, .ref oK, .ref oL, .ref oD])), (oM, .inr (3, [.ref ad, .ref ab, .int 0])), (am, .inl (tm, 512, .inl f))] sz)) 0 0 (va_A [(h0, .inr (5, [.ref ar, .ref oB, .ref oS, .int 0, .int 0, .int 0, .int ve, .int 0, .int 0])), (oB, .inr (0, [.ref am, .ref oM, .ref oS, .ref oK, .ref oL, .ref oD])), (oM, .inr (3, [.ref ad, .ref ab, .int 0])), (am, .inl (tm, 512, .inl f))] sz) := by
  refine Met.ofW (cc := cX6_readWord) (maxL := 4) (ret := (some .int)) (by decide) rfl ?_
  intro p e s m args below meth c s₁ B hml hv
  obtain ⟨rfl, hsz, hP, hK, hD0⟩ := hv
  have hx := B.exec
  have hb := B.bytes
  have hr := B.returns
  have hts := atoms_spec (ws := wsX6_readWord) B.pre
  have hown : s.vm.findClass RX6 = some m.cls := findClass_of_methodNamed B.named
  have hlocks := B.notSynchronized
  have hD := hD0.self (sz := sz)
  generalize hAe : va_A [(h0, .inr (5, [.ref ar, .ref oB, .ref oS, .int 0, .int 0, .int 0, .int ve, .int 0, .int 0])), (oB, .inr (0, [.ref am, .ref oM, .ref oS, .ref oK, .ref oL, .ref oD])), (oM, .inr (3, [.ref ad, .ref ab, .int 0])), (am, .inl (tm, 512, .inl f))] sz = A at hD ⊢
  have hA : ∀ q : Nat, s.heap.size ≤ q → A q := fun q h => by rw [← hAe]; exact Or.inr (by omega)
  have hS0 : ∀ G : Heap, s.heap = G → va_S A s.heap G [] := fun G h => by subst h; exact va_S.rf
  generalize hHe : s.heap = H at hP ⊢
  have hS := hS0 H hHe
  have hP : va_P (dC, dI) vwCl [(h0, .inr (5, [.ref ar, .ref oB, .ref oS, .int 0, .int 0, .int 0, .int ve, .int 0, .int 0])), (oB, .inr (0, [.ref am, .ref oM, .ref oS, .ref oK, .ref oL, .ref oD])), (oM, .inr (3, [.ref ad, .ref ab, .int 0])), (am, .inl (tm, 512, .inl f))] H := hP
  have hD : va_D A [(h0, .inr (5, [.ref ar, .ref oB, .ref oS, .int 0, .int 0, .int 0, .int ve, .int 0, .int 0])), (oB, .inr (0, [.ref am, .ref oM, .ref oS, .ref oK, .ref oL, .ref oD])), (oM, .inr (3, [.ref ad, .ref ab, .int 0])), (am, .inl (tm, 512, .inl f))] := hD
  have hK : va_K (dC, dI) vwCl [(tm, .int)] s := hK
  have hl := lv_entry ([.ref h0, .int 0, .int 6]) (n := 4) (Nat.le_of_ble_eq_true rfl)
  rw [lg_entry_eq]
  generalize (lg_sl ([.ref h0, .int 0, .int 6]) ++ List.replicate (4 - (lg_sl ([.ref h0, .int 0, .int 6])).length) Slot.unset).toArray = ls at hl ⊢
  have hl : lv_has ls 4 [(0, .ref h0), (1, .int 0), (2, .int 6)] := hl
  refine lv_iload_n hx hb dX6_readWord_0 rfl (lv_at hl 2 rfl) ?_
  refine lv_iconst (v := 1) hx hb dX6_readWord_1 (by decide) ?_
  refine lv_iand hx hb dX6_readWord_2 ?_
  refine lv_topi (fun y1 ey1 => ?_)
  obtain rfl : y1 = 0 := by rw [ey1]; decide
  refine lv_if_eq (tgt := 11) hx hb dX6_readWord_3 (by decide) (fun c2 => ?_) (fun c2 => ?_)
  · skip
    refine lv_aload_n hx hb dX6_readWord_11 rfl (lv_at hl 0 rfl) ?_
    refine va_get (D := (dC, dI)) (ci := 5) (v := .ref oB) (C := RX6) (T := TX6) (N := 9) hx hb hts (by decide +kernel) hown hK hP 0 rfl rfl 1 (by decide) (hts (.fieldLink RX6 33 "UnibusMachine$Processor" "bus" "LUnibusMachine$Bus;") (by decide +kernel)) (fun _ h9 => h9) rfl dX6_readWord_12 ?_
    refine lv_aload_n hx hb dX6_readWord_15 rfl (lv_at hl 0 rfl) ?_
    refine lv_iload_n hx hb dX6_readWord_16 rfl (lv_at hl 1 rfl) ?_
    refine lv_iload_n hx hb dX6_readWord_17 rfl (lv_at hl 2 rfl) ?_
    refine lv_iconst (v := 0) hx hb dX6_readWord_18 (by decide) ?_
    have hPc := hP.sub (ws' := [(h0, .inr (5, [.ref ar, .ref oB, .ref oS, .int 0, .int 0, .int 0, .int ve, .int 0, .int 0])), (oB, .inr (0, [.ref am, .ref oM, .ref oS, .ref oK, .ref oL, .ref oD])), (oM, .inr (3, [.ref ad, .ref ab, .int 0]))]) [0, 1, 2] rfl
    have hDc := hD.sub (ws' := [(h0, .inr (5, [.ref ar, .ref oB, .ref oS, .int 0, .int 0, .int 0, .int ve, .int 0, .int 0])), (oB, .inr (0, [.ref am, .ref oM, .ref oS, .ref oK, .ref oL, .ref oD])), (oM, .inr (3, [.ref ad, .ref ab, .int 0]))]) [0, 1, 2] (by decide) rfl
    have hKc := hK.sub (tys' := []) [] rfl
    have hFc := va_free (wc := [(h0, .inr (5, [.ref ar, .ref oB, .ref oS, .int 0, .int 0, .int 0, .int ve, .int 0, .int 0])), (oB, .inr (0, [.ref am, .ref oM, .ref oS, .ref oK, .ref oL, .ref oD])), (oM, .inr (3, [.ref ad, .ref ab, .int 0]))]) hD hS hA [0, 1, 2] rfl
    refine va_calli (va_runV (As := [.int 0, .int 6, .int 0]) (rest := [.ref oB]) ⟨hx, hb, hml, hown, hts⟩ (c_place6 l dC dI h0 ar oB oS ve am oM oK oL oD ad ab H.size) (cwV 3 hts gX6_readWord_X6_place rfl rfl rfl (by decide +kernel) ⟨Nat.le_of_ble_eq_true rfl, Nat.le_of_ble_eq_true rfl⟩) ⟨fun a U g mk q => by obtain ⟨q0, q1, qP, qK, qD⟩ := q; exact ⟨q0, q1, qP, va_K.moved (u := U) (U := U.calling g mk a) (Vm.Alike.refl U.vm) qK, qD⟩, va_recv hKc hPc (ci := 5) (q0 := 0) rfl rfl, fun U hU hW => ⟨rfl, by rw [hU], by rw [hU]; exact hPc, va_K.moved hW.alike hKc, hDc.weaken (fun _ _ _ _ => trivial)⟩⟩ rfl rfl hl.1 rfl (lv_room (Nat.le_of_ble_eq_true rfl)) dX6_readWord_19 ⟨Nat.le_of_ble_eq_true rfl, Nat.le_of_ble_eq_true rfl⟩) hS (fun q _ h => hFc q h) hFc (fun r3 u4 t H1 locs ht hvm hw hB hz1 hk1 hS => ?_)
    obtain ⟨hP1, hK1, hD1⟩ := hB
    rw [ht] at hP1
    have hK1 := va_K.moved hvm.symm hK1
    try dsimp only at hw
    obtain ⟨hP, hD⟩ := va_join (wr := [(am, .inl (tm, 512, .inl f))]) (w1 := [(h0, .inr (5, [.ref ar, .ref oB, .ref oS, .int 0, .int 0, .int 0, .int ve, .int 0, .int 0])), (oB, .inr (0, [.ref am, .ref oM, .ref oS, .ref oK, .ref oL, .ref oD])), (oM, .inr (3, [.ref ad, .ref ab, .int 0]))]) hP hD [0, 1, 2] [3] rfl rfl (by decide) (by decide) hk1 hFc hP1 hD1
    have hK := (hK.sub (tys' := [(tm, .int)]) [0] rfl).app hK1
    generalize H1 = H at hP hS ⊢
    have hP : va_P (dC, dI) vwCl [(am, .inl (tm, 512, .inl f)), (h0, .inr (5, [.ref ar, .ref oB, .ref oS, .int 0, .int 0, .int 0, .int ve, .int 0, .int 0])), (oB, .inr (0, [.ref am, .ref oM, .ref oS, .ref oK, .ref oL, .ref oD])), (oM, .inr (3, [.ref ad, .ref ab, .int 0]))] H := hP
    have hD : va_D A [(am, .inl (tm, 512, .inl f)), (h0, .inr (5, [.ref ar, .ref oB, .ref oS, .int 0, .int 0, .int 0, .int ve, .int 0, .int 0])), (oB, .inr (0, [.ref am, .ref oM, .ref oS, .ref oK, .ref oL, .ref oD])), (oM, .inr (3, [.ref ad, .ref ab, .int 0]))] := hD
    have hK : va_K (dC, dI) vwCl [(tm, .int)] s := hK
    refine W.widen (k := 0) (n := 0) (Nat.le_of_ble_eq_true rfl) (Nat.le_of_ble_eq_true rfl) ?_
    obtain rfl := hw
    have hPc := hP.sub (ws' := [(oB, .inr (0, [.ref am, .ref oM, .ref oS, .ref oK, .ref oL, .ref oD])), (am, .inl (tm, 512, .inl f))]) [2, 0] rfl
    have hDc := hD.sub (ws' := [(oB, .inr (0, [.ref am, .ref oM, .ref oS, .ref oK, .ref oL, .ref oD])), (am, .inl (tm, 512, .inl f))]) [2, 0] (by decide) rfl
    have hKc := hK.sub (tys' := [(tm, .int)]) [0] rfl
    have hFc := va_free (wc := [(oB, .inr (0, [.ref am, .ref oM, .ref oS, .ref oK, .ref oL, .ref oD])), (am, .inl (tm, 512, .inl f))]) hD hS hA [2, 0] rfl
    refine va_calli (va_runV (As := [.int 6]) (rest := []) ⟨hx, hb, hml, hown, hts⟩ (c_read6 l dC dI oB am oM oS oK oL oD tm f H.size (by first | assumption | omega)) (cwV 1 hts gX6_readWord_X0_read rfl rfl rfl (by decide +kernel) ⟨Nat.le_of_ble_eq_true rfl, Nat.le_of_ble_eq_true rfl⟩) ⟨fun a U g mk q => by obtain ⟨q0, q1, qP, qK, qD⟩ := q; exact ⟨q0, q1, qP, va_K.moved (u := U) (U := U.calling g mk a) (Vm.Alike.refl U.vm) qK, qD⟩, va_recv hKc hPc (ci := 0) (q0 := 0) rfl rfl, fun U hU hW => ⟨rfl, by rw [hU], by rw [hU]; exact hPc, va_K.moved hW.alike hKc, hDc.weaken (fun _ _ _ _ => trivial)⟩⟩ rfl rfl hl.1 rfl (lv_room (Nat.le_of_ble_eq_true rfl)) dX6_readWord_22 ⟨Nat.le_of_ble_eq_true rfl, Nat.le_of_ble_eq_true rfl⟩) hS (fun q _ h => hFc q h) hFc (fun r5 u6 t H1 locs ht hvm hw hB hz1 hk1 hS => ?_)
    obtain ⟨hP1, hK1, hD1⟩ := hB
    rw [ht] at hP1
    have hK1 := va_K.moved hvm.symm hK1
    try dsimp only at hw
    obtain ⟨hP, hD⟩ := va_join (wr := [(h0, .inr (5, [.ref ar, .ref oB, .ref oS, .int 0, .int 0, .int 0, .int ve, .int 0, .int 0])), (oM, .inr (3, [.ref ad, .ref ab, .int 0]))]) (w1 := [(oB, .inr (0, [.ref am, .ref oM, .ref oS, .ref oK, .ref oL, .ref oD])), (am, .inl (tm, 512, .inl f))]) hP hD [2, 0] [1, 3] rfl rfl (by decide) (by decide) hk1 hFc hP1 hD1
    have hK := (hK.sub (tys' := []) [] rfl).app hK1
    generalize H1 = H at hP hS ⊢
    have hP : va_P (dC, dI) vwCl [(h0, .inr (5, [.ref ar, .ref oB, .ref oS, .int 0, .int 0, .int 0, .int ve, .int 0, .int 0])), (oM, .inr (3, [.ref ad, .ref ab, .int 0])), (oB, .inr (0, [.ref am, .ref oM, .ref oS, .ref oK, .ref oL, .ref oD])), (am, .inl (tm, 512, .inl f))] H := hP
    have hD : va_D A [(h0, .inr (5, [.ref ar, .ref oB, .ref oS, .int 0, .int 0, .int 0, .int ve, .int 0, .int 0])), (oM, .inr (3, [.ref ad, .ref ab, .int 0])), (oB, .inr (0, [.ref am, .ref oM, .ref oS, .ref oK, .ref oL, .ref oD])), (am, .inl (tm, 512, .inl f))] := hD
    have hK : va_K (dC, dI) vwCl [(tm, .int)] s := hK
    refine W.widen (k := 0) (n := 0) (Nat.le_of_ble_eq_true rfl) (Nat.le_of_ble_eq_true rfl) ?_
    obtain rfl := hw
    refine lv_istore_n (lv' := [(3, .int 224), (0, .ref h0), (1, .int 0), (2, .int 6)]) hx hb dX6_readWord_25 rfl hl (by decide) rfl (fun ls hl => ?_)
    refine lv_iload_n hx hb dX6_readWord_26 rfl (lv_at hl 0 rfl) ?_
    refine lv_if_ge (tgt := 35) hx hb dX6_readWord_27 (by decide) (fun c7 => ?_) (fun c7 => ?_)
    · skip
      refine lv_iload_n hx hb dX6_readWord_35 rfl (lv_at hl 0 rfl) ?_
      have hP9 := hP.sub (ws' := [(h0, .inr (5, [.ref ar, .ref oB, .ref oS, .int 0, .int 0, .int 0, .int ve, .int 0, .int 0])), (oB, .inr (0, [.ref am, .ref oM, .ref oS, .ref oK, .ref oL, .ref oD])), (oM, .inr (3, [.ref ad, .ref ab, .int 0])), (am, .inl (tm, 512, .inl f))]) [0, 2, 1, 3] rfl
      have hD9 := hD.sub (ws' := [(h0, .inr (5, [.ref ar, .ref oB, .ref oS, .int 0, .int 0, .int 0, .int ve, .int 0, .int 0])), (oB, .inr (0, [.ref am, .ref oM, .ref oS, .ref oK, .ref oL, .ref oD])), (oM, .inr (3, [.ref ad, .ref ab, .int 0])), (am, .inl (tm, 512, .inl f))]) [0, 2, 1, 3] (by decide) rfl
      have hK9 := hK.sub (tys' := [(tm, .int)]) [0] rfl
      exact W.iret (v := 224) hx hb hr (fun t ht hW => ⟨⟨224, (), rfl, rfl, by rw [ht]; exact hP9, va_K.moved hW.alike hK9, hD9⟩, hS.F ht⟩) hS.2.2 dX6_readWord_36
    · exact absurd c7 (by decide)
  · exact absurd c2 (by decide)
set_option maxHeartbeats 4000000 in
set_option maxRecDepth 100000 in
theorem c_takeStatus (l : Launch) (dC : Nat → ClassId) (dI : Nat → Nat → Nat) (h0 : Nat) (ar : Nat) (oB : Nat) (oS : Nat) (ve : Int32) (sz : Nat) : Met l yX6_takeStatus wsX6_takeStatus ({ frames := 0, cells := 0, slots := 0, locals := 0 } : Room) (va_Pc [.ref h0, .int 224] (fun U => U.heap.size = sz ∧ va_P (dC, dI) vwCl [(h0, .inr (5, [.ref ar, .ref oB, .ref oS, .int 0, .int 0, .int 0, .int ve, .int 0, .int 0])), (oS, .inr (6, [.int 224, .int (-1)]))] U.heap ∧ va_K (dC, dI) vwCl [] U ∧ va_D (fun _ => True) [(h0, .inr (5, [.ref ar, .ref oB, .ref oS, .int 0, .int 0, .int 0, .int ve, .int 0, .int 0])), (oS, .inr (6, [.int 224, .int (-1)]))])) (va_Qv (fun (u : Unit) => True) (fun (u : Unit) (t : State) => va_P (dC, dI) vwCl [(h0, .inr (5, [.ref ar, .ref oB, .ref oS, .int 0, .int 0, .int 0, .int ve, .int 0, .int 0])), (oS, .inr (6, [.int 224, .int (-1)]))] t.heap ∧ va_K (dC, dI) vwCl [] t ∧ va_D (va_A [(h0, .inr (5, [.ref ar, .ref oB, .ref oS, .int 0, .int 0, .int 0, .int ve, .int 0, .int 0])), (oS, .inr (6, [.int 224, .int (-1)]))] sz) [(h0, .inr (5, [.ref ar, .ref oB, .ref oS, .int 0, .int 0, .int 0, .int ve, .int 0, .int 0])), (oS, .inr (6, [.int 224, .int (-1)]))]) (va_A [(h0, .inr (5, [.ref ar, .ref oB, .ref oS, .int 0, .int 0, .int 0, .int ve, .int 0, .int 0])), (oS, .inr (6, [.int 224, .int (-1)]))] sz)) 0 0 (va_A [(h0, .inr (5, [.ref ar, .ref oB, .ref oS, .int 0, .int 0, .int 0, .int ve, .int 0, .int 0])), (oS, .inr (6, [.int 224, .int (-1)]))] sz) := by
  refine Met.ofW (cc := cX6_takeStatus) (maxL := 3) (ret := none) (by decide) rfl ?_
  intro p e s m args below meth c s₁ B hml hv
  obtain ⟨rfl, hsz, hP, hK, hD0⟩ := hv
  have hx := B.exec
  have hb := B.bytes
  have hr := B.returns
  have hts := atoms_spec (ws := wsX6_takeStatus) B.pre
  have hown : s.vm.findClass RX6 = some m.cls := findClass_of_methodNamed B.named
  have hlocks := B.notSynchronized
  have hD := hD0.self (sz := sz)
  generalize hAe : va_A [(h0, .inr (5, [.ref ar, .ref oB, .ref oS, .int 0, .int 0, .int 0, .int ve, .int 0, .int 0])), (oS, .inr (6, [.int 224, .int (-1)]))] sz = A at hD ⊢
  have hA : ∀ q : Nat, s.heap.size ≤ q → A q := fun q h => by rw [← hAe]; exact Or.inr (by omega)
  have hS0 : ∀ G : Heap, s.heap = G → va_S A s.heap G [] := fun G h => by subst h; exact va_S.rf
  generalize hHe : s.heap = H at hP ⊢
  have hS := hS0 H hHe
  have hP : va_P (dC, dI) vwCl [(h0, .inr (5, [.ref ar, .ref oB, .ref oS, .int 0, .int 0, .int 0, .int ve, .int 0, .int 0])), (oS, .inr (6, [.int 224, .int (-1)]))] H := hP
  have hD : va_D A [(h0, .inr (5, [.ref ar, .ref oB, .ref oS, .int 0, .int 0, .int 0, .int ve, .int 0, .int 0])), (oS, .inr (6, [.int 224, .int (-1)]))] := hD
  have hK : va_K (dC, dI) vwCl [] s := hK
  have hl := lv_entry ([.ref h0, .int 224]) (n := 3) (Nat.le_of_ble_eq_true rfl)
  rw [lg_entry_eq]
  generalize (lg_sl ([.ref h0, .int 224]) ++ List.replicate (3 - (lg_sl ([.ref h0, .int 224])).length) Slot.unset).toArray = ls at hl ⊢
  have hl : lv_has ls 3 [(0, .ref h0), (1, .int 224)] := hl
  refine lv_iload_n hx hb dX6_takeStatus_0 rfl (lv_at hl 1 rfl) ?_
  refine lv_aload_n hx hb dX6_takeStatus_1 rfl (lv_at hl 0 rfl) ?_
  refine va_get (D := (dC, dI)) (ci := 5) (v := .ref oS) (C := RX6) (T := TX6) (N := 9) hx hb hts (by decide +kernel) hown hK hP 0 rfl rfl 2 (by decide) (hts (.fieldLink RX6 43 "UnibusMachine$Processor" "status" "LUnibusMachine$Status;") (by decide +kernel)) (fun _ h9 => h9) rfl dX6_takeStatus_2 ?_
  refine va_get (D := (dC, dI)) (ci := 6) (v := .int 224) (C := RX7) (T := TX7) (N := 2) hx hb hts (by decide +kernel) hown hK hP 1 rfl rfl 0 (by decide) (hts (.fieldLink RX6 44 "UnibusMachine$Status" "now" "I") (by decide +kernel)) (fun _ h9 => h9) rfl dX6_takeStatus_5 ?_
  refine lv_ixor hx hb dX6_takeStatus_8 ?_
  refine lv_topi (fun y1 ey1 => ?_)
  obtain rfl : y1 = 0 := by rw [ey1]; decide
  refine lv_sipush (v := 16384) hx hb dX6_takeStatus_9 (by decide) ?_
  refine lv_iand hx hb dX6_takeStatus_12 ?_
  refine lv_topi (fun y2 ey2 => ?_)
  obtain rfl : y2 = 0 := by rw [ey2]; decide
  refine lv_if_eq (tgt := 40) hx hb dX6_takeStatus_13 (by decide) (fun c3 => ?_) (fun c3 => ?_)
  · skip
    refine lv_aload_n hx hb dX6_takeStatus_40 rfl (lv_at hl 0 rfl) ?_
    refine va_get (D := (dC, dI)) (ci := 5) (v := .ref oS) (C := RX6) (T := TX6) (N := 9) hx hb hts (by decide +kernel) hown hK hP 0 rfl rfl 2 (by decide) (hts (.fieldLink RX6 43 "UnibusMachine$Processor" "status" "LUnibusMachine$Status;") (by decide +kernel)) (fun _ h9 => h9) rfl dX6_takeStatus_41 ?_
    refine lv_iload_n hx hb dX6_takeStatus_44 rfl (lv_at hl 1 rfl) ?_
    refine va_put (D := (dC, dI)) (ci := 6) (v := .int 224) (ty := .int) (C := RX7) (T := TX7) (N := 2) hx hb hts (by decide +kernel) tyX7 tyX7_ok nmX7 hown hK hP hD hS 1 rfl rfl 0 (by decide) (hts (.fieldLink RX6 44 "UnibusMachine$Status" "now" "I") (by decide +kernel)) (fun _ h9 => h9) rfl (by decide +kernel) rfl rfl (Nat.le_of_ble_eq_true rfl) dX6_takeStatus_45 (fun H locs hP hD hS => ?_)
    have hP : va_P (dC, dI) vwCl [(h0, .inr (5, [.ref ar, .ref oB, .ref oS, .int 0, .int 0, .int 0, .int ve, .int 0, .int 0])), (oS, .inr (6, [.int 224, .int (-1)]))] H := hP
    have hD : va_D A [(h0, .inr (5, [.ref ar, .ref oB, .ref oS, .int 0, .int 0, .int 0, .int ve, .int 0, .int 0])), (oS, .inr (6, [.int 224, .int (-1)]))] := hD
    have hP9 := hP.sub (ws' := [(h0, .inr (5, [.ref ar, .ref oB, .ref oS, .int 0, .int 0, .int 0, .int ve, .int 0, .int 0])), (oS, .inr (6, [.int 224, .int (-1)]))]) [0, 1] rfl
    have hD9 := hD.sub (ws' := [(h0, .inr (5, [.ref ar, .ref oB, .ref oS, .int 0, .int 0, .int 0, .int ve, .int 0, .int 0])), (oS, .inr (6, [.int 224, .int (-1)]))]) [0, 1] (by decide) rfl
    have hK9 := hK.sub (tys' := []) [] rfl
    exact W.vret hx hb hr (fun t ht hW => ⟨⟨(), rfl, trivial, by rw [ht]; exact hP9, va_K.moved hW.alike hK9, hD9⟩, hS.F ht⟩) hS.2.2 dX6_takeStatus_48
  · exact absurd c3 (by decide)
set_option maxHeartbeats 4000000 in
set_option maxRecDepth 100000 in
theorem c_fall6 (l : Launch) (dC : Nat → ClassId) (dI : Nat → Nat → Nat) (h0 : Nat) (ar : Nat) (oB : Nat) (oS : Nat) (ve : Int32) (tr : ClassId) (g : Nat → Int32) (z : Int) (sz : Nat) (hF0 : g (7 : Int32).toNatClampNeg = 1) (hF1 : (g (6 : Int32).toNatClampNeg).toInt = z) (hH2 : 166 ≤ z) (hH3 : z ≤ 1024) (hH4 : z % 2 = 0) : Met l yX6_fall wsX6_fall ({ frames := 0, cells := 0, slots := 0, locals := 0 } : Room) (va_Pc [.ref h0, .int 6, .int 2] (fun U => U.heap.size = sz ∧ va_P (dC, dI) vwCl [(h0, .inr (5, [.ref ar, .ref oB, .ref oS, .int 0, .int 0, .int 0, .int ve, .int 0, .int 0])), (ar, .inl (tr, 8, .inl g))] U.heap ∧ va_K (dC, dI) vwCl [(tr, .int)] U ∧ va_D (fun _ => True) [(h0, .inr (5, [.ref ar, .ref oB, .ref oS, .int 0, .int 0, .int 0, .int ve, .int 0, .int 0])), (ar, .inl (tr, 8, .inl g))])) (va_Qi (fun (r : Int32) (u : (Nat → Int32)) => (u (6 : Int32).toNatClampNeg = r) ∧ (u (7 : Int32).toNatClampNeg = 1) ∧ ((u (6 : Int32).toNatClampNeg).toInt = z - 2)) (fun (u : (Nat → Int32)) (t : State) => va_P (dC, dI) vwCl [(h0, .inr (5, [.ref ar, .ref oB, .ref oS, .int 0, .int 0, .int 0, .int ve, .int 0, .int 0])), (ar, .inl (tr, 8, .inl u))] t.heap ∧ va_K (dC, dI) vwCl [(tr, .int)] t ∧ va_D (va_A [(h0, .inr (5, [.ref ar, .ref oB, .ref oS, .int 0, .int 0, .int 0, .int ve, .int 0, .int 0])), (ar, .inl (tr, 8, .inl g))] sz) [(h0, .inr (5, [.ref ar, .ref oB, .ref oS, .int 0, .int 0, .int 0, .int ve, .int 0, .int 0])), (ar, .inl (tr, 8, .inl u))]) (va_A [(h0, .inr (5, [.ref ar, .ref oB, .ref oS, .int 0, .int 0, .int 0, .int ve, .int 0, .int 0])), (ar, .inl (tr, 8, .inl g))] sz)) 0 0 (va_A [(h0, .inr (5, [.ref ar, .ref oB, .ref oS, .int 0, .int 0, .int 0, .int ve, .int 0, .int 0])), (ar, .inl (tr, 8, .inl g))] sz) := by
  refine Met.ofW (cc := cX6_fall) (maxL := 3) (ret := (some .int)) (by decide) rfl ?_
  intro p e s m args below meth c s₁ B hml hv
  obtain ⟨rfl, hsz, hP, hK, hD0⟩ := hv
  have hx := B.exec
  have hb := B.bytes
  have hr := B.returns
  have hts := atoms_spec (ws := wsX6_fall) B.pre
  have hown : s.vm.findClass RX6 = some m.cls := findClass_of_methodNamed B.named
  have hlocks := B.notSynchronized
  have hD := hD0.self (sz := sz)
  generalize hAe : va_A [(h0, .inr (5, [.ref ar, .ref oB, .ref oS, .int 0, .int 0, .int 0, .int ve, .int 0, .int 0])), (ar, .inl (tr, 8, .inl g))] sz = A at hD ⊢
  have hA : ∀ q : Nat, s.heap.size ≤ q → A q := fun q h => by rw [← hAe]; exact Or.inr (by omega)
  have hS0 : ∀ G : Heap, s.heap = G → va_S A s.heap G [] := fun G h => by subst h; exact va_S.rf
  generalize hHe : s.heap = H at hP ⊢
  have hS := hS0 H hHe
  have hP : va_P (dC, dI) vwCl [(h0, .inr (5, [.ref ar, .ref oB, .ref oS, .int 0, .int 0, .int 0, .int ve, .int 0, .int 0])), (ar, .inl (tr, 8, .inl g))] H := hP
  have hD : va_D A [(h0, .inr (5, [.ref ar, .ref oB, .ref oS, .int 0, .int 0, .int 0, .int ve, .int 0, .int 0])), (ar, .inl (tr, 8, .inl g))] := hD
  have hK : va_K (dC, dI) vwCl [(tr, .int)] s := hK
  have hl := lv_entry ([.ref h0, .int 6, .int 2]) (n := 3) (Nat.le_of_ble_eq_true rfl)
  rw [lg_entry_eq]
  generalize (lg_sl ([.ref h0, .int 6, .int 2]) ++ List.replicate (3 - (lg_sl ([.ref h0, .int 6, .int 2])).length) Slot.unset).toArray = ls at hl ⊢
  have hl : lv_has ls 3 [(0, .ref h0), (1, .int 6), (2, .int 2)] := hl
  refine lv_aload_n hx hb dX6_fall_0 rfl (lv_at hl 0 rfl) ?_
  refine va_get (D := (dC, dI)) (ci := 5) (v := .ref ar) (C := RX6) (T := TX6) (N := 9) hx hb hts (by decide +kernel) hown hK hP 0 rfl rfl 0 (by decide) (hts (.fieldLink RX6 7 "UnibusMachine$Processor" "registers" "[I") (by decide +kernel)) (fun _ h9 => h9) rfl dX6_fall_1 ?_
  refine lv_iload_n hx hb dX6_fall_4 rfl (lv_at hl 1 rfl) ?_
  refine lv_aload_n hx hb dX6_fall_5 rfl (lv_at hl 0 rfl) ?_
  refine va_get (D := (dC, dI)) (ci := 5) (v := .ref ar) (C := RX6) (T := TX6) (N := 9) hx hb hts (by decide +kernel) hown hK hP 0 rfl rfl 0 (by decide) (hts (.fieldLink RX6 7 "UnibusMachine$Processor" "registers" "[I") (by decide +kernel)) (fun _ h9 => h9) rfl dX6_fall_6 ?_
  refine lv_iload_n hx hb dX6_fall_9 rfl (lv_at hl 1 rfl) ?_
  refine va_iald (D := (dC, dI)) hx hb hK hP 1 0 rfl rfl (vp_in_iff.mpr (by decide)) dX6_fall_10 ?_
  refine lv_iload_n hx hb dX6_fall_11 rfl (lv_at hl 2 rfl) ?_
  refine lv_isub hx hb dX6_fall_12 ?_
  refine lv_ldc (v := 65535) hx hb hown (hts (.constant RX6 60 (65535)) (by decide +kernel)) dX6_fall_13 ?_
  refine lv_iand hx hb dX6_fall_15 ?_
  refine va_iast (D := (dC, dI)) hx hb hK hP hD hS 1 0 rfl rfl (vp_in_iff.mpr (by decide)) dX6_fall_16 (fun H locs hP hD hS => ?_)
  have hP : va_P (dC, dI) vwCl [(h0, .inr (5, [.ref ar, .ref oB, .ref oS, .int 0, .int 0, .int 0, .int ve, .int 0, .int 0])), (ar, .inl (tr, 8, .inl (upd g (6 : Int32).toNatClampNeg (((g (6 : Int32).toNatClampNeg) - 2) &&& 65535))))] H := hP
  have hD : va_D A [(h0, .inr (5, [.ref ar, .ref oB, .ref oS, .int 0, .int 0, .int 0, .int ve, .int 0, .int 0])), (ar, .inl (tr, 8, .inl (upd g (6 : Int32).toNatClampNeg (((g (6 : Int32).toNatClampNeg) - 2) &&& 65535))))] := hD
  obtain ⟨f1, hf1⟩ : ∃ z : Nat → Int32, z = upd g (6 : Int32).toNatClampNeg (((g (6 : Int32).toNatClampNeg) - 2) &&& 65535) := ⟨_, rfl⟩
  rw [← hf1] at hP hD
  have hf1_7 : f1 (7 : Int32).toNatClampNeg = 1 := by rw [hf1, pk_un (by decide)]; assumption
  have hf1_6 : (f1 (6 : Int32).toNatClampNeg).toInt = z - 2 := by rw [hf1, pk_us]; rw [fz_m2 _ (by omega) (by omega)]; omega
  have hP : va_P (dC, dI) vwCl [(h0, .inr (5, [.ref ar, .ref oB, .ref oS, .int 0, .int 0, .int 0, .int ve, .int 0, .int 0])), (ar, .inl (tr, 8, .inl f1))] H := hP
  have hD : va_D A [(h0, .inr (5, [.ref ar, .ref oB, .ref oS, .int 0, .int 0, .int 0, .int ve, .int 0, .int 0])), (ar, .inl (tr, 8, .inl f1))] := hD
  refine lv_aload_n hx hb dX6_fall_17 rfl (lv_at hl 0 rfl) ?_
  refine va_get (D := (dC, dI)) (ci := 5) (v := .ref ar) (C := RX6) (T := TX6) (N := 9) hx hb hts (by decide +kernel) hown hK hP 0 rfl rfl 0 (by decide) (hts (.fieldLink RX6 7 "UnibusMachine$Processor" "registers" "[I") (by decide +kernel)) (fun _ h9 => h9) rfl dX6_fall_18 ?_
  refine lv_iload_n hx hb dX6_fall_21 rfl (lv_at hl 1 rfl) ?_
  refine va_iald (D := (dC, dI)) hx hb hK hP 1 0 rfl rfl (vp_in_iff.mpr (by decide)) dX6_fall_22 ?_
  have hx2 : f1 (7 : Int32).toNatClampNeg = 1 := by first | assumption | omega
  have hx3 : (f1 (6 : Int32).toNatClampNeg).toInt = z - 2 := by first | assumption | omega
  have hP9 := hP.sub (ws' := [(h0, .inr (5, [.ref ar, .ref oB, .ref oS, .int 0, .int 0, .int 0, .int ve, .int 0, .int 0])), (ar, .inl (tr, 8, .inl f1))]) [0, 1] rfl
  have hD9 := hD.sub (ws' := [(h0, .inr (5, [.ref ar, .ref oB, .ref oS, .int 0, .int 0, .int 0, .int ve, .int 0, .int 0])), (ar, .inl (tr, 8, .inl f1))]) [0, 1] (by decide) rfl
  have hK9 := hK.sub (tys' := [(tr, .int)]) [0] rfl
  exact W.iret (v := f1 (6 : Int32).toNatClampNeg) hx hb hr (fun t ht hW => ⟨⟨f1 (6 : Int32).toNatClampNeg, (f1), rfl, ⟨(by first | rfl | omega | assumption), hx2, hx3⟩, by rw [ht]; exact hP9, va_K.moved hW.alike hK9, hD9⟩, hS.F ht⟩) hS.2.2 dX6_fall_23
set_option maxHeartbeats 4000000 in
set_option maxRecDepth 100000 in
theorem c_writeM (l : Launch) (dC : Nat → ClassId) (dI : Nat → Nat → Nat) (h0 : Nat) (am : Nat) (oM : Nat) (oS : Nat) (oK : Nat) (oL : Nat) (oD : Nat) (tm : ClassId) (f : Nat → Int32) (a0 : Int32) (v0 : Int32) (sz : Nat) (hF0 : f (2 : Int32).toNatClampNeg = 1) (hF1 : f (3 : Int32).toNatClampNeg = 224) (hH2 : 160 ≤ a0.toInt) (hH3 : a0.toInt < 1024) (hH4 : a0.toInt % 2 = 0) : Met l yX0_write wsX0_write ({ frames := 0, cells := 0, slots := 0, locals := 0 } : Room) (va_Pc [.ref h0, .int a0, .int v0] (fun U => U.heap.size = sz ∧ va_P (dC, dI) vwCl [(h0, .inr (0, [.ref am, .ref oM, .ref oS, .ref oK, .ref oL, .ref oD])), (am, .inl (tm, 512, .inl f))] U.heap ∧ va_K (dC, dI) vwCl [(tm, .int)] U ∧ va_D (fun _ => True) [(h0, .inr (0, [.ref am, .ref oM, .ref oS, .ref oK, .ref oL, .ref oD])), (am, .inl (tm, 512, .inl f))])) (va_Qi (fun (r : Int32) (u : (Nat → Int32)) => (1 = r) ∧ (u (2 : Int32).toNatClampNeg = 1) ∧ (u (3 : Int32).toNatClampNeg = 224)) (fun (u : (Nat → Int32)) (t : State) => va_P (dC, dI) vwCl [(h0, .inr (0, [.ref am, .ref oM, .ref oS, .ref oK, .ref oL, .ref oD])), (am, .inl (tm, 512, .inl u))] t.heap ∧ va_K (dC, dI) vwCl [(tm, .int)] t ∧ va_D (va_A [(h0, .inr (0, [.ref am, .ref oM, .ref oS, .ref oK, .ref oL, .ref oD])), (am, .inl (tm, 512, .inl f))] sz) [(h0, .inr (0, [.ref am, .ref oM, .ref oS, .ref oK, .ref oL, .ref oD])), (am, .inl (tm, 512, .inl u))]) (va_A [(h0, .inr (0, [.ref am, .ref oM, .ref oS, .ref oK, .ref oL, .ref oD])), (am, .inl (tm, 512, .inl f))] sz)) 0 0 (va_A [(h0, .inr (0, [.ref am, .ref oM, .ref oS, .ref oK, .ref oL, .ref oD])), (am, .inl (tm, 512, .inl f))] sz) := by
  refine Met.ofW (cc := cX0_write) (maxL := 3) (ret := (some .boolean)) (by decide) rfl ?_
  intro p e s m args below meth c s₁ B hml hv
  obtain ⟨rfl, hsz, hP, hK, hD0⟩ := hv
  have hx := B.exec
  have hb := B.bytes
  have hr := B.returns
  have hts := atoms_spec (ws := wsX0_write) B.pre
  have hown : s.vm.findClass RX0 = some m.cls := findClass_of_methodNamed B.named
  have hlocks := B.notSynchronized
  have hD := hD0.self (sz := sz)
  generalize hAe : va_A [(h0, .inr (0, [.ref am, .ref oM, .ref oS, .ref oK, .ref oL, .ref oD])), (am, .inl (tm, 512, .inl f))] sz = A at hD ⊢
  have hA : ∀ q : Nat, s.heap.size ≤ q → A q := fun q h => by rw [← hAe]; exact Or.inr (by omega)
  have hS0 : ∀ G : Heap, s.heap = G → va_S A s.heap G [] := fun G h => by subst h; exact va_S.rf
  generalize hHe : s.heap = H at hP ⊢
  have hS := hS0 H hHe
  have hP : va_P (dC, dI) vwCl [(h0, .inr (0, [.ref am, .ref oM, .ref oS, .ref oK, .ref oL, .ref oD])), (am, .inl (tm, 512, .inl f))] H := hP
  have hD : va_D A [(h0, .inr (0, [.ref am, .ref oM, .ref oS, .ref oK, .ref oL, .ref oD])), (am, .inl (tm, 512, .inl f))] := hD
  have hK : va_K (dC, dI) vwCl [(tm, .int)] s := hK
  have hl := lv_entry ([.ref h0, .int a0, .int v0]) (n := 3) (Nat.le_of_ble_eq_true rfl)
  rw [lg_entry_eq]
  generalize (lg_sl ([.ref h0, .int a0, .int v0]) ++ List.replicate (3 - (lg_sl ([.ref h0, .int a0, .int v0])).length) Slot.unset).toArray = ls at hl ⊢
  have hl : lv_has ls 3 [(0, .ref h0), (1, .int a0), (2, .int v0)] := hl
  refine lv_iload_n hx hb dX0_write_0 rfl (lv_at hl 1 rfl) ?_
  refine lv_if_lt (tgt := 22) hx hb dX0_write_1 (by decide) (fun c1 => ?_) (fun c1 => ?_)
  · have c1 := fz_lt.mp c1
    have kk0 : (0 : Int32).toInt = 0 := by decide
    exact False.elim (by omega)
  · have c1 := fz_nlt.mp c1
    have kk0 : (0 : Int32).toInt = 0 := by decide
    refine lv_iload_n hx hb dX0_write_4 rfl (lv_at hl 1 rfl) ?_
    refine lv_sipush (v := 1024) hx hb dX0_write_5 (by decide) ?_
    refine lv_icmp_ge (tgt := 22) hx hb dX0_write_8 (by decide) (fun c2 => ?_) (fun c2 => ?_)
    · have c2 := fz_le.mp c2
      have kk1024 : (1024 : Int32).toInt = 1024 := by decide
      exact False.elim (by omega)
    · have c2 := fz_nle.mp c2
      have kk1024 : (1024 : Int32).toInt = 1024 := by decide
      refine lv_aload_n hx hb dX0_write_11 rfl (lv_at hl 0 rfl) ?_
      refine va_get (D := (dC, dI)) (ci := 0) (v := .ref am) (C := RX0) (T := TX0) (N := 6) hx hb hts (by decide +kernel) hown hK hP 0 rfl rfl 0 (by decide) (hts (.fieldLink RX0 9 "UnibusMachine$Bus" "memory" "[I") (by decide +kernel)) (fun _ h9 => h9) rfl dX0_write_12 ?_
      refine lv_iload_n hx hb dX0_write_15 rfl (lv_at hl 1 rfl) ?_
      refine lv_iconst (v := 1) hx hb dX0_write_16 (by decide) ?_
      refine lv_ishr hx hb dX0_write_17 ?_
      have f1 := fz_shr1 a0 (by omega)
      refine lv_iload_n hx hb dX0_write_18 rfl (lv_at hl 2 rfl) ?_
      refine va_iast (D := (dC, dI)) hx hb hK hP hD hS 1 0 rfl rfl (vp_in_iff.mpr (by constructor <;> omega)) dX0_write_19 (fun H locs hP hD hS => ?_)
      have hP : va_P (dC, dI) vwCl [(h0, .inr (0, [.ref am, .ref oM, .ref oS, .ref oK, .ref oL, .ref oD])), (am, .inl (tm, 512, .inl (upd f (a0 >>> (1 &&& 31) : Int32).toNatClampNeg v0)))] H := hP
      have hD : va_D A [(h0, .inr (0, [.ref am, .ref oM, .ref oS, .ref oK, .ref oL, .ref oD])), (am, .inl (tm, 512, .inl (upd f (a0 >>> (1 &&& 31) : Int32).toNatClampNeg v0)))] := hD
      obtain ⟨f3, hf3⟩ : ∃ z : Nat → Int32, z = upd f (a0 >>> (1 &&& 31) : Int32).toNatClampNeg v0 := ⟨_, rfl⟩
      rw [← hf3] at hP hD
      have hf3_2 : f3 (2 : Int32).toNatClampNeg = 1 := by rw [hf3, pk_un (fz_nc _ 2 (by rw [f1]; first | (show (2 : Int) < _; omega) | (show (3 : Int) < _; omega)) (by decide))]; assumption
      have hf3_3 : f3 (3 : Int32).toNatClampNeg = 224 := by rw [hf3, pk_un (fz_nc _ 3 (by rw [f1]; first | (show (2 : Int) < _; omega) | (show (3 : Int) < _; omega)) (by decide))]; assumption
      have hP : va_P (dC, dI) vwCl [(h0, .inr (0, [.ref am, .ref oM, .ref oS, .ref oK, .ref oL, .ref oD])), (am, .inl (tm, 512, .inl f3))] H := hP
      have hD : va_D A [(h0, .inr (0, [.ref am, .ref oM, .ref oS, .ref oK, .ref oL, .ref oD])), (am, .inl (tm, 512, .inl f3))] := hD
      refine lv_iconst (v := 1) hx hb dX0_write_20 (by decide) ?_
      have hx4 : f3 (2 : Int32).toNatClampNeg = 1 := by first | assumption | omega
      have hx5 : f3 (3 : Int32).toNatClampNeg = 224 := by first | assumption | omega
      have hP9 := hP.sub (ws' := [(h0, .inr (0, [.ref am, .ref oM, .ref oS, .ref oK, .ref oL, .ref oD])), (am, .inl (tm, 512, .inl f3))]) [0, 1] rfl
      have hD9 := hD.sub (ws' := [(h0, .inr (0, [.ref am, .ref oM, .ref oS, .ref oK, .ref oL, .ref oD])), (am, .inl (tm, 512, .inl f3))]) [0, 1] (by decide) rfl
      have hK9 := hK.sub (tys' := [(tm, .int)]) [0] rfl
      exact W.zret (v := 1) hx hb hr (by decide) (fun t ht hW => ⟨⟨1, (f3), rfl, ⟨rfl, hx4, hx5⟩, by rw [ht]; exact hP9, va_K.moved hW.alike hK9, hD9⟩, hS.F ht⟩) hS.2.2 dX0_write_21
set_option maxHeartbeats 4000000 in
set_option maxRecDepth 100000 in
theorem c_writeWord (l : Launch) (dC : Nat → ClassId) (dI : Nat → Nat → Nat) (h0 : Nat) (ar : Nat) (oB : Nat) (oS : Nat) (ve : Int32) (am : Nat) (oM : Nat) (oK : Nat) (oL : Nat) (oD : Nat) (ad : Nat) (ab : Nat) (tm : ClassId) (f : Nat → Int32) (a0 : Int32) (v0 : Int32) (sz : Nat) (hF0 : f (2 : Int32).toNatClampNeg = 1) (hF1 : f (3 : Int32).toNatClampNeg = 224) (hH2 : 160 ≤ a0.toInt) (hH3 : a0.toInt < 1024) (hH4 : a0.toInt % 2 = 0) : Met l yX6_writeWord wsX6_writeWord ({ frames := 2, cells := 0, slots := 0, locals := 54 } : Room) (va_Pc [.ref h0, .int 0, .int a0, .int v0] (fun U => U.heap.size = sz ∧ va_P (dC, dI) vwCl [(h0, .inr (5, [.ref ar, .ref oB, .ref oS, .int 0, .int 0, .int 0, .int ve, .int 0, .int 0])), (oB, .inr (0, [.ref am, .ref oM, .ref oS, .ref oK, .ref oL, .ref oD])), (oM, .inr (3, [.ref ad, .ref ab, .int 0])), (am, .inl (tm, 512, .inl f))] U.heap ∧ va_K (dC, dI) vwCl [(tm, .int)] U ∧ va_D (fun _ => True) [(h0, .inr (5, [.ref ar, .ref oB, .ref oS, .int 0, .int 0, .int 0, .int ve, .int 0, .int 0])), (oB, .inr (0, [.ref am, .ref oM, .ref oS, .ref oK, .ref oL, .ref oD])), (oM, .inr (3, [.ref ad, .ref ab, .int 0])), (am, .inl (tm, 512, .inl f))])) (va_Qv (fun (u : (Nat → Int32)) => (u (2 : Int32).toNatClampNeg = 1) ∧ (u (3 : Int32).toNatClampNeg = 224)) (fun (u : (Nat → Int32)) (t : State) => va_P (dC, dI) vwCl [(h0, .inr (5, [.ref ar, .ref oB, .ref oS, .int 0, .int 0, .int 0, .int ve, .int 0, .int 0])), (oB, .inr (0, [.ref am, .ref oM, .ref oS, .ref oK, .ref oL, .ref oD])), (oM, .inr (3, [.ref ad, .ref ab, .int 0])), (am, .inl (tm, 512, .inl u))] t.heap ∧ va_K (dC, dI) vwCl [(tm, .int)] t ∧ va_D (va_A [(h0, .inr (5, [.ref ar, .ref oB, .ref oS, .int 0, .int 0, .int 0, .int ve, .int 0, .int 0])), (oB, .inr (0, [.ref am, .ref oM, .ref oS, .ref oK, .ref oL, .ref oD])), (oM, .inr (3, [.ref ad, .ref ab, .int 0])), (am, .inl (tm, 512, .inl f))] sz) [(h0, .inr (5, [.ref ar, .ref oB, .ref oS, .int 0, .int 0, .int 0, .int ve, .int 0, .int 0])), (oB, .inr (0, [.ref am, .ref oM, .ref oS, .ref oK, .ref oL, .ref oD])), (oM, .inr (3, [.ref ad, .ref ab, .int 0])), (am, .inl (tm, 512, .inl u))]) (va_A [(h0, .inr (5, [.ref ar, .ref oB, .ref oS, .int 0, .int 0, .int 0, .int ve, .int 0, .int 0])), (oB, .inr (0, [.ref am, .ref oM, .ref oS, .ref oK, .ref oL, .ref oD])), (oM, .inr (3, [.ref ad, .ref ab, .int 0])), (am, .inl (tm, 512, .inl f))] sz)) 0 0 (va_A [(h0, .inr (5, [.ref ar, .ref oB, .ref oS, .int 0, .int 0, .int 0, .int ve, .int 0, .int 0])), (oB, .inr (0, [.ref am, .ref oM, .ref oS, .ref oK, .ref oL, .ref oD])), (oM, .inr (3, [.ref ad, .ref ab, .int 0])), (am, .inl (tm, 512, .inl f))] sz) := by
  refine Met.ofW (cc := cX6_writeWord) (maxL := 4) (ret := none) (by decide) rfl ?_
  intro p e s m args below meth c s₁ B hml hv
  obtain ⟨rfl, hsz, hP, hK, hD0⟩ := hv
  have hx := B.exec
  have hb := B.bytes
  have hr := B.returns
  have hts := atoms_spec (ws := wsX6_writeWord) B.pre
  have hown : s.vm.findClass RX6 = some m.cls := findClass_of_methodNamed B.named
  have hlocks := B.notSynchronized
  have hD := hD0.self (sz := sz)
  generalize hAe : va_A [(h0, .inr (5, [.ref ar, .ref oB, .ref oS, .int 0, .int 0, .int 0, .int ve, .int 0, .int 0])), (oB, .inr (0, [.ref am, .ref oM, .ref oS, .ref oK, .ref oL, .ref oD])), (oM, .inr (3, [.ref ad, .ref ab, .int 0])), (am, .inl (tm, 512, .inl f))] sz = A at hD ⊢
  have hA : ∀ q : Nat, s.heap.size ≤ q → A q := fun q h => by rw [← hAe]; exact Or.inr (by omega)
  have hS0 : ∀ G : Heap, s.heap = G → va_S A s.heap G [] := fun G h => by subst h; exact va_S.rf
  generalize hHe : s.heap = H at hP ⊢
  have hS := hS0 H hHe
  have hP : va_P (dC, dI) vwCl [(h0, .inr (5, [.ref ar, .ref oB, .ref oS, .int 0, .int 0, .int 0, .int ve, .int 0, .int 0])), (oB, .inr (0, [.ref am, .ref oM, .ref oS, .ref oK, .ref oL, .ref oD])), (oM, .inr (3, [.ref ad, .ref ab, .int 0])), (am, .inl (tm, 512, .inl f))] H := hP
  have hD : va_D A [(h0, .inr (5, [.ref ar, .ref oB, .ref oS, .int 0, .int 0, .int 0, .int ve, .int 0, .int 0])), (oB, .inr (0, [.ref am, .ref oM, .ref oS, .ref oK, .ref oL, .ref oD])), (oM, .inr (3, [.ref ad, .ref ab, .int 0])), (am, .inl (tm, 512, .inl f))] := hD
  have hK : va_K (dC, dI) vwCl [(tm, .int)] s := hK
  have hl := lv_entry ([.ref h0, .int 0, .int a0, .int v0]) (n := 4) (Nat.le_of_ble_eq_true rfl)
  rw [lg_entry_eq]
  generalize (lg_sl ([.ref h0, .int 0, .int a0, .int v0]) ++ List.replicate (4 - (lg_sl ([.ref h0, .int 0, .int a0, .int v0])).length) Slot.unset).toArray = ls at hl ⊢
  have hl : lv_has ls 4 [(0, .ref h0), (1, .int 0), (2, .int a0), (3, .int v0)] := hl
  refine lv_iload_n hx hb dX6_writeWord_0 rfl (lv_at hl 2 rfl) ?_
  refine lv_iconst (v := 1) hx hb dX6_writeWord_1 (by decide) ?_
  refine lv_iand hx hb dX6_writeWord_2 ?_
  have f1 := fz_and1 a0
  refine lv_if_eq (tgt := 11) hx hb dX6_writeWord_3 (by decide) (fun c1 => ?_) (fun c1 => ?_)
  · have c1 := fz_eq.mp c1
    have kk0 : (0 : Int32).toInt = 0 := by decide
    refine lv_aload_n hx hb dX6_writeWord_11 rfl (lv_at hl 0 rfl) ?_
    refine va_get (D := (dC, dI)) (ci := 5) (v := .ref oB) (C := RX6) (T := TX6) (N := 9) hx hb hts (by decide +kernel) hown hK hP 0 rfl rfl 1 (by decide) (hts (.fieldLink RX6 33 "UnibusMachine$Processor" "bus" "LUnibusMachine$Bus;") (by decide +kernel)) (fun _ h9 => h9) rfl dX6_writeWord_12 ?_
    refine lv_aload_n hx hb dX6_writeWord_15 rfl (lv_at hl 0 rfl) ?_
    refine lv_iload_n hx hb dX6_writeWord_16 rfl (lv_at hl 1 rfl) ?_
    refine lv_iload_n hx hb dX6_writeWord_17 rfl (lv_at hl 2 rfl) ?_
    refine lv_iconst (v := 1) hx hb dX6_writeWord_18 (by decide) ?_
    have hPc := hP.sub (ws' := [(h0, .inr (5, [.ref ar, .ref oB, .ref oS, .int 0, .int 0, .int 0, .int ve, .int 0, .int 0])), (oB, .inr (0, [.ref am, .ref oM, .ref oS, .ref oK, .ref oL, .ref oD])), (oM, .inr (3, [.ref ad, .ref ab, .int 0]))]) [0, 1, 2] rfl
    have hDc := hD.sub (ws' := [(h0, .inr (5, [.ref ar, .ref oB, .ref oS, .int 0, .int 0, .int 0, .int ve, .int 0, .int 0])), (oB, .inr (0, [.ref am, .ref oM, .ref oS, .ref oK, .ref oL, .ref oD])), (oM, .inr (3, [.ref ad, .ref ab, .int 0]))]) [0, 1, 2] (by decide) rfl
    have hKc := hK.sub (tys' := []) [] rfl
    have hFc := va_free (wc := [(h0, .inr (5, [.ref ar, .ref oB, .ref oS, .int 0, .int 0, .int 0, .int ve, .int 0, .int 0])), (oB, .inr (0, [.ref am, .ref oM, .ref oS, .ref oK, .ref oL, .ref oD])), (oM, .inr (3, [.ref ad, .ref ab, .int 0]))]) hD hS hA [0, 1, 2] rfl
    refine va_calli (va_runV (As := [.int 0, .int a0, .int 1]) (rest := [.ref oB]) ⟨hx, hb, hml, hown, hts⟩ (c_placeW l dC dI h0 ar oB oS ve am oM oK oL oD ad ab a0 H.size (by first | assumption | omega)) (cwV 3 hts gX6_writeWord_X6_place rfl rfl rfl (by decide +kernel) ⟨Nat.le_of_ble_eq_true rfl, Nat.le_of_ble_eq_true rfl⟩) ⟨fun a U g mk q => by obtain ⟨q0, q1, qP, qK, qD⟩ := q; exact ⟨q0, q1, qP, va_K.moved (u := U) (U := U.calling g mk a) (Vm.Alike.refl U.vm) qK, qD⟩, va_recv hKc hPc (ci := 5) (q0 := 0) rfl rfl, fun U hU hW => ⟨rfl, by rw [hU], by rw [hU]; exact hPc, va_K.moved hW.alike hKc, hDc.weaken (fun _ _ _ _ => trivial)⟩⟩ rfl rfl hl.1 rfl (lv_room (Nat.le_of_ble_eq_true rfl)) dX6_writeWord_19 ⟨Nat.le_of_ble_eq_true rfl, Nat.le_of_ble_eq_true rfl⟩) hS (fun q _ h => hFc q h) hFc (fun r2 u3 t H1 locs ht hvm hw hB hz1 hk1 hS => ?_)
    obtain ⟨hP1, hK1, hD1⟩ := hB
    rw [ht] at hP1
    have hK1 := va_K.moved hvm.symm hK1
    try dsimp only at hw
    obtain ⟨hP, hD⟩ := va_join (wr := [(am, .inl (tm, 512, .inl f))]) (w1 := [(h0, .inr (5, [.ref ar, .ref oB, .ref oS, .int 0, .int 0, .int 0, .int ve, .int 0, .int 0])), (oB, .inr (0, [.ref am, .ref oM, .ref oS, .ref oK, .ref oL, .ref oD])), (oM, .inr (3, [.ref ad, .ref ab, .int 0]))]) hP hD [0, 1, 2] [3] rfl rfl (by decide) (by decide) hk1 hFc hP1 hD1
    have hK := (hK.sub (tys' := [(tm, .int)]) [0] rfl).app hK1
    generalize H1 = H at hP hS ⊢
    have hP : va_P (dC, dI) vwCl [(am, .inl (tm, 512, .inl f)), (h0, .inr (5, [.ref ar, .ref oB, .ref oS, .int 0, .int 0, .int 0, .int ve, .int 0, .int 0])), (oB, .inr (0, [.ref am, .ref oM, .ref oS, .ref oK, .ref oL, .ref oD])), (oM, .inr (3, [.ref ad, .ref ab, .int 0]))] H := hP
    have hD : va_D A [(am, .inl (tm, 512, .inl f)), (h0, .inr (5, [.ref ar, .ref oB, .ref oS, .int 0, .int 0, .int 0, .int ve, .int 0, .int 0])), (oB, .inr (0, [.ref am, .ref oM, .ref oS, .ref oK, .ref oL, .ref oD])), (oM, .inr (3, [.ref ad, .ref ab, .int 0]))] := hD
    have hK : va_K (dC, dI) vwCl [(tm, .int)] s := hK
    refine W.widen (k := 0) (n := 0) (Nat.le_of_ble_eq_true rfl) (Nat.le_of_ble_eq_true rfl) ?_
    obtain rfl := hw
    refine lv_iload_n hx hb dX6_writeWord_22 rfl (lv_at hl 3 rfl) ?_
    have hPc := hP.sub (ws' := [(oB, .inr (0, [.ref am, .ref oM, .ref oS, .ref oK, .ref oL, .ref oD])), (am, .inl (tm, 512, .inl f))]) [2, 0] rfl
    have hDc := hD.sub (ws' := [(oB, .inr (0, [.ref am, .ref oM, .ref oS, .ref oK, .ref oL, .ref oD])), (am, .inl (tm, 512, .inl f))]) [2, 0] (by decide) rfl
    have hKc := hK.sub (tys' := [(tm, .int)]) [0] rfl
    have hFc := va_free (wc := [(oB, .inr (0, [.ref am, .ref oM, .ref oS, .ref oK, .ref oL, .ref oD])), (am, .inl (tm, 512, .inl f))]) hD hS hA [2, 0] rfl
    refine va_calli (va_runV (As := [.int a0, .int v0]) (rest := []) ⟨hx, hb, hml, hown, hts⟩ (c_writeM l dC dI oB am oM oS oK oL oD tm f a0 v0 H.size (by first | assumption | omega) (by first | assumption | omega) (by first | assumption | omega) (by first | assumption | omega) (by first | assumption | omega)) (cwV 2 hts gX6_writeWord_X0_write rfl rfl rfl (by decide +kernel) ⟨Nat.le_of_ble_eq_true rfl, Nat.le_of_ble_eq_true rfl⟩) ⟨fun a U g mk q => by obtain ⟨q0, q1, qP, qK, qD⟩ := q; exact ⟨q0, q1, qP, va_K.moved (u := U) (U := U.calling g mk a) (Vm.Alike.refl U.vm) qK, qD⟩, va_recv hKc hPc (ci := 0) (q0 := 0) rfl rfl, fun U hU hW => ⟨rfl, by rw [hU], by rw [hU]; exact hPc, va_K.moved hW.alike hKc, hDc.weaken (fun _ _ _ _ => trivial)⟩⟩ rfl rfl hl.1 rfl (lv_room (Nat.le_of_ble_eq_true rfl)) dX6_writeWord_23 ⟨Nat.le_of_ble_eq_true rfl, Nat.le_of_ble_eq_true rfl⟩) hS (fun q _ h => hFc q h) hFc (fun r4 u5 t H1 locs ht hvm hw hB hz1 hk1 hS => ?_)
    obtain ⟨hP1, hK1, hD1⟩ := hB
    rw [ht] at hP1
    have hK1 := va_K.moved hvm.symm hK1
    try dsimp only at hw
    obtain ⟨hP, hD⟩ := va_join (wr := [(h0, .inr (5, [.ref ar, .ref oB, .ref oS, .int 0, .int 0, .int 0, .int ve, .int 0, .int 0])), (oM, .inr (3, [.ref ad, .ref ab, .int 0]))]) (w1 := [(oB, .inr (0, [.ref am, .ref oM, .ref oS, .ref oK, .ref oL, .ref oD])), (am, .inl (tm, 512, .inl u5))]) hP hD [2, 0] [1, 3] rfl rfl (by decide) (by decide) hk1 hFc hP1 hD1
    have hK := (hK.sub (tys' := []) [] rfl).app hK1
    generalize H1 = H at hP hS ⊢
    have hP : va_P (dC, dI) vwCl [(h0, .inr (5, [.ref ar, .ref oB, .ref oS, .int 0, .int 0, .int 0, .int ve, .int 0, .int 0])), (oM, .inr (3, [.ref ad, .ref ab, .int 0])), (oB, .inr (0, [.ref am, .ref oM, .ref oS, .ref oK, .ref oL, .ref oD])), (am, .inl (tm, 512, .inl u5))] H := hP
    have hD : va_D A [(h0, .inr (5, [.ref ar, .ref oB, .ref oS, .int 0, .int 0, .int 0, .int ve, .int 0, .int 0])), (oM, .inr (3, [.ref ad, .ref ab, .int 0])), (oB, .inr (0, [.ref am, .ref oM, .ref oS, .ref oK, .ref oL, .ref oD])), (am, .inl (tm, 512, .inl u5))] := hD
    have hK : va_K (dC, dI) vwCl [(tm, .int)] s := hK
    refine W.widen (k := 0) (n := 0) (Nat.le_of_ble_eq_true rfl) (Nat.le_of_ble_eq_true rfl) ?_
    obtain ⟨rfl, _, _⟩ := hw
    refine lv_if_ne (tgt := 34) hx hb dX6_writeWord_26 (by decide) (fun c6 => ?_) (fun c6 => ?_)
    · skip
      have hx7 : u5 (2 : Int32).toNatClampNeg = 1 := by first | assumption | omega
      have hx8 : u5 (3 : Int32).toNatClampNeg = 224 := by first | assumption | omega
      have hP9 := hP.sub (ws' := [(h0, .inr (5, [.ref ar, .ref oB, .ref oS, .int 0, .int 0, .int 0, .int ve, .int 0, .int 0])), (oB, .inr (0, [.ref am, .ref oM, .ref oS, .ref oK, .ref oL, .ref oD])), (oM, .inr (3, [.ref ad, .ref ab, .int 0])), (am, .inl (tm, 512, .inl u5))]) [0, 2, 1, 3] rfl
      have hD9 := hD.sub (ws' := [(h0, .inr (5, [.ref ar, .ref oB, .ref oS, .int 0, .int 0, .int 0, .int ve, .int 0, .int 0])), (oB, .inr (0, [.ref am, .ref oM, .ref oS, .ref oK, .ref oL, .ref oD])), (oM, .inr (3, [.ref ad, .ref ab, .int 0])), (am, .inl (tm, 512, .inl u5))]) [0, 2, 1, 3] (by decide) rfl
      have hK9 := hK.sub (tys' := [(tm, .int)]) [0] rfl
      exact W.vret hx hb hr (fun t ht hW => ⟨⟨(u5), rfl, ⟨hx7, hx8⟩, by rw [ht]; exact hP9, va_K.moved hW.alike hK9, hD9⟩, hS.F ht⟩) hS.2.2 dX6_writeWord_34
    · exact absurd c6 (by decide)
  · have c1 := fz_ne.mp c1
    have kk0 : (0 : Int32).toInt = 0 := by decide
    exact False.elim (by omega)
set_option maxHeartbeats 4000000 in
set_option maxRecDepth 100000 in
theorem c_push (l : Launch) (dC : Nat → ClassId) (dI : Nat → Nat → Nat) (h0 : Nat) (ar : Nat) (oB : Nat) (oS : Nat) (ve : Int32) (am : Nat) (oM : Nat) (oK : Nat) (oL : Nat) (oD : Nat) (ad : Nat) (ab : Nat) (tm : ClassId) (f : Nat → Int32) (tr : ClassId) (g : Nat → Int32) (z : Int) (v0 : Int32) (sz : Nat) (hF0 : f (2 : Int32).toNatClampNeg = 1) (hF1 : f (3 : Int32).toNatClampNeg = 224) (hF2 : g (7 : Int32).toNatClampNeg = 1) (hF3 : (g (6 : Int32).toNatClampNeg).toInt = z) (hH4 : 166 ≤ z) (hH5 : z ≤ 1024) (hH6 : z % 2 = 0) : Met l yX6_push wsX6_push ({ frames := 3, cells := 0, slots := 0, locals := 80 } : Room) (va_Pc [.ref h0, .int v0] (fun U => U.heap.size = sz ∧ va_P (dC, dI) vwCl [(h0, .inr (5, [.ref ar, .ref oB, .ref oS, .int 0, .int 0, .int 0, .int ve, .int 0, .int 0])), (oS, .inr (6, [.int 224, .int (-1)])), (oB, .inr (0, [.ref am, .ref oM, .ref oS, .ref oK, .ref oL, .ref oD])), (oM, .inr (3, [.ref ad, .ref ab, .int 0])), (am, .inl (tm, 512, .inl f)), (ar, .inl (tr, 8, .inl g))] U.heap ∧ va_K (dC, dI) vwCl [(tm, .int), (tr, .int)] U ∧ va_D (fun _ => True) [(h0, .inr (5, [.ref ar, .ref oB, .ref oS, .int 0, .int 0, .int 0, .int ve, .int 0, .int 0])), (oS, .inr (6, [.int 224, .int (-1)])), (oB, .inr (0, [.ref am, .ref oM, .ref oS, .ref oK, .ref oL, .ref oD])), (oM, .inr (3, [.ref ad, .ref ab, .int 0])), (am, .inl (tm, 512, .inl f)), (ar, .inl (tr, 8, .inl g))])) (va_Qv (fun (u : (Nat → Int32) × (Nat → Int32)) => (u.1 (2 : Int32).toNatClampNeg = 1) ∧ (u.1 (3 : Int32).toNatClampNeg = 224) ∧ (u.2 (7 : Int32).toNatClampNeg = 1) ∧ ((u.2 (6 : Int32).toNatClampNeg).toInt = z - 2)) (fun (u : (Nat → Int32) × (Nat → Int32)) (t : State) => va_P (dC, dI) vwCl [(h0, .inr (5, [.ref ar, .ref oB, .ref oS, .int 0, .int 0, .int 0, .int ve, .int 0, .int 0])), (oS, .inr (6, [.int 224, .int (-1)])), (oB, .inr (0, [.ref am, .ref oM, .ref oS, .ref oK, .ref oL, .ref oD])), (oM, .inr (3, [.ref ad, .ref ab, .int 0])), (am, .inl (tm, 512, .inl u.1)), (ar, .inl (tr, 8, .inl u.2))] t.heap ∧ va_K (dC, dI) vwCl [(tm, .int), (tr, .int)] t ∧ va_D (va_A [(h0, .inr (5, [.ref ar, .ref oB, .ref oS, .int 0, .int 0, .int 0, .int ve, .int 0, .int 0])), (oS, .inr (6, [.int 224, .int (-1)])), (oB, .inr (0, [.ref am, .ref oM, .ref oS, .ref oK, .ref oL, .ref oD])), (oM, .inr (3, [.ref ad, .ref ab, .int 0])), (am, .inl (tm, 512, .inl f)), (ar, .inl (tr, 8, .inl g))] sz) [(h0, .inr (5, [.ref ar, .ref oB, .ref oS, .int 0, .int 0, .int 0, .int ve, .int 0, .int 0])), (oS, .inr (6, [.int 224, .int (-1)])), (oB, .inr (0, [.ref am, .ref oM, .ref oS, .ref oK, .ref oL, .ref oD])), (oM, .inr (3, [.ref ad, .ref ab, .int 0])), (am, .inl (tm, 512, .inl u.1)), (ar, .inl (tr, 8, .inl u.2))]) (va_A [(h0, .inr (5, [.ref ar, .ref oB, .ref oS, .int 0, .int 0, .int 0, .int ve, .int 0, .int 0])), (oS, .inr (6, [.int 224, .int (-1)])), (oB, .inr (0, [.ref am, .ref oM, .ref oS, .ref oK, .ref oL, .ref oD])), (oM, .inr (3, [.ref ad, .ref ab, .int 0])), (am, .inl (tm, 512, .inl f)), (ar, .inl (tr, 8, .inl g))] sz)) 0 0 (va_A [(h0, .inr (5, [.ref ar, .ref oB, .ref oS, .int 0, .int 0, .int 0, .int ve, .int 0, .int 0])), (oS, .inr (6, [.int 224, .int (-1)])), (oB, .inr (0, [.ref am, .ref oM, .ref oS, .ref oK, .ref oL, .ref oD])), (oM, .inr (3, [.ref ad, .ref ab, .int 0])), (am, .inl (tm, 512, .inl f)), (ar, .inl (tr, 8, .inl g))] sz) := by
  refine Met.ofW (cc := cX6_push) (maxL := 2) (ret := none) (by decide) rfl ?_
  intro p e s m args below meth c s₁ B hml hv
  obtain ⟨rfl, hsz, hP, hK, hD0⟩ := hv
  have hx := B.exec
  have hb := B.bytes
  have hr := B.returns
  have hts := atoms_spec (ws := wsX6_push) B.pre
  have hown : s.vm.findClass RX6 = some m.cls := findClass_of_methodNamed B.named
  have hlocks := B.notSynchronized
  have hD := hD0.self (sz := sz)
  generalize hAe : va_A [(h0, .inr (5, [.ref ar, .ref oB, .ref oS, .int 0, .int 0, .int 0, .int ve, .int 0, .int 0])), (oS, .inr (6, [.int 224, .int (-1)])), (oB, .inr (0, [.ref am, .ref oM, .ref oS, .ref oK, .ref oL, .ref oD])), (oM, .inr (3, [.ref ad, .ref ab, .int 0])), (am, .inl (tm, 512, .inl f)), (ar, .inl (tr, 8, .inl g))] sz = A at hD ⊢
  have hA : ∀ q : Nat, s.heap.size ≤ q → A q := fun q h => by rw [← hAe]; exact Or.inr (by omega)
  have hS0 : ∀ G : Heap, s.heap = G → va_S A s.heap G [] := fun G h => by subst h; exact va_S.rf
  generalize hHe : s.heap = H at hP ⊢
  have hS := hS0 H hHe
  have hP : va_P (dC, dI) vwCl [(h0, .inr (5, [.ref ar, .ref oB, .ref oS, .int 0, .int 0, .int 0, .int ve, .int 0, .int 0])), (oS, .inr (6, [.int 224, .int (-1)])), (oB, .inr (0, [.ref am, .ref oM, .ref oS, .ref oK, .ref oL, .ref oD])), (oM, .inr (3, [.ref ad, .ref ab, .int 0])), (am, .inl (tm, 512, .inl f)), (ar, .inl (tr, 8, .inl g))] H := hP
  have hD : va_D A [(h0, .inr (5, [.ref ar, .ref oB, .ref oS, .int 0, .int 0, .int 0, .int ve, .int 0, .int 0])), (oS, .inr (6, [.int 224, .int (-1)])), (oB, .inr (0, [.ref am, .ref oM, .ref oS, .ref oK, .ref oL, .ref oD])), (oM, .inr (3, [.ref ad, .ref ab, .int 0])), (am, .inl (tm, 512, .inl f)), (ar, .inl (tr, 8, .inl g))] := hD
  have hK : va_K (dC, dI) vwCl [(tm, .int), (tr, .int)] s := hK
  have hl := lv_entry ([.ref h0, .int v0]) (n := 2) (Nat.le_of_ble_eq_true rfl)
  rw [lg_entry_eq]
  generalize (lg_sl ([.ref h0, .int v0]) ++ List.replicate (2 - (lg_sl ([.ref h0, .int v0])).length) Slot.unset).toArray = ls at hl ⊢
  have hl : lv_has ls 2 [(0, .ref h0), (1, .int v0)] := hl
  refine lv_aload_n hx hb dX6_push_0 rfl (lv_at hl 0 rfl) ?_
  refine lv_aload_n hx hb dX6_push_1 rfl (lv_at hl 0 rfl) ?_
  have hPc := hP.sub (ws' := [(h0, .inr (5, [.ref ar, .ref oB, .ref oS, .int 0, .int 0, .int 0, .int ve, .int 0, .int 0])), (oS, .inr (6, [.int 224, .int (-1)]))]) [0, 1] rfl
  have hDc := hD.sub (ws' := [(h0, .inr (5, [.ref ar, .ref oB, .ref oS, .int 0, .int 0, .int 0, .int ve, .int 0, .int 0])), (oS, .inr (6, [.int 224, .int (-1)]))]) [0, 1] (by decide) rfl
  have hKc := hK.sub (tys' := []) [] rfl
  have hFc := va_free (wc := [(h0, .inr (5, [.ref ar, .ref oB, .ref oS, .int 0, .int 0, .int 0, .int ve, .int 0, .int 0])), (oS, .inr (6, [.int 224, .int (-1)]))]) hD hS hA [0, 1] rfl
  refine va_calli (va_runV (As := []) (rest := [.ref h0]) ⟨hx, hb, hml, hown, hts⟩ (c_mode l dC dI h0 ar oB oS ve H.size) (cwV 0 hts gX6_push_X6_mode rfl rfl rfl (by decide +kernel) ⟨Nat.le_of_ble_eq_true rfl, Nat.le_of_ble_eq_true rfl⟩) ⟨fun a U g mk q => by obtain ⟨q0, q1, qP, qK, qD⟩ := q; exact ⟨q0, q1, qP, va_K.moved (u := U) (U := U.calling g mk a) (Vm.Alike.refl U.vm) qK, qD⟩, va_recv hKc hPc (ci := 5) (q0 := 0) rfl rfl, fun U hU hW => ⟨rfl, by rw [hU], by rw [hU]; exact hPc, va_K.moved hW.alike hKc, hDc.weaken (fun _ _ _ _ => trivial)⟩⟩ rfl rfl hl.1 rfl (lv_room (Nat.le_of_ble_eq_true rfl)) dX6_push_2 ⟨Nat.le_of_ble_eq_true rfl, Nat.le_of_ble_eq_true rfl⟩) hS (fun q _ h => hFc q h) hFc (fun r1 u2 t H1 locs ht hvm hw hB hz1 hk1 hS => ?_)
  obtain ⟨hP1, hK1, hD1⟩ := hB
  rw [ht] at hP1
  have hK1 := va_K.moved hvm.symm hK1
  try dsimp only at hw
  obtain ⟨hP, hD⟩ := va_join (wr := [(oB, .inr (0, [.ref am, .ref oM, .ref oS, .ref oK, .ref oL, .ref oD])), (oM, .inr (3, [.ref ad, .ref ab, .int 0])), (am, .inl (tm, 512, .inl f)), (ar, .inl (tr, 8, .inl g))]) (w1 := [(h0, .inr (5, [.ref ar, .ref oB, .ref oS, .int 0, .int 0, .int 0, .int ve, .int 0, .int 0])), (oS, .inr (6, [.int 224, .int (-1)]))]) hP hD [0, 1] [2, 3, 4, 5] rfl rfl (by decide) (by decide) hk1 hFc hP1 hD1
  have hK := (hK.sub (tys' := [(tm, .int), (tr, .int)]) [0, 1] rfl).app hK1
  generalize H1 = H at hP hS ⊢
  have hP : va_P (dC, dI) vwCl [(oB, .inr (0, [.ref am, .ref oM, .ref oS, .ref oK, .ref oL, .ref oD])), (oM, .inr (3, [.ref ad, .ref ab, .int 0])), (am, .inl (tm, 512, .inl f)), (ar, .inl (tr, 8, .inl g)), (h0, .inr (5, [.ref ar, .ref oB, .ref oS, .int 0, .int 0, .int 0, .int ve, .int 0, .int 0])), (oS, .inr (6, [.int 224, .int (-1)]))] H := hP
  have hD : va_D A [(oB, .inr (0, [.ref am, .ref oM, .ref oS, .ref oK, .ref oL, .ref oD])), (oM, .inr (3, [.ref ad, .ref ab, .int 0])), (am, .inl (tm, 512, .inl f)), (ar, .inl (tr, 8, .inl g)), (h0, .inr (5, [.ref ar, .ref oB, .ref oS, .int 0, .int 0, .int 0, .int ve, .int 0, .int 0])), (oS, .inr (6, [.int 224, .int (-1)]))] := hD
  have hK : va_K (dC, dI) vwCl [(tm, .int), (tr, .int)] s := hK
  refine W.widen (k := 0) (n := 0) (Nat.le_of_ble_eq_true rfl) (Nat.le_of_ble_eq_true rfl) ?_
  obtain rfl := hw
  refine lv_aload_n hx hb dX6_push_5 rfl (lv_at hl 0 rfl) ?_
  refine lv_bipush (v := 6) hx hb dX6_push_6 (by decide) ?_
  refine lv_iconst (v := 2) hx hb dX6_push_8 (by decide) ?_
  have hPc := hP.sub (ws' := [(h0, .inr (5, [.ref ar, .ref oB, .ref oS, .int 0, .int 0, .int 0, .int ve, .int 0, .int 0])), (ar, .inl (tr, 8, .inl g))]) [4, 3] rfl
  have hDc := hD.sub (ws' := [(h0, .inr (5, [.ref ar, .ref oB, .ref oS, .int 0, .int 0, .int 0, .int ve, .int 0, .int 0])), (ar, .inl (tr, 8, .inl g))]) [4, 3] (by decide) rfl
  have hKc := hK.sub (tys' := [(tr, .int)]) [1] rfl
  have hFc := va_free (wc := [(h0, .inr (5, [.ref ar, .ref oB, .ref oS, .int 0, .int 0, .int 0, .int ve, .int 0, .int 0])), (ar, .inl (tr, 8, .inl g))]) hD hS hA [4, 3] rfl
  refine va_calli (va_runV (As := [.int 6, .int 2]) (rest := [.int 0, .ref h0]) ⟨hx, hb, hml, hown, hts⟩ (c_fall6 l dC dI h0 ar oB oS ve tr g z H.size (by first | assumption | omega) (by first | assumption | omega) (by first | assumption | omega) (by first | assumption | omega) (by first | assumption | omega)) (cwV 2 hts gX6_push_X6_fall rfl rfl rfl (by decide +kernel) ⟨Nat.le_of_ble_eq_true rfl, Nat.le_of_ble_eq_true rfl⟩) ⟨fun a U g mk q => by obtain ⟨q0, q1, qP, qK, qD⟩ := q; exact ⟨q0, q1, qP, va_K.moved (u := U) (U := U.calling g mk a) (Vm.Alike.refl U.vm) qK, qD⟩, va_recv hKc hPc (ci := 5) (q0 := 0) rfl rfl, fun U hU hW => ⟨rfl, by rw [hU], by rw [hU]; exact hPc, va_K.moved hW.alike hKc, hDc.weaken (fun _ _ _ _ => trivial)⟩⟩ rfl rfl hl.1 rfl (lv_room (Nat.le_of_ble_eq_true rfl)) dX6_push_9 ⟨Nat.le_of_ble_eq_true rfl, Nat.le_of_ble_eq_true rfl⟩) hS (fun q _ h => hFc q h) hFc (fun r3 u4 t H1 locs ht hvm hw hB hz1 hk1 hS => ?_)
  obtain ⟨hP1, hK1, hD1⟩ := hB
  rw [ht] at hP1
  have hK1 := va_K.moved hvm.symm hK1
  try dsimp only at hw
  obtain ⟨hP, hD⟩ := va_join (wr := [(oB, .inr (0, [.ref am, .ref oM, .ref oS, .ref oK, .ref oL, .ref oD])), (oM, .inr (3, [.ref ad, .ref ab, .int 0])), (am, .inl (tm, 512, .inl f)), (oS, .inr (6, [.int 224, .int (-1)]))]) (w1 := [(h0, .inr (5, [.ref ar, .ref oB, .ref oS, .int 0, .int 0, .int 0, .int ve, .int 0, .int 0])), (ar, .inl (tr, 8, .inl u4))]) hP hD [4, 3] [0, 1, 2, 5] rfl rfl (by decide) (by decide) hk1 hFc hP1 hD1
  have hK := (hK.sub (tys' := [(tm, .int)]) [0] rfl).app hK1
  generalize H1 = H at hP hS ⊢
  have hP : va_P (dC, dI) vwCl [(oB, .inr (0, [.ref am, .ref oM, .ref oS, .ref oK, .ref oL, .ref oD])), (oM, .inr (3, [.ref ad, .ref ab, .int 0])), (am, .inl (tm, 512, .inl f)), (oS, .inr (6, [.int 224, .int (-1)])), (h0, .inr (5, [.ref ar, .ref oB, .ref oS, .int 0, .int 0, .int 0, .int ve, .int 0, .int 0])), (ar, .inl (tr, 8, .inl u4))] H := hP
  have hD : va_D A [(oB, .inr (0, [.ref am, .ref oM, .ref oS, .ref oK, .ref oL, .ref oD])), (oM, .inr (3, [.ref ad, .ref ab, .int 0])), (am, .inl (tm, 512, .inl f)), (oS, .inr (6, [.int 224, .int (-1)])), (h0, .inr (5, [.ref ar, .ref oB, .ref oS, .int 0, .int 0, .int 0, .int ve, .int 0, .int 0])), (ar, .inl (tr, 8, .inl u4))] := hD
  have hK : va_K (dC, dI) vwCl [(tm, .int), (tr, .int)] s := hK
  refine W.widen (k := 0) (n := 0) (Nat.le_of_ble_eq_true rfl) (Nat.le_of_ble_eq_true rfl) ?_
  obtain ⟨rfl, _, _⟩ := hw
  refine lv_iload_n hx hb dX6_push_12 rfl (lv_at hl 1 rfl) ?_
  have hPc := hP.sub (ws' := [(h0, .inr (5, [.ref ar, .ref oB, .ref oS, .int 0, .int 0, .int 0, .int ve, .int 0, .int 0])), (oB, .inr (0, [.ref am, .ref oM, .ref oS, .ref oK, .ref oL, .ref oD])), (oM, .inr (3, [.ref ad, .ref ab, .int 0])), (am, .inl (tm, 512, .inl f))]) [4, 0, 1, 2] rfl
  have hDc := hD.sub (ws' := [(h0, .inr (5, [.ref ar, .ref oB, .ref oS, .int 0, .int 0, .int 0, .int ve, .int 0, .int 0])), (oB, .inr (0, [.ref am, .ref oM, .ref oS, .ref oK, .ref oL, .ref oD])), (oM, .inr (3, [.ref ad, .ref ab, .int 0])), (am, .inl (tm, 512, .inl f))]) [4, 0, 1, 2] (by decide) rfl
  have hKc := hK.sub (tys' := [(tm, .int)]) [0] rfl
  have hFc := va_free (wc := [(h0, .inr (5, [.ref ar, .ref oB, .ref oS, .int 0, .int 0, .int 0, .int ve, .int 0, .int 0])), (oB, .inr (0, [.ref am, .ref oM, .ref oS, .ref oK, .ref oL, .ref oD])), (oM, .inr (3, [.ref ad, .ref ab, .int 0])), (am, .inl (tm, 512, .inl f))]) hD hS hA [4, 0, 1, 2] rfl
  refine va_callv (va_runV (As := [.int 0, .int (u4 (6 : Int32).toNatClampNeg), .int v0]) (rest := []) ⟨hx, hb, hml, hown, hts⟩ (c_writeWord l dC dI h0 ar oB oS ve am oM oK oL oD ad ab tm f (u4 (6 : Int32).toNatClampNeg) v0 H.size (by first | assumption | omega) (by first | assumption | omega) (by first | assumption | omega) (by first | assumption | omega) (by first | assumption | omega)) (cwV 3 hts gX6_push_X6_writeWord rfl rfl rfl (by decide +kernel) ⟨Nat.le_of_ble_eq_true rfl, Nat.le_of_ble_eq_true rfl⟩) ⟨fun a U g mk q => by obtain ⟨q0, q1, qP, qK, qD⟩ := q; exact ⟨q0, q1, qP, va_K.moved (u := U) (U := U.calling g mk a) (Vm.Alike.refl U.vm) qK, qD⟩, va_recv hKc hPc (ci := 5) (q0 := 0) rfl rfl, fun U hU hW => ⟨rfl, by rw [hU], by rw [hU]; exact hPc, va_K.moved hW.alike hKc, hDc.weaken (fun _ _ _ _ => trivial)⟩⟩ rfl rfl hl.1 rfl (lv_room (Nat.le_of_ble_eq_true rfl)) dX6_push_13 ⟨Nat.le_of_ble_eq_true rfl, Nat.le_of_ble_eq_true rfl⟩) hS (fun q _ h => hFc q h) hFc (fun u6 t H1 locs ht hvm hw hB hz1 hk1 hS => ?_)
  obtain ⟨hP1, hK1, hD1⟩ := hB
  rw [ht] at hP1
  have hK1 := va_K.moved hvm.symm hK1
  try dsimp only at hw
  obtain ⟨hP, hD⟩ := va_join (wr := [(oS, .inr (6, [.int 224, .int (-1)])), (ar, .inl (tr, 8, .inl u4))]) (w1 := [(h0, .inr (5, [.ref ar, .ref oB, .ref oS, .int 0, .int 0, .int 0, .int ve, .int 0, .int 0])), (oB, .inr (0, [.ref am, .ref oM, .ref oS, .ref oK, .ref oL, .ref oD])), (oM, .inr (3, [.ref ad, .ref ab, .int 0])), (am, .inl (tm, 512, .inl u6))]) hP hD [4, 0, 1, 2] [3, 5] rfl rfl (by decide) (by decide) hk1 hFc hP1 hD1
  have hK := (hK.sub (tys' := [(tr, .int)]) [1] rfl).app hK1
  generalize H1 = H at hP hS ⊢
  have hP : va_P (dC, dI) vwCl [(oS, .inr (6, [.int 224, .int (-1)])), (ar, .inl (tr, 8, .inl u4)), (h0, .inr (5, [.ref ar, .ref oB, .ref oS, .int 0, .int 0, .int 0, .int ve, .int 0, .int 0])), (oB, .inr (0, [.ref am, .ref oM, .ref oS, .ref oK, .ref oL, .ref oD])), (oM, .inr (3, [.ref ad, .ref ab, .int 0])), (am, .inl (tm, 512, .inl u6))] H := hP
  have hD : va_D A [(oS, .inr (6, [.int 224, .int (-1)])), (ar, .inl (tr, 8, .inl u4)), (h0, .inr (5, [.ref ar, .ref oB, .ref oS, .int 0, .int 0, .int 0, .int ve, .int 0, .int 0])), (oB, .inr (0, [.ref am, .ref oM, .ref oS, .ref oK, .ref oL, .ref oD])), (oM, .inr (3, [.ref ad, .ref ab, .int 0])), (am, .inl (tm, 512, .inl u6))] := hD
  have hK : va_K (dC, dI) vwCl [(tr, .int), (tm, .int)] s := hK
  refine W.widen (k := 0) (n := 0) (Nat.le_of_ble_eq_true rfl) (Nat.le_of_ble_eq_true rfl) ?_
  obtain ⟨_, _⟩ := hw
  have hx7 : u6 (2 : Int32).toNatClampNeg = 1 := by first | assumption | omega
  have hx8 : u6 (3 : Int32).toNatClampNeg = 224 := by first | assumption | omega
  have hx9 : u4 (7 : Int32).toNatClampNeg = 1 := by first | assumption | omega
  have hx10 : (u4 (6 : Int32).toNatClampNeg).toInt = z - 2 := by first | assumption | omega
  have hP9 := hP.sub (ws' := [(h0, .inr (5, [.ref ar, .ref oB, .ref oS, .int 0, .int 0, .int 0, .int ve, .int 0, .int 0])), (oS, .inr (6, [.int 224, .int (-1)])), (oB, .inr (0, [.ref am, .ref oM, .ref oS, .ref oK, .ref oL, .ref oD])), (oM, .inr (3, [.ref ad, .ref ab, .int 0])), (am, .inl (tm, 512, .inl u6)), (ar, .inl (tr, 8, .inl u4))]) [2, 0, 3, 4, 5, 1] rfl
  have hD9 := hD.sub (ws' := [(h0, .inr (5, [.ref ar, .ref oB, .ref oS, .int 0, .int 0, .int 0, .int ve, .int 0, .int 0])), (oS, .inr (6, [.int 224, .int (-1)])), (oB, .inr (0, [.ref am, .ref oM, .ref oS, .ref oK, .ref oL, .ref oD])), (oM, .inr (3, [.ref ad, .ref ab, .int 0])), (am, .inl (tm, 512, .inl u6)), (ar, .inl (tr, 8, .inl u4))]) [2, 0, 3, 4, 5, 1] (by decide) rfl
  have hK9 := hK.sub (tys' := [(tm, .int), (tr, .int)]) [1, 0] rfl
  exact W.vret hx hb hr (fun t ht hW => ⟨⟨(u6, u4), rfl, ⟨hx7, hx8, hx9, hx10⟩, by rw [ht]; exact hP9, va_K.moved hW.alike hK9, hD9⟩, hS.F ht⟩) hS.2.2 dX6_push_16
set_option maxHeartbeats 4000000 in
set_option maxRecDepth 100000 in
theorem c_trap4 (l : Launch) (dC : Nat → ClassId) (dI : Nat → Nat → Nat) (h0 : Nat) (ar : Nat) (oB : Nat) (oS : Nat) (ve : Int32) (am : Nat) (oM : Nat) (oK : Nat) (oL : Nat) (oD : Nat) (ad : Nat) (ab : Nat) (tm : ClassId) (f : Nat → Int32) (tr : ClassId) (g : Nat → Int32) (z : Int) (sz : Nat) (hF0 : f (2 : Int32).toNatClampNeg = 1) (hF1 : f (3 : Int32).toNatClampNeg = 224) (hF2 : g (7 : Int32).toNatClampNeg = 1) (hF3 : (g (6 : Int32).toNatClampNeg).toInt = z) (hH4 : 170 ≤ z) (hH5 : z ≤ 1024) (hH6 : z % 2 = 0) : Met l yX6_trap wsX6_trap ({ frames := 4, cells := 0, slots := 0, locals := 101 } : Room) (va_Pc [.ref h0, .int 4] (fun U => U.heap.size = sz ∧ va_P (dC, dI) vwCl [(h0, .inr (5, [.ref ar, .ref oB, .ref oS, .int 0, .int 0, .int 0, .int ve, .int 0, .int 0])), (oS, .inr (6, [.int 224, .int (-1)])), (oB, .inr (0, [.ref am, .ref oM, .ref oS, .ref oK, .ref oL, .ref oD])), (oM, .inr (3, [.ref ad, .ref ab, .int 0])), (am, .inl (tm, 512, .inl f)), (ar, .inl (tr, 8, .inl g))] U.heap ∧ va_K (dC, dI) vwCl [(tm, .int), (tr, .int)] U ∧ va_D (fun _ => True) [(h0, .inr (5, [.ref ar, .ref oB, .ref oS, .int 0, .int 0, .int 0, .int ve, .int 0, .int 0])), (oS, .inr (6, [.int 224, .int (-1)])), (oB, .inr (0, [.ref am, .ref oM, .ref oS, .ref oK, .ref oL, .ref oD])), (oM, .inr (3, [.ref ad, .ref ab, .int 0])), (am, .inl (tm, 512, .inl f)), (ar, .inl (tr, 8, .inl g))])) (va_Qv (fun (u : (Nat → Int32) × (Nat → Int32)) => (u.1 (2 : Int32).toNatClampNeg = 1) ∧ (u.1 (3 : Int32).toNatClampNeg = 224) ∧ (u.2 (7 : Int32).toNatClampNeg = 1) ∧ ((u.2 (6 : Int32).toNatClampNeg).toInt = z - 4)) (fun (u : (Nat → Int32) × (Nat → Int32)) (t : State) => va_P (dC, dI) vwCl [(h0, .inr (5, [.ref ar, .ref oB, .ref oS, .int 0, .int 0, .int 0, .int ve, .int 0, .int 0])), (oS, .inr (6, [.int 224, .int (-1)])), (oB, .inr (0, [.ref am, .ref oM, .ref oS, .ref oK, .ref oL, .ref oD])), (oM, .inr (3, [.ref ad, .ref ab, .int 0])), (am, .inl (tm, 512, .inl u.1)), (ar, .inl (tr, 8, .inl u.2))] t.heap ∧ va_K (dC, dI) vwCl [(tm, .int), (tr, .int)] t ∧ va_D (va_A [(h0, .inr (5, [.ref ar, .ref oB, .ref oS, .int 0, .int 0, .int 0, .int ve, .int 0, .int 0])), (oS, .inr (6, [.int 224, .int (-1)])), (oB, .inr (0, [.ref am, .ref oM, .ref oS, .ref oK, .ref oL, .ref oD])), (oM, .inr (3, [.ref ad, .ref ab, .int 0])), (am, .inl (tm, 512, .inl f)), (ar, .inl (tr, 8, .inl g))] sz) [(h0, .inr (5, [.ref ar, .ref oB, .ref oS, .int 0, .int 0, .int 0, .int ve, .int 0, .int 0])), (oS, .inr (6, [.int 224, .int (-1)])), (oB, .inr (0, [.ref am, .ref oM, .ref oS, .ref oK, .ref oL, .ref oD])), (oM, .inr (3, [.ref ad, .ref ab, .int 0])), (am, .inl (tm, 512, .inl u.1)), (ar, .inl (tr, 8, .inl u.2))]) (va_A [(h0, .inr (5, [.ref ar, .ref oB, .ref oS, .int 0, .int 0, .int 0, .int ve, .int 0, .int 0])), (oS, .inr (6, [.int 224, .int (-1)])), (oB, .inr (0, [.ref am, .ref oM, .ref oS, .ref oK, .ref oL, .ref oD])), (oM, .inr (3, [.ref ad, .ref ab, .int 0])), (am, .inl (tm, 512, .inl f)), (ar, .inl (tr, 8, .inl g))] sz)) 0 0 (va_A [(h0, .inr (5, [.ref ar, .ref oB, .ref oS, .int 0, .int 0, .int 0, .int ve, .int 0, .int 0])), (oS, .inr (6, [.int 224, .int (-1)])), (oB, .inr (0, [.ref am, .ref oM, .ref oS, .ref oK, .ref oL, .ref oD])), (oM, .inr (3, [.ref ad, .ref ab, .int 0])), (am, .inl (tm, 512, .inl f)), (ar, .inl (tr, 8, .inl g))] sz) := by
  refine Met.ofW (cc := cX6_trap) (maxL := 6) (ret := none) (by decide) rfl ?_
  intro p e s m args below meth c s₁ B hml hv
  obtain ⟨rfl, hsz, hP, hK, hD0⟩ := hv
  have hx := B.exec
  have hb := B.bytes
  have hr := B.returns
  have hts := atoms_spec (ws := wsX6_trap) B.pre
  have hown : s.vm.findClass RX6 = some m.cls := findClass_of_methodNamed B.named
  have hlocks := B.notSynchronized
  have hD := hD0.self (sz := sz)
  generalize hAe : va_A [(h0, .inr (5, [.ref ar, .ref oB, .ref oS, .int 0, .int 0, .int 0, .int ve, .int 0, .int 0])), (oS, .inr (6, [.int 224, .int (-1)])), (oB, .inr (0, [.ref am, .ref oM, .ref oS, .ref oK, .ref oL, .ref oD])), (oM, .inr (3, [.ref ad, .ref ab, .int 0])), (am, .inl (tm, 512, .inl f)), (ar, .inl (tr, 8, .inl g))] sz = A at hD ⊢
  have hA : ∀ q : Nat, s.heap.size ≤ q → A q := fun q h => by rw [← hAe]; exact Or.inr (by omega)
  have hS0 : ∀ G : Heap, s.heap = G → va_S A s.heap G [] := fun G h => by subst h; exact va_S.rf
  generalize hHe : s.heap = H at hP ⊢
  have hS := hS0 H hHe
  have hP : va_P (dC, dI) vwCl [(h0, .inr (5, [.ref ar, .ref oB, .ref oS, .int 0, .int 0, .int 0, .int ve, .int 0, .int 0])), (oS, .inr (6, [.int 224, .int (-1)])), (oB, .inr (0, [.ref am, .ref oM, .ref oS, .ref oK, .ref oL, .ref oD])), (oM, .inr (3, [.ref ad, .ref ab, .int 0])), (am, .inl (tm, 512, .inl f)), (ar, .inl (tr, 8, .inl g))] H := hP
  have hD : va_D A [(h0, .inr (5, [.ref ar, .ref oB, .ref oS, .int 0, .int 0, .int 0, .int ve, .int 0, .int 0])), (oS, .inr (6, [.int 224, .int (-1)])), (oB, .inr (0, [.ref am, .ref oM, .ref oS, .ref oK, .ref oL, .ref oD])), (oM, .inr (3, [.ref ad, .ref ab, .int 0])), (am, .inl (tm, 512, .inl f)), (ar, .inl (tr, 8, .inl g))] := hD
  have hK : va_K (dC, dI) vwCl [(tm, .int), (tr, .int)] s := hK
  have hl := lv_entry ([.ref h0, .int 4]) (n := 6) (Nat.le_of_ble_eq_true rfl)
  rw [lg_entry_eq]
  generalize (lg_sl ([.ref h0, .int 4]) ++ List.replicate (6 - (lg_sl ([.ref h0, .int 4])).length) Slot.unset).toArray = ls at hl ⊢
  have hl : lv_has ls 6 [(0, .ref h0), (1, .int 4)] := hl
  refine lv_aload_n hx hb dX6_trap_0 rfl (lv_at hl 0 rfl) ?_
  refine va_get (D := (dC, dI)) (ci := 5) (v := .ref oS) (C := RX6) (T := TX6) (N := 9) hx hb hts (by decide +kernel) hown hK hP 0 rfl rfl 2 (by decide) (hts (.fieldLink RX6 43 "UnibusMachine$Processor" "status" "LUnibusMachine$Status;") (by decide +kernel)) (fun _ h9 => h9) rfl dX6_trap_1 ?_
  refine va_get (D := (dC, dI)) (ci := 6) (v := .int 224) (C := RX7) (T := TX7) (N := 2) hx hb hts (by decide +kernel) hown hK hP 1 rfl rfl 0 (by decide) (hts (.fieldLink RX6 44 "UnibusMachine$Status" "now" "I") (by decide +kernel)) (fun _ h9 => h9) rfl dX6_trap_4 ?_
  refine lv_istore_n (lv' := [(2, .int 224), (0, .ref h0), (1, .int 4)]) hx hb dX6_trap_7 rfl hl (by decide) rfl (fun ls hl => ?_)
  refine lv_aload_n hx hb dX6_trap_8 rfl (lv_at hl 1 rfl) ?_
  refine va_get (D := (dC, dI)) (ci := 5) (v := .ref ar) (C := RX6) (T := TX6) (N := 9) hx hb hts (by decide +kernel) hown hK hP 0 rfl rfl 0 (by decide) (hts (.fieldLink RX6 7 "UnibusMachine$Processor" "registers" "[I") (by decide +kernel)) (fun _ h9 => h9) rfl dX6_trap_9 ?_
  refine lv_bipush (v := 7) hx hb dX6_trap_12 (by decide) ?_
  refine va_iald (D := (dC, dI)) hx hb hK hP 5 1 rfl rfl (vp_in_iff.mpr (by decide)) dX6_trap_14 ?_
  refine lv_topi (fun y1 ey1 => ?_)
  obtain rfl : y1 = 1 := by rw [ey1]; assumption
  refine lv_istore_n (lv' := [(3, .int 1), (2, .int 224), (0, .ref h0), (1, .int 4)]) hx hb dX6_trap_15 rfl hl (by decide) rfl (fun ls hl => ?_)
  refine lv_aload_n hx hb dX6_trap_16 rfl (lv_at hl 2 rfl) ?_
  refine lv_iconst (v := 0) hx hb dX6_trap_17 (by decide) ?_
  refine lv_iload_n hx hb dX6_trap_18 rfl (lv_at hl 3 rfl) ?_
  have hPc := hP.sub (ws' := [(h0, .inr (5, [.ref ar, .ref oB, .ref oS, .int 0, .int 0, .int 0, .int ve, .int 0, .int 0])), (oB, .inr (0, [.ref am, .ref oM, .ref oS, .ref oK, .ref oL, .ref oD])), (oM, .inr (3, [.ref ad, .ref ab, .int 0])), (am, .inl (tm, 512, .inl f))]) [0, 2, 3, 4] rfl
  have hDc := hD.sub (ws' := [(h0, .inr (5, [.ref ar, .ref oB, .ref oS, .int 0, .int 0, .int 0, .int ve, .int 0, .int 0])), (oB, .inr (0, [.ref am, .ref oM, .ref oS, .ref oK, .ref oL, .ref oD])), (oM, .inr (3, [.ref ad, .ref ab, .int 0])), (am, .inl (tm, 512, .inl f))]) [0, 2, 3, 4] (by decide) rfl
  have hKc := hK.sub (tys' := [(tm, .int)]) [0] rfl
  have hFc := va_free (wc := [(h0, .inr (5, [.ref ar, .ref oB, .ref oS, .int 0, .int 0, .int 0, .int ve, .int 0, .int 0])), (oB, .inr (0, [.ref am, .ref oM, .ref oS, .ref oK, .ref oL, .ref oD])), (oM, .inr (3, [.ref ad, .ref ab, .int 0])), (am, .inl (tm, 512, .inl f))]) hD hS hA [0, 2, 3, 4] rfl
  refine va_calli (va_runV (As := [.int 0, .int 4]) (rest := []) ⟨hx, hb, hml, hown, hts⟩ (c_readWord4 l dC dI h0 ar oB oS ve am oM oK oL oD ad ab tm f H.size (by first | assumption | omega)) (cwV 2 hts gX6_trap_X6_readWord rfl rfl rfl (by decide +kernel) ⟨Nat.le_of_ble_eq_true rfl, Nat.le_of_ble_eq_true rfl⟩) ⟨fun a U g mk q => by obtain ⟨q0, q1, qP, qK, qD⟩ := q; exact ⟨q0, q1, qP, va_K.moved (u := U) (U := U.calling g mk a) (Vm.Alike.refl U.vm) qK, qD⟩, va_recv hKc hPc (ci := 5) (q0 := 0) rfl rfl, fun U hU hW => ⟨rfl, by rw [hU], by rw [hU]; exact hPc, va_K.moved hW.alike hKc, hDc.weaken (fun _ _ _ _ => trivial)⟩⟩ rfl rfl hl.1 rfl (lv_room (Nat.le_of_ble_eq_true rfl)) dX6_trap_19 ⟨Nat.le_of_ble_eq_true rfl, Nat.le_of_ble_eq_true rfl⟩) hS (fun q _ h => hFc q h) hFc (fun r2 u3 t H1 locs ht hvm hw hB hz1 hk1 hS => ?_)
  obtain ⟨hP1, hK1, hD1⟩ := hB
  rw [ht] at hP1
  have hK1 := va_K.moved hvm.symm hK1
  try dsimp only at hw
  obtain ⟨hP, hD⟩ := va_join (wr := [(oS, .inr (6, [.int 224, .int (-1)])), (ar, .inl (tr, 8, .inl g))]) (w1 := [(h0, .inr (5, [.ref ar, .ref oB, .ref oS, .int 0, .int 0, .int 0, .int ve, .int 0, .int 0])), (oB, .inr (0, [.ref am, .ref oM, .ref oS, .ref oK, .ref oL, .ref oD])), (oM, .inr (3, [.ref ad, .ref ab, .int 0])), (am, .inl (tm, 512, .inl f))]) hP hD [0, 2, 3, 4] [1, 5] rfl rfl (by decide) (by decide) hk1 hFc hP1 hD1
  have hK := (hK.sub (tys' := [(tr, .int)]) [1] rfl).app hK1
  generalize H1 = H at hP hS ⊢
  have hP : va_P (dC, dI) vwCl [(oS, .inr (6, [.int 224, .int (-1)])), (ar, .inl (tr, 8, .inl g)), (h0, .inr (5, [.ref ar, .ref oB, .ref oS, .int 0, .int 0, .int 0, .int ve, .int 0, .int 0])), (oB, .inr (0, [.ref am, .ref oM, .ref oS, .ref oK, .ref oL, .ref oD])), (oM, .inr (3, [.ref ad, .ref ab, .int 0])), (am, .inl (tm, 512, .inl f))] H := hP
  have hD : va_D A [(oS, .inr (6, [.int 224, .int (-1)])), (ar, .inl (tr, 8, .inl g)), (h0, .inr (5, [.ref ar, .ref oB, .ref oS, .int 0, .int 0, .int 0, .int ve, .int 0, .int 0])), (oB, .inr (0, [.ref am, .ref oM, .ref oS, .ref oK, .ref oL, .ref oD])), (oM, .inr (3, [.ref ad, .ref ab, .int 0])), (am, .inl (tm, 512, .inl f))] := hD
  have hK : va_K (dC, dI) vwCl [(tr, .int), (tm, .int)] s := hK
  refine W.widen (k := 0) (n := 0) (Nat.le_of_ble_eq_true rfl) (Nat.le_of_ble_eq_true rfl) ?_
  obtain rfl := hw
  refine lv_istore (lv' := [(4, .int 1), (3, .int 1), (2, .int 224), (0, .ref h0), (1, .int 4)]) hx hb dX6_trap_22 hl (by decide) rfl (fun ls hl => ?_)
  refine lv_aload_n hx hb dX6_trap_24 rfl (lv_at hl 3 rfl) ?_
  refine lv_iconst (v := 0) hx hb dX6_trap_25 (by decide) ?_
  refine lv_iload_n hx hb dX6_trap_26 rfl (lv_at hl 4 rfl) ?_
  refine lv_iconst (v := 2) hx hb dX6_trap_27 (by decide) ?_
  refine lv_iadd hx hb dX6_trap_28 ?_
  refine lv_topi (fun y4 ey4 => ?_)
  obtain rfl : y4 = 6 := by rw [ey4]; decide
  have hPc := hP.sub (ws' := [(h0, .inr (5, [.ref ar, .ref oB, .ref oS, .int 0, .int 0, .int 0, .int ve, .int 0, .int 0])), (oB, .inr (0, [.ref am, .ref oM, .ref oS, .ref oK, .ref oL, .ref oD])), (oM, .inr (3, [.ref ad, .ref ab, .int 0])), (am, .inl (tm, 512, .inl f))]) [2, 3, 4, 5] rfl
  have hDc := hD.sub (ws' := [(h0, .inr (5, [.ref ar, .ref oB, .ref oS, .int 0, .int 0, .int 0, .int ve, .int 0, .int 0])), (oB, .inr (0, [.ref am, .ref oM, .ref oS, .ref oK, .ref oL, .ref oD])), (oM, .inr (3, [.ref ad, .ref ab, .int 0])), (am, .inl (tm, 512, .inl f))]) [2, 3, 4, 5] (by decide) rfl
  have hKc := hK.sub (tys' := [(tm, .int)]) [1] rfl
  have hFc := va_free (wc := [(h0, .inr (5, [.ref ar, .ref oB, .ref oS, .int 0, .int 0, .int 0, .int ve, .int 0, .int 0])), (oB, .inr (0, [.ref am, .ref oM, .ref oS, .ref oK, .ref oL, .ref oD])), (oM, .inr (3, [.ref ad, .ref ab, .int 0])), (am, .inl (tm, 512, .inl f))]) hD hS hA [2, 3, 4, 5] rfl
  refine va_calli (va_runV (As := [.int 0, .int 6]) (rest := []) ⟨hx, hb, hml, hown, hts⟩ (c_readWord6 l dC dI h0 ar oB oS ve am oM oK oL oD ad ab tm f H.size (by first | assumption | omega)) (cwV 2 hts gX6_trap_X6_readWord rfl rfl rfl (by decide +kernel) ⟨Nat.le_of_ble_eq_true rfl, Nat.le_of_ble_eq_true rfl⟩) ⟨fun a U g mk q => by obtain ⟨q0, q1, qP, qK, qD⟩ := q; exact ⟨q0, q1, qP, va_K.moved (u := U) (U := U.calling g mk a) (Vm.Alike.refl U.vm) qK, qD⟩, va_recv hKc hPc (ci := 5) (q0 := 0) rfl rfl, fun U hU hW => ⟨rfl, by rw [hU], by rw [hU]; exact hPc, va_K.moved hW.alike hKc, hDc.weaken (fun _ _ _ _ => trivial)⟩⟩ rfl rfl hl.1 rfl (lv_room (Nat.le_of_ble_eq_true rfl)) dX6_trap_29 ⟨Nat.le_of_ble_eq_true rfl, Nat.le_of_ble_eq_true rfl⟩) hS (fun q _ h => hFc q h) hFc (fun r5 u6 t H1 locs ht hvm hw hB hz1 hk1 hS => ?_)
  obtain ⟨hP1, hK1, hD1⟩ := hB
  rw [ht] at hP1
  have hK1 := va_K.moved hvm.symm hK1
  try dsimp only at hw
  obtain ⟨hP, hD⟩ := va_join (wr := [(oS, .inr (6, [.int 224, .int (-1)])), (ar, .inl (tr, 8, .inl g))]) (w1 := [(h0, .inr (5, [.ref ar, .ref oB, .ref oS, .int 0, .int 0, .int 0, .int ve, .int 0, .int 0])), (oB, .inr (0, [.ref am, .ref oM, .ref oS, .ref oK, .ref oL, .ref oD])), (oM, .inr (3, [.ref ad, .ref ab, .int 0])), (am, .inl (tm, 512, .inl f))]) hP hD [2, 3, 4, 5] [0, 1] rfl rfl (by decide) (by decide) hk1 hFc hP1 hD1
  have hK := (hK.sub (tys' := [(tr, .int)]) [0] rfl).app hK1
  generalize H1 = H at hP hS ⊢
  have hP : va_P (dC, dI) vwCl [(oS, .inr (6, [.int 224, .int (-1)])), (ar, .inl (tr, 8, .inl g)), (h0, .inr (5, [.ref ar, .ref oB, .ref oS, .int 0, .int 0, .int 0, .int ve, .int 0, .int 0])), (oB, .inr (0, [.ref am, .ref oM, .ref oS, .ref oK, .ref oL, .ref oD])), (oM, .inr (3, [.ref ad, .ref ab, .int 0])), (am, .inl (tm, 512, .inl f))] H := hP
  have hD : va_D A [(oS, .inr (6, [.int 224, .int (-1)])), (ar, .inl (tr, 8, .inl g)), (h0, .inr (5, [.ref ar, .ref oB, .ref oS, .int 0, .int 0, .int 0, .int ve, .int 0, .int 0])), (oB, .inr (0, [.ref am, .ref oM, .ref oS, .ref oK, .ref oL, .ref oD])), (oM, .inr (3, [.ref ad, .ref ab, .int 0])), (am, .inl (tm, 512, .inl f))] := hD
  have hK : va_K (dC, dI) vwCl [(tr, .int), (tm, .int)] s := hK
  refine W.widen (k := 0) (n := 0) (Nat.le_of_ble_eq_true rfl) (Nat.le_of_ble_eq_true rfl) ?_
  obtain rfl := hw
  refine lv_istore (lv' := [(5, .int 224), (4, .int 1), (3, .int 1), (2, .int 224), (0, .ref h0), (1, .int 4)]) hx hb dX6_trap_32 hl (by decide) rfl (fun ls hl => ?_)
  refine lv_aload_n hx hb dX6_trap_34 rfl (lv_at hl 4 rfl) ?_
  refine lv_iload hx hb dX6_trap_35 (lv_at hl 0 rfl) ?_
  refine lv_sipush (v := 20719) hx hb dX6_trap_37 (by decide) ?_
  refine lv_iand hx hb dX6_trap_40 ?_
  refine lv_topi (fun y7 ey7 => ?_)
  obtain rfl : y7 = 224 := by rw [ey7]; decide
  refine lv_sipush (v := (-4097)) hx hb dX6_trap_41 (by decide) ?_
  refine lv_iand hx hb dX6_trap_44 ?_
  refine lv_topi (fun y8 ey8 => ?_)
  obtain rfl : y8 = 224 := by rw [ey8]; decide
  refine lv_aload_n hx hb dX6_trap_45 rfl (lv_at hl 4 rfl) ?_
  have hPc := hP.sub (ws' := [(h0, .inr (5, [.ref ar, .ref oB, .ref oS, .int 0, .int 0, .int 0, .int ve, .int 0, .int 0])), (oS, .inr (6, [.int 224, .int (-1)]))]) [2, 0] rfl
  have hDc := hD.sub (ws' := [(h0, .inr (5, [.ref ar, .ref oB, .ref oS, .int 0, .int 0, .int 0, .int ve, .int 0, .int 0])), (oS, .inr (6, [.int 224, .int (-1)]))]) [2, 0] (by decide) rfl
  have hKc := hK.sub (tys' := []) [] rfl
  have hFc := va_free (wc := [(h0, .inr (5, [.ref ar, .ref oB, .ref oS, .int 0, .int 0, .int 0, .int ve, .int 0, .int 0])), (oS, .inr (6, [.int 224, .int (-1)]))]) hD hS hA [2, 0] rfl
  refine va_calli (va_runV (As := []) (rest := [.int 224, .ref h0]) ⟨hx, hb, hml, hown, hts⟩ (c_mode l dC dI h0 ar oB oS ve H.size) (cwV 0 hts gX6_trap_X6_mode rfl rfl rfl (by decide +kernel) ⟨Nat.le_of_ble_eq_true rfl, Nat.le_of_ble_eq_true rfl⟩) ⟨fun a U g mk q => by obtain ⟨q0, q1, qP, qK, qD⟩ := q; exact ⟨q0, q1, qP, va_K.moved (u := U) (U := U.calling g mk a) (Vm.Alike.refl U.vm) qK, qD⟩, va_recv hKc hPc (ci := 5) (q0 := 0) rfl rfl, fun U hU hW => ⟨rfl, by rw [hU], by rw [hU]; exact hPc, va_K.moved hW.alike hKc, hDc.weaken (fun _ _ _ _ => trivial)⟩⟩ rfl rfl hl.1 rfl (lv_room (Nat.le_of_ble_eq_true rfl)) dX6_trap_46 ⟨Nat.le_of_ble_eq_true rfl, Nat.le_of_ble_eq_true rfl⟩) hS (fun q _ h => hFc q h) hFc (fun r9 u10 t H1 locs ht hvm hw hB hz1 hk1 hS => ?_)
  obtain ⟨hP1, hK1, hD1⟩ := hB
  rw [ht] at hP1
  have hK1 := va_K.moved hvm.symm hK1
  try dsimp only at hw
  obtain ⟨hP, hD⟩ := va_join (wr := [(ar, .inl (tr, 8, .inl g)), (oB, .inr (0, [.ref am, .ref oM, .ref oS, .ref oK, .ref oL, .ref oD])), (oM, .inr (3, [.ref ad, .ref ab, .int 0])), (am, .inl (tm, 512, .inl f))]) (w1 := [(h0, .inr (5, [.ref ar, .ref oB, .ref oS, .int 0, .int 0, .int 0, .int ve, .int 0, .int 0])), (oS, .inr (6, [.int 224, .int (-1)]))]) hP hD [2, 0] [1, 3, 4, 5] rfl rfl (by decide) (by decide) hk1 hFc hP1 hD1
  have hK := (hK.sub (tys' := [(tr, .int), (tm, .int)]) [0, 1] rfl).app hK1
  generalize H1 = H at hP hS ⊢
  have hP : va_P (dC, dI) vwCl [(ar, .inl (tr, 8, .inl g)), (oB, .inr (0, [.ref am, .ref oM, .ref oS, .ref oK, .ref oL, .ref oD])), (oM, .inr (3, [.ref ad, .ref ab, .int 0])), (am, .inl (tm, 512, .inl f)), (h0, .inr (5, [.ref ar, .ref oB, .ref oS, .int 0, .int 0, .int 0, .int ve, .int 0, .int 0])), (oS, .inr (6, [.int 224, .int (-1)]))] H := hP
  have hD : va_D A [(ar, .inl (tr, 8, .inl g)), (oB, .inr (0, [.ref am, .ref oM, .ref oS, .ref oK, .ref oL, .ref oD])), (oM, .inr (3, [.ref ad, .ref ab, .int 0])), (am, .inl (tm, 512, .inl f)), (h0, .inr (5, [.ref ar, .ref oB, .ref oS, .int 0, .int 0, .int 0, .int ve, .int 0, .int 0])), (oS, .inr (6, [.int 224, .int (-1)]))] := hD
  have hK : va_K (dC, dI) vwCl [(tr, .int), (tm, .int)] s := hK
  refine W.widen (k := 0) (n := 0) (Nat.le_of_ble_eq_true rfl) (Nat.le_of_ble_eq_true rfl) ?_
  obtain rfl := hw
  refine lv_bipush (v := 12) hx hb dX6_trap_49 (by decide) ?_
  refine lv_ishl hx hb dX6_trap_51 ?_
  refine lv_topi (fun y11 ey11 => ?_)
  obtain rfl : y11 = 0 := by rw [ey11]; decide
  refine lv_ior hx hb dX6_trap_52 ?_
  refine lv_topi (fun y12 ey12 => ?_)
  obtain rfl : y12 = 224 := by rw [ey12]; decide
  have hPc := hP.sub (ws' := [(h0, .inr (5, [.ref ar, .ref oB, .ref oS, .int 0, .int 0, .int 0, .int ve, .int 0, .int 0])), (oS, .inr (6, [.int 224, .int (-1)]))]) [4, 5] rfl
  have hDc := hD.sub (ws' := [(h0, .inr (5, [.ref ar, .ref oB, .ref oS, .int 0, .int 0, .int 0, .int ve, .int 0, .int 0])), (oS, .inr (6, [.int 224, .int (-1)]))]) [4, 5] (by decide) rfl
  have hKc := hK.sub (tys' := []) [] rfl
  have hFc := va_free (wc := [(h0, .inr (5, [.ref ar, .ref oB, .ref oS, .int 0, .int 0, .int 0, .int ve, .int 0, .int 0])), (oS, .inr (6, [.int 224, .int (-1)]))]) hD hS hA [4, 5] rfl
  refine va_callv (va_runV (As := [.int 224]) (rest := []) ⟨hx, hb, hml, hown, hts⟩ (c_takeStatus l dC dI h0 ar oB oS ve H.size) (cwV 1 hts gX6_trap_X6_takeStatus rfl rfl rfl (by decide +kernel) ⟨Nat.le_of_ble_eq_true rfl, Nat.le_of_ble_eq_true rfl⟩) ⟨fun a U g mk q => by obtain ⟨q0, q1, qP, qK, qD⟩ := q; exact ⟨q0, q1, qP, va_K.moved (u := U) (U := U.calling g mk a) (Vm.Alike.refl U.vm) qK, qD⟩, va_recv hKc hPc (ci := 5) (q0 := 0) rfl rfl, fun U hU hW => ⟨rfl, by rw [hU], by rw [hU]; exact hPc, va_K.moved hW.alike hKc, hDc.weaken (fun _ _ _ _ => trivial)⟩⟩ rfl rfl hl.1 rfl (lv_room (Nat.le_of_ble_eq_true rfl)) dX6_trap_53 ⟨Nat.le_of_ble_eq_true rfl, Nat.le_of_ble_eq_true rfl⟩) hS (fun q _ h => hFc q h) hFc (fun u14 t H1 locs ht hvm hw hB hz1 hk1 hS => ?_)
  obtain ⟨hP1, hK1, hD1⟩ := hB
  rw [ht] at hP1
  have hK1 := va_K.moved hvm.symm hK1
  try dsimp only at hw
  obtain ⟨hP, hD⟩ := va_join (wr := [(ar, .inl (tr, 8, .inl g)), (oB, .inr (0, [.ref am, .ref oM, .ref oS, .ref oK, .ref oL, .ref oD])), (oM, .inr (3, [.ref ad, .ref ab, .int 0])), (am, .inl (tm, 512, .inl f))]) (w1 := [(h0, .inr (5, [.ref ar, .ref oB, .ref oS, .int 0, .int 0, .int 0, .int ve, .int 0, .int 0])), (oS, .inr (6, [.int 224, .int (-1)]))]) hP hD [4, 5] [0, 1, 2, 3] rfl rfl (by decide) (by decide) hk1 hFc hP1 hD1
  have hK := (hK.sub (tys' := [(tr, .int), (tm, .int)]) [0, 1] rfl).app hK1
  generalize H1 = H at hP hS ⊢
  have hP : va_P (dC, dI) vwCl [(ar, .inl (tr, 8, .inl g)), (oB, .inr (0, [.ref am, .ref oM, .ref oS, .ref oK, .ref oL, .ref oD])), (oM, .inr (3, [.ref ad, .ref ab, .int 0])), (am, .inl (tm, 512, .inl f)), (h0, .inr (5, [.ref ar, .ref oB, .ref oS, .int 0, .int 0, .int 0, .int ve, .int 0, .int 0])), (oS, .inr (6, [.int 224, .int (-1)]))] H := hP
  have hD : va_D A [(ar, .inl (tr, 8, .inl g)), (oB, .inr (0, [.ref am, .ref oM, .ref oS, .ref oK, .ref oL, .ref oD])), (oM, .inr (3, [.ref ad, .ref ab, .int 0])), (am, .inl (tm, 512, .inl f)), (h0, .inr (5, [.ref ar, .ref oB, .ref oS, .int 0, .int 0, .int 0, .int ve, .int 0, .int 0])), (oS, .inr (6, [.int 224, .int (-1)]))] := hD
  have hK : va_K (dC, dI) vwCl [(tr, .int), (tm, .int)] s := hK
  refine W.widen (k := 0) (n := 0) (Nat.le_of_ble_eq_true rfl) (Nat.le_of_ble_eq_true rfl) ?_
  refine lv_aload_n hx hb dX6_trap_56 rfl (lv_at hl 4 rfl) ?_
  refine lv_iload_n hx hb dX6_trap_57 rfl (lv_at hl 3 rfl) ?_
  have hPc := hP.sub (ws' := [(h0, .inr (5, [.ref ar, .ref oB, .ref oS, .int 0, .int 0, .int 0, .int ve, .int 0, .int 0])), (oS, .inr (6, [.int 224, .int (-1)])), (oB, .inr (0, [.ref am, .ref oM, .ref oS, .ref oK, .ref oL, .ref oD])), (oM, .inr (3, [.ref ad, .ref ab, .int 0])), (am, .inl (tm, 512, .inl f)), (ar, .inl (tr, 8, .inl g))]) [4, 5, 1, 2, 3, 0] rfl
  have hDc := hD.sub (ws' := [(h0, .inr (5, [.ref ar, .ref oB, .ref oS, .int 0, .int 0, .int 0, .int ve, .int 0, .int 0])), (oS, .inr (6, [.int 224, .int (-1)])), (oB, .inr (0, [.ref am, .ref oM, .ref oS, .ref oK, .ref oL, .ref oD])), (oM, .inr (3, [.ref ad, .ref ab, .int 0])), (am, .inl (tm, 512, .inl f)), (ar, .inl (tr, 8, .inl g))]) [4, 5, 1, 2, 3, 0] (by decide) rfl
  have hKc := hK.sub (tys' := [(tm, .int), (tr, .int)]) [1, 0] rfl
  have hFc := va_free (wc := [(h0, .inr (5, [.ref ar, .ref oB, .ref oS, .int 0, .int 0, .int 0, .int ve, .int 0, .int 0])), (oS, .inr (6, [.int 224, .int (-1)])), (oB, .inr (0, [.ref am, .ref oM, .ref oS, .ref oK, .ref oL, .ref oD])), (oM, .inr (3, [.ref ad, .ref ab, .int 0])), (am, .inl (tm, 512, .inl f)), (ar, .inl (tr, 8, .inl g))]) hD hS hA [4, 5, 1, 2, 3, 0] rfl
  refine va_callv (va_runV (As := [.int 224]) (rest := []) ⟨hx, hb, hml, hown, hts⟩ (c_push l dC dI h0 ar oB oS ve am oM oK oL oD ad ab tm f tr g z 224 H.size (by first | assumption | omega) (by first | assumption | omega) (by first | assumption | omega) (by first | assumption | omega) (by first | assumption | omega) (by first | assumption | omega) (by first | assumption | omega)) (cwV 1 hts gX6_trap_X6_push rfl rfl rfl (by decide +kernel) ⟨Nat.le_of_ble_eq_true rfl, Nat.le_of_ble_eq_true rfl⟩) ⟨fun a U g mk q => by obtain ⟨q0, q1, qP, qK, qD⟩ := q; exact ⟨q0, q1, qP, va_K.moved (u := U) (U := U.calling g mk a) (Vm.Alike.refl U.vm) qK, qD⟩, va_recv hKc hPc (ci := 5) (q0 := 0) rfl rfl, fun U hU hW => ⟨rfl, by rw [hU], by rw [hU]; exact hPc, va_K.moved hW.alike hKc, hDc.weaken (fun _ _ _ _ => trivial)⟩⟩ rfl rfl hl.1 rfl (lv_room (Nat.le_of_ble_eq_true rfl)) dX6_trap_58 ⟨Nat.le_of_ble_eq_true rfl, Nat.le_of_ble_eq_true rfl⟩) hS (fun q _ h => hFc q h) hFc (fun u16 t H1 locs ht hvm hw hB hz1 hk1 hS => ?_)
  obtain ⟨hP1, hK1, hD1⟩ := hB
  rw [ht] at hP1
  have hK1 := va_K.moved hvm.symm hK1
  try dsimp only at hw
  obtain ⟨hP, hD⟩ := va_join (wr := []) (w1 := [(h0, .inr (5, [.ref ar, .ref oB, .ref oS, .int 0, .int 0, .int 0, .int ve, .int 0, .int 0])), (oS, .inr (6, [.int 224, .int (-1)])), (oB, .inr (0, [.ref am, .ref oM, .ref oS, .ref oK, .ref oL, .ref oD])), (oM, .inr (3, [.ref ad, .ref ab, .int 0])), (am, .inl (tm, 512, .inl u16.1)), (ar, .inl (tr, 8, .inl u16.2))]) hP hD [4, 5, 1, 2, 3, 0] [] rfl rfl (by decide) (by decide) hk1 hFc hP1 hD1
  have hK := (hK.sub (tys' := []) [] rfl).app hK1
  generalize H1 = H at hP hS ⊢
  have hP : va_P (dC, dI) vwCl [(h0, .inr (5, [.ref ar, .ref oB, .ref oS, .int 0, .int 0, .int 0, .int ve, .int 0, .int 0])), (oS, .inr (6, [.int 224, .int (-1)])), (oB, .inr (0, [.ref am, .ref oM, .ref oS, .ref oK, .ref oL, .ref oD])), (oM, .inr (3, [.ref ad, .ref ab, .int 0])), (am, .inl (tm, 512, .inl u16.1)), (ar, .inl (tr, 8, .inl u16.2))] H := hP
  have hD : va_D A [(h0, .inr (5, [.ref ar, .ref oB, .ref oS, .int 0, .int 0, .int 0, .int ve, .int 0, .int 0])), (oS, .inr (6, [.int 224, .int (-1)])), (oB, .inr (0, [.ref am, .ref oM, .ref oS, .ref oK, .ref oL, .ref oD])), (oM, .inr (3, [.ref ad, .ref ab, .int 0])), (am, .inl (tm, 512, .inl u16.1)), (ar, .inl (tr, 8, .inl u16.2))] := hD
  have hK : va_K (dC, dI) vwCl [(tm, .int), (tr, .int)] s := hK
  refine W.widen (k := 0) (n := 0) (Nat.le_of_ble_eq_true rfl) (Nat.le_of_ble_eq_true rfl) ?_
  obtain ⟨_, _, _, _⟩ := hw
  refine lv_aload_n hx hb dX6_trap_61 rfl (lv_at hl 4 rfl) ?_
  refine lv_iload_n hx hb dX6_trap_62 rfl (lv_at hl 2 rfl) ?_
  have hPc := hP.sub (ws' := [(h0, .inr (5, [.ref ar, .ref oB, .ref oS, .int 0, .int 0, .int 0, .int ve, .int 0, .int 0])), (oS, .inr (6, [.int 224, .int (-1)])), (oB, .inr (0, [.ref am, .ref oM, .ref oS, .ref oK, .ref oL, .ref oD])), (oM, .inr (3, [.ref ad, .ref ab, .int 0])), (am, .inl (tm, 512, .inl u16.1)), (ar, .inl (tr, 8, .inl u16.2))]) [0, 1, 2, 3, 4, 5] rfl
  have hDc := hD.sub (ws' := [(h0, .inr (5, [.ref ar, .ref oB, .ref oS, .int 0, .int 0, .int 0, .int ve, .int 0, .int 0])), (oS, .inr (6, [.int 224, .int (-1)])), (oB, .inr (0, [.ref am, .ref oM, .ref oS, .ref oK, .ref oL, .ref oD])), (oM, .inr (3, [.ref ad, .ref ab, .int 0])), (am, .inl (tm, 512, .inl u16.1)), (ar, .inl (tr, 8, .inl u16.2))]) [0, 1, 2, 3, 4, 5] (by decide) rfl
  have hKc := hK.sub (tys' := [(tm, .int), (tr, .int)]) [0, 1] rfl
  have hFc := va_free (wc := [(h0, .inr (5, [.ref ar, .ref oB, .ref oS, .int 0, .int 0, .int 0, .int ve, .int 0, .int 0])), (oS, .inr (6, [.int 224, .int (-1)])), (oB, .inr (0, [.ref am, .ref oM, .ref oS, .ref oK, .ref oL, .ref oD])), (oM, .inr (3, [.ref ad, .ref ab, .int 0])), (am, .inl (tm, 512, .inl u16.1)), (ar, .inl (tr, 8, .inl u16.2))]) hD hS hA [0, 1, 2, 3, 4, 5] rfl
  refine va_callv (va_runV (As := [.int 1]) (rest := []) ⟨hx, hb, hml, hown, hts⟩ (c_push l dC dI h0 ar oB oS ve am oM oK oL oD ad ab tm u16.1 tr u16.2 (z - 2) 1 H.size (by first | assumption | omega) (by first | assumption | omega) (by first | assumption | omega) (by first | assumption | omega) (by first | assumption | omega) (by first | assumption | omega) (by first | assumption | omega)) (cwV 1 hts gX6_trap_X6_push rfl rfl rfl (by decide +kernel) ⟨Nat.le_of_ble_eq_true rfl, Nat.le_of_ble_eq_true rfl⟩) ⟨fun a U g mk q => by obtain ⟨q0, q1, qP, qK, qD⟩ := q; exact ⟨q0, q1, qP, va_K.moved (u := U) (U := U.calling g mk a) (Vm.Alike.refl U.vm) qK, qD⟩, va_recv hKc hPc (ci := 5) (q0 := 0) rfl rfl, fun U hU hW => ⟨rfl, by rw [hU], by rw [hU]; exact hPc, va_K.moved hW.alike hKc, hDc.weaken (fun _ _ _ _ => trivial)⟩⟩ rfl rfl hl.1 rfl (lv_room (Nat.le_of_ble_eq_true rfl)) dX6_trap_63 ⟨Nat.le_of_ble_eq_true rfl, Nat.le_of_ble_eq_true rfl⟩) hS (fun q _ h => hFc q h) hFc (fun u18 t H1 locs ht hvm hw hB hz1 hk1 hS => ?_)
  obtain ⟨hP1, hK1, hD1⟩ := hB
  rw [ht] at hP1
  have hK1 := va_K.moved hvm.symm hK1
  try dsimp only at hw
  obtain ⟨hP, hD⟩ := va_join (wr := []) (w1 := [(h0, .inr (5, [.ref ar, .ref oB, .ref oS, .int 0, .int 0, .int 0, .int ve, .int 0, .int 0])), (oS, .inr (6, [.int 224, .int (-1)])), (oB, .inr (0, [.ref am, .ref oM, .ref oS, .ref oK, .ref oL, .ref oD])), (oM, .inr (3, [.ref ad, .ref ab, .int 0])), (am, .inl (tm, 512, .inl u18.1)), (ar, .inl (tr, 8, .inl u18.2))]) hP hD [0, 1, 2, 3, 4, 5] [] rfl rfl (by decide) (by decide) hk1 hFc hP1 hD1
  have hK := (hK.sub (tys' := []) [] rfl).app hK1
  generalize H1 = H at hP hS ⊢
  have hP : va_P (dC, dI) vwCl [(h0, .inr (5, [.ref ar, .ref oB, .ref oS, .int 0, .int 0, .int 0, .int ve, .int 0, .int 0])), (oS, .inr (6, [.int 224, .int (-1)])), (oB, .inr (0, [.ref am, .ref oM, .ref oS, .ref oK, .ref oL, .ref oD])), (oM, .inr (3, [.ref ad, .ref ab, .int 0])), (am, .inl (tm, 512, .inl u18.1)), (ar, .inl (tr, 8, .inl u18.2))] H := hP
  have hD : va_D A [(h0, .inr (5, [.ref ar, .ref oB, .ref oS, .int 0, .int 0, .int 0, .int ve, .int 0, .int 0])), (oS, .inr (6, [.int 224, .int (-1)])), (oB, .inr (0, [.ref am, .ref oM, .ref oS, .ref oK, .ref oL, .ref oD])), (oM, .inr (3, [.ref ad, .ref ab, .int 0])), (am, .inl (tm, 512, .inl u18.1)), (ar, .inl (tr, 8, .inl u18.2))] := hD
  have hK : va_K (dC, dI) vwCl [(tm, .int), (tr, .int)] s := hK
  refine W.widen (k := 0) (n := 0) (Nat.le_of_ble_eq_true rfl) (Nat.le_of_ble_eq_true rfl) ?_
  obtain ⟨_, _, _, _⟩ := hw
  refine lv_aload_n hx hb dX6_trap_66 rfl (lv_at hl 4 rfl) ?_
  refine va_get (D := (dC, dI)) (ci := 5) (v := .ref ar) (C := RX6) (T := TX6) (N := 9) hx hb hts (by decide +kernel) hown hK hP 0 rfl rfl 0 (by decide) (hts (.fieldLink RX6 7 "UnibusMachine$Processor" "registers" "[I") (by decide +kernel)) (fun _ h9 => h9) rfl dX6_trap_67 ?_
  refine lv_bipush (v := 7) hx hb dX6_trap_70 (by decide) ?_
  refine lv_iload hx hb dX6_trap_72 (lv_at hl 1 rfl) ?_
  refine va_iast (D := (dC, dI)) hx hb hK hP hD hS 5 1 rfl rfl (vp_in_iff.mpr (by decide)) dX6_trap_74 (fun H locs hP hD hS => ?_)
  have hP : va_P (dC, dI) vwCl [(h0, .inr (5, [.ref ar, .ref oB, .ref oS, .int 0, .int 0, .int 0, .int ve, .int 0, .int 0])), (oS, .inr (6, [.int 224, .int (-1)])), (oB, .inr (0, [.ref am, .ref oM, .ref oS, .ref oK, .ref oL, .ref oD])), (oM, .inr (3, [.ref ad, .ref ab, .int 0])), (am, .inl (tm, 512, .inl u18.1)), (ar, .inl (tr, 8, .inl (upd u18.2 (7 : Int32).toNatClampNeg 1)))] H := hP
  have hD : va_D A [(h0, .inr (5, [.ref ar, .ref oB, .ref oS, .int 0, .int 0, .int 0, .int ve, .int 0, .int 0])), (oS, .inr (6, [.int 224, .int (-1)])), (oB, .inr (0, [.ref am, .ref oM, .ref oS, .ref oK, .ref oL, .ref oD])), (oM, .inr (3, [.ref ad, .ref ab, .int 0])), (am, .inl (tm, 512, .inl u18.1)), (ar, .inl (tr, 8, .inl (upd u18.2 (7 : Int32).toNatClampNeg 1)))] := hD
  obtain ⟨f19, hf19⟩ : ∃ z : Nat → Int32, z = upd u18.2 (7 : Int32).toNatClampNeg 1 := ⟨_, rfl⟩
  rw [← hf19] at hP hD
  have hf19_6 : (f19 (6 : Int32).toNatClampNeg).toInt = (z - 2) - 2 := by rw [hf19, pk_un (by decide)]; assumption
  have hf19_7 : f19 (7 : Int32).toNatClampNeg = 1 := by rw [hf19, pk_us]
  have hP : va_P (dC, dI) vwCl [(h0, .inr (5, [.ref ar, .ref oB, .ref oS, .int 0, .int 0, .int 0, .int ve, .int 0, .int 0])), (oS, .inr (6, [.int 224, .int (-1)])), (oB, .inr (0, [.ref am, .ref oM, .ref oS, .ref oK, .ref oL, .ref oD])), (oM, .inr (3, [.ref ad, .ref ab, .int 0])), (am, .inl (tm, 512, .inl u18.1)), (ar, .inl (tr, 8, .inl f19))] H := hP
  have hD : va_D A [(h0, .inr (5, [.ref ar, .ref oB, .ref oS, .int 0, .int 0, .int 0, .int ve, .int 0, .int 0])), (oS, .inr (6, [.int 224, .int (-1)])), (oB, .inr (0, [.ref am, .ref oM, .ref oS, .ref oK, .ref oL, .ref oD])), (oM, .inr (3, [.ref ad, .ref ab, .int 0])), (am, .inl (tm, 512, .inl u18.1)), (ar, .inl (tr, 8, .inl f19))] := hD
  have hx20 : u18.1 (2 : Int32).toNatClampNeg = 1 := by first | assumption | omega
  have hx21 : u18.1 (3 : Int32).toNatClampNeg = 224 := by first | assumption | omega
  have hx22 : f19 (7 : Int32).toNatClampNeg = 1 := by first | assumption | omega
  have hx23 : (f19 (6 : Int32).toNatClampNeg).toInt = z - 4 := by first | assumption | omega
  have hP9 := hP.sub (ws' := [(h0, .inr (5, [.ref ar, .ref oB, .ref oS, .int 0, .int 0, .int 0, .int ve, .int 0, .int 0])), (oS, .inr (6, [.int 224, .int (-1)])), (oB, .inr (0, [.ref am, .ref oM, .ref oS, .ref oK, .ref oL, .ref oD])), (oM, .inr (3, [.ref ad, .ref ab, .int 0])), (am, .inl (tm, 512, .inl u18.1)), (ar, .inl (tr, 8, .inl f19))]) [0, 1, 2, 3, 4, 5] rfl
  have hD9 := hD.sub (ws' := [(h0, .inr (5, [.ref ar, .ref oB, .ref oS, .int 0, .int 0, .int 0, .int ve, .int 0, .int 0])), (oS, .inr (6, [.int 224, .int (-1)])), (oB, .inr (0, [.ref am, .ref oM, .ref oS, .ref oK, .ref oL, .ref oD])), (oM, .inr (3, [.ref ad, .ref ab, .int 0])), (am, .inl (tm, 512, .inl u18.1)), (ar, .inl (tr, 8, .inl f19))]) [0, 1, 2, 3, 4, 5] (by decide) rfl
  have hK9 := hK.sub (tys' := [(tm, .int), (tr, .int)]) [0, 1] rfl
  exact W.vret hx hb hr (fun t ht hW => ⟨⟨(u18.1, f19), rfl, ⟨hx20, hx21, hx22, hx23⟩, by rw [ht]; exact hP9, va_K.moved hW.alike hK9, hD9⟩, hS.F ht⟩) hS.2.2 dX6_trap_75
set_option maxHeartbeats 4000000 in
set_option maxRecDepth 100000 in
theorem c_settle (l : Launch) (dC : Nat → ClassId) (dI : Nat → Nat → Nat) (h0 : Nat) (ar : Nat) (oB : Nat) (oS : Nat) (ve : Int32) (sz : Nat) : Met l yX6_settle wsX6_settle ({ frames := 1, cells := 0, slots := 0, locals := 22 } : Room) (va_Pc [.ref h0] (fun U => U.heap.size = sz ∧ va_P (dC, dI) vwCl [(h0, .inr (5, [.ref ar, .ref oB, .ref oS, .int 0, .int 0, .int 0, .int ve, .int 0, .int 0])), (oS, .inr (6, [.int 224, .int (-1)]))] U.heap ∧ va_K (dC, dI) vwCl [] U ∧ va_D (fun _ => True) [(h0, .inr (5, [.ref ar, .ref oB, .ref oS, .int 0, .int 0, .int 0, .int ve, .int 0, .int 0])), (oS, .inr (6, [.int 224, .int (-1)]))])) (va_Qv (fun (u : Unit) => True) (fun (u : Unit) (t : State) => va_P (dC, dI) vwCl [(h0, .inr (5, [.ref ar, .ref oB, .ref oS, .int 0, .int 0, .int 0, .int ve, .int 0, .int 0])), (oS, .inr (6, [.int 224, .int (-1)]))] t.heap ∧ va_K (dC, dI) vwCl [] t ∧ va_D (va_A [(h0, .inr (5, [.ref ar, .ref oB, .ref oS, .int 0, .int 0, .int 0, .int ve, .int 0, .int 0])), (oS, .inr (6, [.int 224, .int (-1)]))] sz) [(h0, .inr (5, [.ref ar, .ref oB, .ref oS, .int 0, .int 0, .int 0, .int ve, .int 0, .int 0])), (oS, .inr (6, [.int 224, .int (-1)]))]) (va_A [(h0, .inr (5, [.ref ar, .ref oB, .ref oS, .int 0, .int 0, .int 0, .int ve, .int 0, .int 0])), (oS, .inr (6, [.int 224, .int (-1)]))] sz)) 0 0 (va_A [(h0, .inr (5, [.ref ar, .ref oB, .ref oS, .int 0, .int 0, .int 0, .int ve, .int 0, .int 0])), (oS, .inr (6, [.int 224, .int (-1)]))] sz) := by
  refine Met.ofW (cc := cX6_settle) (maxL := 2) (ret := none) (by decide) rfl ?_
  intro p e s m args below meth c s₁ B hml hv
  obtain ⟨rfl, hsz, hP, hK, hD0⟩ := hv
  have hx := B.exec
  have hb := B.bytes
  have hr := B.returns
  have hts := atoms_spec (ws := wsX6_settle) B.pre
  have hown : s.vm.findClass RX6 = some m.cls := findClass_of_methodNamed B.named
  have hlocks := B.notSynchronized
  have hD := hD0.self (sz := sz)
  generalize hAe : va_A [(h0, .inr (5, [.ref ar, .ref oB, .ref oS, .int 0, .int 0, .int 0, .int ve, .int 0, .int 0])), (oS, .inr (6, [.int 224, .int (-1)]))] sz = A at hD ⊢
  have hA : ∀ q : Nat, s.heap.size ≤ q → A q := fun q h => by rw [← hAe]; exact Or.inr (by omega)
  have hS0 : ∀ G : Heap, s.heap = G → va_S A s.heap G [] := fun G h => by subst h; exact va_S.rf
  generalize hHe : s.heap = H at hP ⊢
  have hS := hS0 H hHe
  have hP : va_P (dC, dI) vwCl [(h0, .inr (5, [.ref ar, .ref oB, .ref oS, .int 0, .int 0, .int 0, .int ve, .int 0, .int 0])), (oS, .inr (6, [.int 224, .int (-1)]))] H := hP
  have hD : va_D A [(h0, .inr (5, [.ref ar, .ref oB, .ref oS, .int 0, .int 0, .int 0, .int ve, .int 0, .int 0])), (oS, .inr (6, [.int 224, .int (-1)]))] := hD
  have hK : va_K (dC, dI) vwCl [] s := hK
  have hl := lv_entry ([.ref h0]) (n := 2) (Nat.le_of_ble_eq_true rfl)
  rw [lg_entry_eq]
  generalize (lg_sl ([.ref h0]) ++ List.replicate (2 - (lg_sl ([.ref h0])).length) Slot.unset).toArray = ls at hl ⊢
  have hl : lv_has ls 2 [(0, .ref h0)] := hl
  refine lv_aload_n hx hb dX6_settle_0 rfl (lv_at hl 0 rfl) ?_
  refine va_get (D := (dC, dI)) (ci := 5) (v := .ref oS) (C := RX6) (T := TX6) (N := 9) hx hb hts (by decide +kernel) hown hK hP 0 rfl rfl 2 (by decide) (hts (.fieldLink RX6 43 "UnibusMachine$Processor" "status" "LUnibusMachine$Status;") (by decide +kernel)) (fun _ h9 => h9) rfl dX6_settle_1 ?_
  refine va_get (D := (dC, dI)) (ci := 6) (v := .int (-1)) (C := RX7) (T := TX7) (N := 2) hx hb hts (by decide +kernel) hown hK hP 1 rfl rfl 1 (by decide) (hts (.fieldLink RX6 73 "UnibusMachine$Status" "written" "I") (by decide +kernel)) (fun _ h9 => h9) rfl dX6_settle_4 ?_
  refine lv_iconst (v := (-1)) hx hb dX6_settle_7 (by decide) ?_
  refine lv_icmp_ne (tgt := 21) hx hb dX6_settle_8 (by decide) (fun c1 => ?_) (fun c1 => ?_)
  · exact absurd c1 (by decide)
  · skip
    refine lv_aload_n hx hb dX6_settle_11 rfl (lv_at hl 0 rfl) ?_
    refine va_get (D := (dC, dI)) (ci := 5) (v := .ref oS) (C := RX6) (T := TX6) (N := 9) hx hb hts (by decide +kernel) hown hK hP 0 rfl rfl 2 (by decide) (hts (.fieldLink RX6 43 "UnibusMachine$Processor" "status" "LUnibusMachine$Status;") (by decide +kernel)) (fun _ h9 => h9) rfl dX6_settle_12 ?_
    refine va_get (D := (dC, dI)) (ci := 6) (v := .int 224) (C := RX7) (T := TX7) (N := 2) hx hb hts (by decide +kernel) hown hK hP 1 rfl rfl 0 (by decide) (hts (.fieldLink RX6 44 "UnibusMachine$Status" "now" "I") (by decide +kernel)) (fun _ h9 => h9) rfl dX6_settle_15 ?_
    refine lv_goto (tgt := 28) hx hb dX6_settle_18 (by decide) ?_
    refine lv_istore_n (lv' := [(1, .int 224), (0, .ref h0)]) hx hb dX6_settle_28 rfl hl (by decide) rfl (fun ls hl => ?_)
    refine lv_aload_n hx hb dX6_settle_29 rfl (lv_at hl 1 rfl) ?_
    refine va_get (D := (dC, dI)) (ci := 5) (v := .int 0) (C := RX6) (T := TX6) (N := 9) hx hb hts (by decide +kernel) hown hK hP 0 rfl rfl 7 (by decide) (hts (.fieldLink RX6 27 "UnibusMachine$Processor" "named" "I") (by decide +kernel)) (fun _ h9 => h9) rfl dX6_settle_30 ?_
    refine lv_if_eq (tgt := 69) hx hb dX6_settle_33 (by decide) (fun c2 => ?_) (fun c2 => ?_)
    · skip
      refine lv_aload_n hx hb dX6_settle_69 rfl (lv_at hl 1 rfl) ?_
      refine lv_iconst (v := 0) hx hb dX6_settle_70 (by decide) ?_
      refine va_put (D := (dC, dI)) (ci := 5) (v := .int 0) (ty := .int) (C := RX6) (T := TX6) (N := 9) hx hb hts (by decide +kernel) tyX6 tyX6_ok nmX6 hown hK hP hD hS 0 rfl rfl 7 (by decide) (hts (.fieldLink RX6 27 "UnibusMachine$Processor" "named" "I") (by decide +kernel)) (fun _ h9 => h9) rfl (by decide +kernel) rfl rfl (Nat.le_of_ble_eq_true rfl) dX6_settle_71 (fun H locs hP hD hS => ?_)
      have hP : va_P (dC, dI) vwCl [(h0, .inr (5, [.ref ar, .ref oB, .ref oS, .int 0, .int 0, .int 0, .int ve, .int 0, .int 0])), (oS, .inr (6, [.int 224, .int (-1)]))] H := hP
      have hD : va_D A [(h0, .inr (5, [.ref ar, .ref oB, .ref oS, .int 0, .int 0, .int 0, .int ve, .int 0, .int 0])), (oS, .inr (6, [.int 224, .int (-1)]))] := hD
      refine lv_aload_n hx hb dX6_settle_74 rfl (lv_at hl 1 rfl) ?_
      refine va_get (D := (dC, dI)) (ci := 5) (v := .ref oS) (C := RX6) (T := TX6) (N := 9) hx hb hts (by decide +kernel) hown hK hP 0 rfl rfl 2 (by decide) (hts (.fieldLink RX6 43 "UnibusMachine$Processor" "status" "LUnibusMachine$Status;") (by decide +kernel)) (fun _ h9 => h9) rfl dX6_settle_75 ?_
      refine lv_iconst (v := (-1)) hx hb dX6_settle_78 (by decide) ?_
      refine va_put (D := (dC, dI)) (ci := 6) (v := .int (-1)) (ty := .int) (C := RX7) (T := TX7) (N := 2) hx hb hts (by decide +kernel) tyX7 tyX7_ok nmX7 hown hK hP hD hS 1 rfl rfl 1 (by decide) (hts (.fieldLink RX6 73 "UnibusMachine$Status" "written" "I") (by decide +kernel)) (fun _ h9 => h9) rfl (by decide +kernel) rfl rfl (Nat.le_of_ble_eq_true rfl) dX6_settle_79 (fun H locs hP hD hS => ?_)
      have hP : va_P (dC, dI) vwCl [(h0, .inr (5, [.ref ar, .ref oB, .ref oS, .int 0, .int 0, .int 0, .int ve, .int 0, .int 0])), (oS, .inr (6, [.int 224, .int (-1)]))] H := hP
      have hD : va_D A [(h0, .inr (5, [.ref ar, .ref oB, .ref oS, .int 0, .int 0, .int 0, .int ve, .int 0, .int 0])), (oS, .inr (6, [.int 224, .int (-1)]))] := hD
      refine lv_aload_n hx hb dX6_settle_82 rfl (lv_at hl 1 rfl) ?_
      refine lv_iload_n hx hb dX6_settle_83 rfl (lv_at hl 0 rfl) ?_
      have hPc := hP.sub (ws' := [(h0, .inr (5, [.ref ar, .ref oB, .ref oS, .int 0, .int 0, .int 0, .int ve, .int 0, .int 0])), (oS, .inr (6, [.int 224, .int (-1)]))]) [0, 1] rfl
      have hDc := hD.sub (ws' := [(h0, .inr (5, [.ref ar, .ref oB, .ref oS, .int 0, .int 0, .int 0, .int ve, .int 0, .int 0])), (oS, .inr (6, [.int 224, .int (-1)]))]) [0, 1] (by decide) rfl
      have hKc := hK.sub (tys' := []) [] rfl
      have hFc := va_free (wc := [(h0, .inr (5, [.ref ar, .ref oB, .ref oS, .int 0, .int 0, .int 0, .int ve, .int 0, .int 0])), (oS, .inr (6, [.int 224, .int (-1)]))]) hD hS hA [0, 1] rfl
      refine va_callv (va_runV (As := [.int 224]) (rest := []) ⟨hx, hb, hml, hown, hts⟩ (c_takeStatus l dC dI h0 ar oB oS ve H.size) (cwV 1 hts gX6_settle_X6_takeStatus rfl rfl rfl (by decide +kernel) ⟨Nat.le_of_ble_eq_true rfl, Nat.le_of_ble_eq_true rfl⟩) ⟨fun a U g mk q => by obtain ⟨q0, q1, qP, qK, qD⟩ := q; exact ⟨q0, q1, qP, va_K.moved (u := U) (U := U.calling g mk a) (Vm.Alike.refl U.vm) qK, qD⟩, va_recv hKc hPc (ci := 5) (q0 := 0) rfl rfl, fun U hU hW => ⟨rfl, by rw [hU], by rw [hU]; exact hPc, va_K.moved hW.alike hKc, hDc.weaken (fun _ _ _ _ => trivial)⟩⟩ rfl rfl hl.1 rfl (lv_room (Nat.le_of_ble_eq_true rfl)) dX6_settle_84 ⟨Nat.le_of_ble_eq_true rfl, Nat.le_of_ble_eq_true rfl⟩) hS (fun q _ h => hFc q h) hFc (fun u4 t H1 locs ht hvm hw hB hz1 hk1 hS => ?_)
      obtain ⟨hP1, hK1, hD1⟩ := hB
      rw [ht] at hP1
      have hK1 := va_K.moved hvm.symm hK1
      try dsimp only at hw
      obtain ⟨hP, hD⟩ := va_join (wr := []) (w1 := [(h0, .inr (5, [.ref ar, .ref oB, .ref oS, .int 0, .int 0, .int 0, .int ve, .int 0, .int 0])), (oS, .inr (6, [.int 224, .int (-1)]))]) hP hD [0, 1] [] rfl rfl (by decide) (by decide) hk1 hFc hP1 hD1
      have hK := (hK.sub (tys' := []) [] rfl).app hK1
      generalize H1 = H at hP hS ⊢
      have hP : va_P (dC, dI) vwCl [(h0, .inr (5, [.ref ar, .ref oB, .ref oS, .int 0, .int 0, .int 0, .int ve, .int 0, .int 0])), (oS, .inr (6, [.int 224, .int (-1)]))] H := hP
      have hD : va_D A [(h0, .inr (5, [.ref ar, .ref oB, .ref oS, .int 0, .int 0, .int 0, .int ve, .int 0, .int 0])), (oS, .inr (6, [.int 224, .int (-1)]))] := hD
      have hK : va_K (dC, dI) vwCl [] s := hK
      refine W.widen (k := 0) (n := 0) (Nat.le_of_ble_eq_true rfl) (Nat.le_of_ble_eq_true rfl) ?_
      have hP9 := hP.sub (ws' := [(h0, .inr (5, [.ref ar, .ref oB, .ref oS, .int 0, .int 0, .int 0, .int ve, .int 0, .int 0])), (oS, .inr (6, [.int 224, .int (-1)]))]) [0, 1] rfl
      have hD9 := hD.sub (ws' := [(h0, .inr (5, [.ref ar, .ref oB, .ref oS, .int 0, .int 0, .int 0, .int ve, .int 0, .int 0])), (oS, .inr (6, [.int 224, .int (-1)]))]) [0, 1] (by decide) rfl
      have hK9 := hK.sub (tys' := []) [] rfl
      exact W.vret hx hb hr (fun t ht hW => ⟨⟨(), rfl, trivial, by rw [ht]; exact hP9, va_K.moved hW.alike hK9, hD9⟩, hS.F ht⟩) hS.2.2 dX6_settle_87
    · exact absurd c2 (by decide)
set_option maxHeartbeats 4000000 in
set_option maxRecDepth 100000 in
theorem c_enter4 (l : Launch) (dC : Nat → ClassId) (dI : Nat → Nat → Nat) (h0 : Nat) (ar : Nat) (oB : Nat) (oS : Nat) (ve : Int32) (am : Nat) (oM : Nat) (oK : Nat) (oL : Nat) (oD : Nat) (ad : Nat) (ab : Nat) (tm : ClassId) (f : Nat → Int32) (tr : ClassId) (g : Nat → Int32) (z : Int) (sz : Nat) (hF0 : f (2 : Int32).toNatClampNeg = 1) (hF1 : f (3 : Int32).toNatClampNeg = 224) (hF2 : g (7 : Int32).toNatClampNeg = 1) (hF3 : (g (6 : Int32).toNatClampNeg).toInt = z) (hH4 : 170 ≤ z) (hH5 : z ≤ 1024) (hH6 : z % 2 = 0) : Met l yX6_enter wsX6_enter ({ frames := 5, cells := 0, slots := 0, locals := 126 } : Room) (va_Pc [.ref h0, .int 4] (fun U => U.heap.size = sz ∧ va_P (dC, dI) vwCl [(h0, .inr (5, [.ref ar, .ref oB, .ref oS, .int 0, .int 0, .int 0, .int ve, .int 0, .int 0])), (oS, .inr (6, [.int 224, .int (-1)])), (oB, .inr (0, [.ref am, .ref oM, .ref oS, .ref oK, .ref oL, .ref oD])), (oM, .inr (3, [.ref ad, .ref ab, .int 0])), (am, .inl (tm, 512, .inl f)), (ar, .inl (tr, 8, .inl g))] U.heap ∧ va_K (dC, dI) vwCl [(tm, .int), (tr, .int)] U ∧ va_D (fun _ => True) [(h0, .inr (5, [.ref ar, .ref oB, .ref oS, .int 0, .int 0, .int 0, .int ve, .int 0, .int 0])), (oS, .inr (6, [.int 224, .int (-1)])), (oB, .inr (0, [.ref am, .ref oM, .ref oS, .ref oK, .ref oL, .ref oD])), (oM, .inr (3, [.ref ad, .ref ab, .int 0])), (am, .inl (tm, 512, .inl f)), (ar, .inl (tr, 8, .inl g))])) (va_Qv (fun (u : (Nat → Int32) × (Nat → Int32)) => (u.1 (2 : Int32).toNatClampNeg = 1) ∧ (u.1 (3 : Int32).toNatClampNeg = 224) ∧ (u.2 (7 : Int32).toNatClampNeg = 1) ∧ ((u.2 (6 : Int32).toNatClampNeg).toInt = z - 4)) (fun (u : (Nat → Int32) × (Nat → Int32)) (t : State) => va_P (dC, dI) vwCl [(h0, .inr (5, [.ref ar, .ref oB, .ref oS, .int 0, .int 0, .int 0, .int ve, .int 0, .int 0])), (oS, .inr (6, [.int 224, .int (-1)])), (oB, .inr (0, [.ref am, .ref oM, .ref oS, .ref oK, .ref oL, .ref oD])), (oM, .inr (3, [.ref ad, .ref ab, .int 0])), (am, .inl (tm, 512, .inl u.1)), (ar, .inl (tr, 8, .inl u.2))] t.heap ∧ va_K (dC, dI) vwCl [(tm, .int), (tr, .int)] t ∧ va_D (va_A [(h0, .inr (5, [.ref ar, .ref oB, .ref oS, .int 0, .int 0, .int 0, .int ve, .int 0, .int 0])), (oS, .inr (6, [.int 224, .int (-1)])), (oB, .inr (0, [.ref am, .ref oM, .ref oS, .ref oK, .ref oL, .ref oD])), (oM, .inr (3, [.ref ad, .ref ab, .int 0])), (am, .inl (tm, 512, .inl f)), (ar, .inl (tr, 8, .inl g))] sz) [(h0, .inr (5, [.ref ar, .ref oB, .ref oS, .int 0, .int 0, .int 0, .int ve, .int 0, .int 0])), (oS, .inr (6, [.int 224, .int (-1)])), (oB, .inr (0, [.ref am, .ref oM, .ref oS, .ref oK, .ref oL, .ref oD])), (oM, .inr (3, [.ref ad, .ref ab, .int 0])), (am, .inl (tm, 512, .inl u.1)), (ar, .inl (tr, 8, .inl u.2))]) (va_A [(h0, .inr (5, [.ref ar, .ref oB, .ref oS, .int 0, .int 0, .int 0, .int ve, .int 0, .int 0])), (oS, .inr (6, [.int 224, .int (-1)])), (oB, .inr (0, [.ref am, .ref oM, .ref oS, .ref oK, .ref oL, .ref oD])), (oM, .inr (3, [.ref ad, .ref ab, .int 0])), (am, .inl (tm, 512, .inl f)), (ar, .inl (tr, 8, .inl g))] sz)) 0 0 (va_A [(h0, .inr (5, [.ref ar, .ref oB, .ref oS, .int 0, .int 0, .int 0, .int ve, .int 0, .int 0])), (oS, .inr (6, [.int 224, .int (-1)])), (oB, .inr (0, [.ref am, .ref oM, .ref oS, .ref oK, .ref oL, .ref oD])), (oM, .inr (3, [.ref ad, .ref ab, .int 0])), (am, .inl (tm, 512, .inl f)), (ar, .inl (tr, 8, .inl g))] sz) := by
  refine va_MetW (cc := cX6_enter) (maxL := 3) (ret := none) (by decide) rfl ?_
  intro p e s m args below meth c s₁ B hml hv
  obtain ⟨rfl, hsz, hP, hK, hD0⟩ := hv
  have hx := B.exec
  have hb := B.bytes
  have hr := B.returns
  have hts := atoms_spec (ws := wsX6_enter) B.pre
  have hown : s.vm.findClass RX6 = some m.cls := findClass_of_methodNamed B.named
  have hlocks := B.notSynchronized
  have htb := vx_table (x := yX6_enter) (y := yX6_enter) (bytes := cX6_enter) (maxL' := 3) (ret' := none) (hh := [(0, 5, 8, 65)]) B (hts _ List.mem_cons_self)
  have hD := hD0.self (sz := sz)
  generalize hAe : va_A [(h0, .inr (5, [.ref ar, .ref oB, .ref oS, .int 0, .int 0, .int 0, .int ve, .int 0, .int 0])), (oS, .inr (6, [.int 224, .int (-1)])), (oB, .inr (0, [.ref am, .ref oM, .ref oS, .ref oK, .ref oL, .ref oD])), (oM, .inr (3, [.ref ad, .ref ab, .int 0])), (am, .inl (tm, 512, .inl f)), (ar, .inl (tr, 8, .inl g))] sz = A at hD ⊢
  have hA : ∀ q : Nat, s.heap.size ≤ q → A q := fun q h => by rw [← hAe]; exact Or.inr (by omega)
  have hS0 : ∀ G : Heap, s.heap = G → va_S A s.heap G [] := fun G h => by subst h; exact va_S.rf
  generalize hHe : s.heap = H at hP ⊢
  have hS := hS0 H hHe
  have hP : va_P (dC, dI) vwCl [(h0, .inr (5, [.ref ar, .ref oB, .ref oS, .int 0, .int 0, .int 0, .int ve, .int 0, .int 0])), (oS, .inr (6, [.int 224, .int (-1)])), (oB, .inr (0, [.ref am, .ref oM, .ref oS, .ref oK, .ref oL, .ref oD])), (oM, .inr (3, [.ref ad, .ref ab, .int 0])), (am, .inl (tm, 512, .inl f)), (ar, .inl (tr, 8, .inl g))] H := hP
  have hD : va_D A [(h0, .inr (5, [.ref ar, .ref oB, .ref oS, .int 0, .int 0, .int 0, .int ve, .int 0, .int 0])), (oS, .inr (6, [.int 224, .int (-1)])), (oB, .inr (0, [.ref am, .ref oM, .ref oS, .ref oK, .ref oL, .ref oD])), (oM, .inr (3, [.ref ad, .ref ab, .int 0])), (am, .inl (tm, 512, .inl f)), (ar, .inl (tr, 8, .inl g))] := hD
  have hK : va_K (dC, dI) vwCl [(tm, .int), (tr, .int)] s := hK
  have hl := lv_entry ([.ref h0, .int 4]) (n := 3) (Nat.le_of_ble_eq_true rfl)
  rw [lg_entry_eq]
  generalize (lg_sl ([.ref h0, .int 4]) ++ List.replicate (3 - (lg_sl ([.ref h0, .int 4])).length) Slot.unset).toArray = ls at hl ⊢
  have hl : lv_has ls 3 [(0, .ref h0), (1, .int 4)] := hl
  refine lv_aload_n hx hb dX6_enter_0 rfl (lv_at hl 0 rfl) ?_
  refine lv_iload_n hx hb dX6_enter_1 rfl (lv_at hl 1 rfl) ?_
  have hPc := hP.sub (ws' := [(h0, .inr (5, [.ref ar, .ref oB, .ref oS, .int 0, .int 0, .int 0, .int ve, .int 0, .int 0])), (oS, .inr (6, [.int 224, .int (-1)])), (oB, .inr (0, [.ref am, .ref oM, .ref oS, .ref oK, .ref oL, .ref oD])), (oM, .inr (3, [.ref ad, .ref ab, .int 0])), (am, .inl (tm, 512, .inl f)), (ar, .inl (tr, 8, .inl g))]) [0, 1, 2, 3, 4, 5] rfl
  have hDc := hD.sub (ws' := [(h0, .inr (5, [.ref ar, .ref oB, .ref oS, .int 0, .int 0, .int 0, .int ve, .int 0, .int 0])), (oS, .inr (6, [.int 224, .int (-1)])), (oB, .inr (0, [.ref am, .ref oM, .ref oS, .ref oK, .ref oL, .ref oD])), (oM, .inr (3, [.ref ad, .ref ab, .int 0])), (am, .inl (tm, 512, .inl f)), (ar, .inl (tr, 8, .inl g))]) [0, 1, 2, 3, 4, 5] (by decide) rfl
  have hKc := hK.sub (tys' := [(tm, .int), (tr, .int)]) [0, 1] rfl
  have hFc := va_free (wc := [(h0, .inr (5, [.ref ar, .ref oB, .ref oS, .int 0, .int 0, .int 0, .int ve, .int 0, .int 0])), (oS, .inr (6, [.int 224, .int (-1)])), (oB, .inr (0, [.ref am, .ref oM, .ref oS, .ref oK, .ref oL, .ref oD])), (oM, .inr (3, [.ref ad, .ref ab, .int 0])), (am, .inl (tm, 512, .inl f)), (ar, .inl (tr, 8, .inl g))]) hD hS hA [0, 1, 2, 3, 4, 5] rfl
  refine va_callv (va_runV (As := [.int 4]) (rest := []) ⟨hx, hb, hml, hown, hts⟩ (c_trap4 l dC dI h0 ar oB oS ve am oM oK oL oD ad ab tm f tr g z H.size (by first | assumption | omega) (by first | assumption | omega) (by first | assumption | omega) (by first | assumption | omega) (by first | assumption | omega) (by first | assumption | omega) (by first | assumption | omega)) (cwV 1 hts gX6_enter_X6_trap rfl rfl rfl (by decide +kernel) ⟨Nat.le_of_ble_eq_true rfl, Nat.le_of_ble_eq_true rfl⟩) ⟨fun a U g mk q => by obtain ⟨q0, q1, qP, qK, qD⟩ := q; exact ⟨q0, q1, qP, va_K.moved (u := U) (U := U.calling g mk a) (Vm.Alike.refl U.vm) qK, qD⟩, va_recv hKc hPc (ci := 5) (q0 := 0) rfl rfl, fun U hU hW => ⟨rfl, by rw [hU], by rw [hU]; exact hPc, va_K.moved hW.alike hKc, hDc.weaken (fun _ _ _ _ => trivial)⟩⟩ rfl rfl hl.1 rfl (lv_room (Nat.le_of_ble_eq_true rfl)) dX6_enter_2 ⟨Nat.le_of_ble_eq_true rfl, Nat.le_of_ble_eq_true rfl⟩) hS (fun q _ h => hFc q h) hFc (fun u2 t H1 locs ht hvm hw hB hz1 hk1 hS => ?_)
  obtain ⟨hP1, hK1, hD1⟩ := hB
  rw [ht] at hP1
  have hK1 := va_K.moved hvm.symm hK1
  try dsimp only at hw
  obtain ⟨hP, hD⟩ := va_join (wr := []) (w1 := [(h0, .inr (5, [.ref ar, .ref oB, .ref oS, .int 0, .int 0, .int 0, .int ve, .int 0, .int 0])), (oS, .inr (6, [.int 224, .int (-1)])), (oB, .inr (0, [.ref am, .ref oM, .ref oS, .ref oK, .ref oL, .ref oD])), (oM, .inr (3, [.ref ad, .ref ab, .int 0])), (am, .inl (tm, 512, .inl u2.1)), (ar, .inl (tr, 8, .inl u2.2))]) hP hD [0, 1, 2, 3, 4, 5] [] rfl rfl (by decide) (by decide) hk1 hFc hP1 hD1
  have hK := (hK.sub (tys' := []) [] rfl).app hK1
  generalize H1 = H at hP hS ⊢
  have hP : va_P (dC, dI) vwCl [(h0, .inr (5, [.ref ar, .ref oB, .ref oS, .int 0, .int 0, .int 0, .int ve, .int 0, .int 0])), (oS, .inr (6, [.int 224, .int (-1)])), (oB, .inr (0, [.ref am, .ref oM, .ref oS, .ref oK, .ref oL, .ref oD])), (oM, .inr (3, [.ref ad, .ref ab, .int 0])), (am, .inl (tm, 512, .inl u2.1)), (ar, .inl (tr, 8, .inl u2.2))] H := hP
  have hD : va_D A [(h0, .inr (5, [.ref ar, .ref oB, .ref oS, .int 0, .int 0, .int 0, .int ve, .int 0, .int 0])), (oS, .inr (6, [.int 224, .int (-1)])), (oB, .inr (0, [.ref am, .ref oM, .ref oS, .ref oK, .ref oL, .ref oD])), (oM, .inr (3, [.ref ad, .ref ab, .int 0])), (am, .inl (tm, 512, .inl u2.1)), (ar, .inl (tr, 8, .inl u2.2))] := hD
  have hK : va_K (dC, dI) vwCl [(tm, .int), (tr, .int)] s := hK
  refine W.widen (k := 0) (n := 0) (Nat.le_of_ble_eq_true rfl) (Nat.le_of_ble_eq_true rfl) ?_
  obtain ⟨_, _, _, _⟩ := hw
  refine lv_goto (tgt := 14) hx hb dX6_enter_5 (by decide) ?_
  refine lv_aload_n hx hb dX6_enter_14 rfl (lv_at hl 0 rfl) ?_
  have hPc := hP.sub (ws' := [(h0, .inr (5, [.ref ar, .ref oB, .ref oS, .int 0, .int 0, .int 0, .int ve, .int 0, .int 0])), (oS, .inr (6, [.int 224, .int (-1)]))]) [0, 1] rfl
  have hDc := hD.sub (ws' := [(h0, .inr (5, [.ref ar, .ref oB, .ref oS, .int 0, .int 0, .int 0, .int ve, .int 0, .int 0])), (oS, .inr (6, [.int 224, .int (-1)]))]) [0, 1] (by decide) rfl
  have hKc := hK.sub (tys' := []) [] rfl
  have hFc := va_free (wc := [(h0, .inr (5, [.ref ar, .ref oB, .ref oS, .int 0, .int 0, .int 0, .int ve, .int 0, .int 0])), (oS, .inr (6, [.int 224, .int (-1)]))]) hD hS hA [0, 1] rfl
  refine va_callv (va_runV (As := []) (rest := []) ⟨hx, hb, hml, hown, hts⟩ (c_settle l dC dI h0 ar oB oS ve H.size) (cwV 0 hts gX6_enter_X6_settle rfl rfl rfl (by decide +kernel) ⟨Nat.le_of_ble_eq_true rfl, Nat.le_of_ble_eq_true rfl⟩) ⟨fun a U g mk q => by obtain ⟨q0, q1, qP, qK, qD⟩ := q; exact ⟨q0, q1, qP, va_K.moved (u := U) (U := U.calling g mk a) (Vm.Alike.refl U.vm) qK, qD⟩, va_recv hKc hPc (ci := 5) (q0 := 0) rfl rfl, fun U hU hW => ⟨rfl, by rw [hU], by rw [hU]; exact hPc, va_K.moved hW.alike hKc, hDc.weaken (fun _ _ _ _ => trivial)⟩⟩ rfl rfl hl.1 rfl (lv_room (Nat.le_of_ble_eq_true rfl)) dX6_enter_15 ⟨Nat.le_of_ble_eq_true rfl, Nat.le_of_ble_eq_true rfl⟩) hS (fun q _ h => hFc q h) hFc (fun u4 t H1 locs ht hvm hw hB hz1 hk1 hS => ?_)
  obtain ⟨hP1, hK1, hD1⟩ := hB
  rw [ht] at hP1
  have hK1 := va_K.moved hvm.symm hK1
  try dsimp only at hw
  obtain ⟨hP, hD⟩ := va_join (wr := [(oB, .inr (0, [.ref am, .ref oM, .ref oS, .ref oK, .ref oL, .ref oD])), (oM, .inr (3, [.ref ad, .ref ab, .int 0])), (am, .inl (tm, 512, .inl u2.1)), (ar, .inl (tr, 8, .inl u2.2))]) (w1 := [(h0, .inr (5, [.ref ar, .ref oB, .ref oS, .int 0, .int 0, .int 0, .int ve, .int 0, .int 0])), (oS, .inr (6, [.int 224, .int (-1)]))]) hP hD [0, 1] [2, 3, 4, 5] rfl rfl (by decide) (by decide) hk1 hFc hP1 hD1
  have hK := (hK.sub (tys' := [(tm, .int), (tr, .int)]) [0, 1] rfl).app hK1
  generalize H1 = H at hP hS ⊢
  have hP : va_P (dC, dI) vwCl [(oB, .inr (0, [.ref am, .ref oM, .ref oS, .ref oK, .ref oL, .ref oD])), (oM, .inr (3, [.ref ad, .ref ab, .int 0])), (am, .inl (tm, 512, .inl u2.1)), (ar, .inl (tr, 8, .inl u2.2)), (h0, .inr (5, [.ref ar, .ref oB, .ref oS, .int 0, .int 0, .int 0, .int ve, .int 0, .int 0])), (oS, .inr (6, [.int 224, .int (-1)]))] H := hP
  have hD : va_D A [(oB, .inr (0, [.ref am, .ref oM, .ref oS, .ref oK, .ref oL, .ref oD])), (oM, .inr (3, [.ref ad, .ref ab, .int 0])), (am, .inl (tm, 512, .inl u2.1)), (ar, .inl (tr, 8, .inl u2.2)), (h0, .inr (5, [.ref ar, .ref oB, .ref oS, .int 0, .int 0, .int 0, .int ve, .int 0, .int 0])), (oS, .inr (6, [.int 224, .int (-1)]))] := hD
  have hK : va_K (dC, dI) vwCl [(tm, .int), (tr, .int)] s := hK
  refine W.widen (k := 0) (n := 0) (Nat.le_of_ble_eq_true rfl) (Nat.le_of_ble_eq_true rfl) ?_
  have hx5 : u2.1 (2 : Int32).toNatClampNeg = 1 := by first | assumption | omega
  have hx6 : u2.1 (3 : Int32).toNatClampNeg = 224 := by first | assumption | omega
  have hx7 : u2.2 (7 : Int32).toNatClampNeg = 1 := by first | assumption | omega
  have hx8 : (u2.2 (6 : Int32).toNatClampNeg).toInt = z - 4 := by first | assumption | omega
  have hP9 := hP.sub (ws' := [(h0, .inr (5, [.ref ar, .ref oB, .ref oS, .int 0, .int 0, .int 0, .int ve, .int 0, .int 0])), (oS, .inr (6, [.int 224, .int (-1)])), (oB, .inr (0, [.ref am, .ref oM, .ref oS, .ref oK, .ref oL, .ref oD])), (oM, .inr (3, [.ref ad, .ref ab, .int 0])), (am, .inl (tm, 512, .inl u2.1)), (ar, .inl (tr, 8, .inl u2.2))]) [4, 5, 0, 1, 2, 3] rfl
  have hD9 := hD.sub (ws' := [(h0, .inr (5, [.ref ar, .ref oB, .ref oS, .int 0, .int 0, .int 0, .int ve, .int 0, .int 0])), (oS, .inr (6, [.int 224, .int (-1)])), (oB, .inr (0, [.ref am, .ref oM, .ref oS, .ref oK, .ref oL, .ref oD])), (oM, .inr (3, [.ref ad, .ref ab, .int 0])), (am, .inl (tm, 512, .inl u2.1)), (ar, .inl (tr, 8, .inl u2.2))]) [4, 5, 0, 1, 2, 3] (by decide) rfl
  have hK9 := hK.sub (tys' := [(tm, .int), (tr, .int)]) [0, 1] rfl
  exact W.vret hx hb hr (fun t ht hW => ⟨⟨(u2.1, u2.2), rfl, ⟨hx5, hx6, hx7, hx8⟩, by rw [ht]; exact hP9, va_K.moved hW.alike hK9, hD9⟩, hS.F ht⟩) hS.2.2 dX6_enter_18
set_option maxHeartbeats 4000000 in
set_option maxRecDepth 100000 in
theorem c_nextInstruction (l : Launch) (dC : Nat → ClassId) (dI : Nat → Nat → Nat) (h0 : Nat) (am : Nat) (oM : Nat) (oS : Nat) (oK : Nat) (oL : Nat) (oD : Nat) (ap : Nat) (aw : Nat) (sz : Nat) : Met l yX0_nextInstruction wsX0_nextInstruction ({ frames := 0, cells := 0, slots := 0, locals := 0 } : Room) (va_Pc [.ref h0] (fun U => U.heap.size = sz ∧ va_P (dC, dI) vwCl [(h0, .inr (0, [.ref am, .ref oM, .ref oS, .ref oK, .ref oL, .ref oD])), (oL, .inr (4, [.int 128, .int 0, .ref ap, .int 0, .int 0, .int 0, .int 0])), (oD, .inr (1, [.int 128, .int 0, .ref aw, .int 0, .int 0, .int 0, .int 0, .int 0, .int 0, .int 0]))] U.heap ∧ va_K (dC, dI) vwCl [] U ∧ va_D (fun _ => True) [(h0, .inr (0, [.ref am, .ref oM, .ref oS, .ref oK, .ref oL, .ref oD])), (oL, .inr (4, [.int 128, .int 0, .ref ap, .int 0, .int 0, .int 0, .int 0])), (oD, .inr (1, [.int 128, .int 0, .ref aw, .int 0, .int 0, .int 0, .int 0, .int 0, .int 0, .int 0]))])) (va_Qv (fun (u : Unit) => True) (fun (u : Unit) (t : State) => va_P (dC, dI) vwCl [(h0, .inr (0, [.ref am, .ref oM, .ref oS, .ref oK, .ref oL, .ref oD])), (oL, .inr (4, [.int 128, .int 0, .ref ap, .int 0, .int 0, .int 0, .int 0])), (oD, .inr (1, [.int 128, .int 0, .ref aw, .int 0, .int 0, .int 0, .int 0, .int 0, .int 0, .int 0]))] t.heap ∧ va_K (dC, dI) vwCl [] t ∧ va_D (va_A [(h0, .inr (0, [.ref am, .ref oM, .ref oS, .ref oK, .ref oL, .ref oD])), (oL, .inr (4, [.int 128, .int 0, .ref ap, .int 0, .int 0, .int 0, .int 0])), (oD, .inr (1, [.int 128, .int 0, .ref aw, .int 0, .int 0, .int 0, .int 0, .int 0, .int 0, .int 0]))] sz) [(h0, .inr (0, [.ref am, .ref oM, .ref oS, .ref oK, .ref oL, .ref oD])), (oL, .inr (4, [.int 128, .int 0, .ref ap, .int 0, .int 0, .int 0, .int 0])), (oD, .inr (1, [.int 128, .int 0, .ref aw, .int 0, .int 0, .int 0, .int 0, .int 0, .int 0, .int 0]))]) (va_A [(h0, .inr (0, [.ref am, .ref oM, .ref oS, .ref oK, .ref oL, .ref oD])), (oL, .inr (4, [.int 128, .int 0, .ref ap, .int 0, .int 0, .int 0, .int 0])), (oD, .inr (1, [.int 128, .int 0, .ref aw, .int 0, .int 0, .int 0, .int 0, .int 0, .int 0, .int 0]))] sz)) 0 0 (va_A [(h0, .inr (0, [.ref am, .ref oM, .ref oS, .ref oK, .ref oL, .ref oD])), (oL, .inr (4, [.int 128, .int 0, .ref ap, .int 0, .int 0, .int 0, .int 0])), (oD, .inr (1, [.int 128, .int 0, .ref aw, .int 0, .int 0, .int 0, .int 0, .int 0, .int 0, .int 0]))] sz) := by
  refine Met.ofW (cc := cX0_nextInstruction) (maxL := 1) (ret := none) (by decide) rfl ?_
  intro p e s m args below meth c s₁ B hml hv
  obtain ⟨rfl, hsz, hP, hK, hD0⟩ := hv
  have hx := B.exec
  have hb := B.bytes
  have hr := B.returns
  have hts := atoms_spec (ws := wsX0_nextInstruction) B.pre
  have hown : s.vm.findClass RX0 = some m.cls := findClass_of_methodNamed B.named
  have hlocks := B.notSynchronized
  have hD := hD0.self (sz := sz)
  generalize hAe : va_A [(h0, .inr (0, [.ref am, .ref oM, .ref oS, .ref oK, .ref oL, .ref oD])), (oL, .inr (4, [.int 128, .int 0, .ref ap, .int 0, .int 0, .int 0, .int 0])), (oD, .inr (1, [.int 128, .int 0, .ref aw, .int 0, .int 0, .int 0, .int 0, .int 0, .int 0, .int 0]))] sz = A at hD ⊢
  have hA : ∀ q : Nat, s.heap.size ≤ q → A q := fun q h => by rw [← hAe]; exact Or.inr (by omega)
  have hS0 : ∀ G : Heap, s.heap = G → va_S A s.heap G [] := fun G h => by subst h; exact va_S.rf
  generalize hHe : s.heap = H at hP ⊢
  have hS := hS0 H hHe
  have hP : va_P (dC, dI) vwCl [(h0, .inr (0, [.ref am, .ref oM, .ref oS, .ref oK, .ref oL, .ref oD])), (oL, .inr (4, [.int 128, .int 0, .ref ap, .int 0, .int 0, .int 0, .int 0])), (oD, .inr (1, [.int 128, .int 0, .ref aw, .int 0, .int 0, .int 0, .int 0, .int 0, .int 0, .int 0]))] H := hP
  have hD : va_D A [(h0, .inr (0, [.ref am, .ref oM, .ref oS, .ref oK, .ref oL, .ref oD])), (oL, .inr (4, [.int 128, .int 0, .ref ap, .int 0, .int 0, .int 0, .int 0])), (oD, .inr (1, [.int 128, .int 0, .ref aw, .int 0, .int 0, .int 0, .int 0, .int 0, .int 0, .int 0]))] := hD
  have hK : va_K (dC, dI) vwCl [] s := hK
  have hl := lv_entry ([.ref h0]) (n := 1) (Nat.le_of_ble_eq_true rfl)
  rw [lg_entry_eq]
  generalize (lg_sl ([.ref h0]) ++ List.replicate (1 - (lg_sl ([.ref h0])).length) Slot.unset).toArray = ls at hl ⊢
  have hl : lv_has ls 1 [(0, .ref h0)] := hl
  refine lv_aload_n hx hb dX0_nextInstruction_0 rfl (lv_at hl 0 rfl) ?_
  refine va_get (D := (dC, dI)) (ci := 0) (v := .ref oL) (C := RX0) (T := TX0) (N := 6) hx hb hts (by decide +kernel) hown hK hP 0 rfl rfl 4 (by decide) (hts (.fieldLink RX0 37 "UnibusMachine$Bus" "printer" "LUnibusMachine$Printer;") (by decide +kernel)) (fun _ h9 => h9) rfl dX0_nextInstruction_1 ?_
  refine lv_iconst (v := 0) hx hb dX0_nextInstruction_4 (by decide) ?_
  refine va_put (D := (dC, dI)) (ci := 4) (v := .int 0) (ty := .boolean) (C := RX5) (T := TX5) (N := 7) hx hb hts (by decide +kernel) tyX5 tyX5_ok nmX5 hown hK hP hD hS 1 rfl rfl 6 (by decide) (hts (.fieldLink RX0 108 "UnibusMachine$Printer" "fresh" "Z") (by decide +kernel)) (fun _ h9 => h9) rfl (by decide +kernel) (by decide) rfl (Nat.le_of_ble_eq_true rfl) dX0_nextInstruction_5 (fun H locs hP hD hS => ?_)
  have hP : va_P (dC, dI) vwCl [(h0, .inr (0, [.ref am, .ref oM, .ref oS, .ref oK, .ref oL, .ref oD])), (oL, .inr (4, [.int 128, .int 0, .ref ap, .int 0, .int 0, .int 0, .int 0])), (oD, .inr (1, [.int 128, .int 0, .ref aw, .int 0, .int 0, .int 0, .int 0, .int 0, .int 0, .int 0]))] H := hP
  have hD : va_D A [(h0, .inr (0, [.ref am, .ref oM, .ref oS, .ref oK, .ref oL, .ref oD])), (oL, .inr (4, [.int 128, .int 0, .ref ap, .int 0, .int 0, .int 0, .int 0])), (oD, .inr (1, [.int 128, .int 0, .ref aw, .int 0, .int 0, .int 0, .int 0, .int 0, .int 0, .int 0]))] := hD
  refine lv_aload_n hx hb dX0_nextInstruction_8 rfl (lv_at hl 0 rfl) ?_
  refine va_get (D := (dC, dI)) (ci := 0) (v := .ref oD) (C := RX0) (T := TX0) (N := 6) hx hb hts (by decide +kernel) hown hK hP 0 rfl rfl 5 (by decide) (hts (.fieldLink RX0 44 "UnibusMachine$Bus" "drive" "LUnibusMachine$Drive;") (by decide +kernel)) (fun _ h9 => h9) rfl dX0_nextInstruction_9 ?_
  refine lv_iconst (v := 0) hx hb dX0_nextInstruction_12 (by decide) ?_
  refine va_put (D := (dC, dI)) (ci := 1) (v := .int 0) (ty := .boolean) (C := RX1) (T := TX1) (N := 10) hx hb hts (by decide +kernel) tyX1 tyX1_ok nmX1 hown hK hP hD hS 2 rfl rfl 9 (by decide) (hts (.fieldLink RX0 112 "UnibusMachine$Drive" "fresh" "Z") (by decide +kernel)) (fun _ h9 => h9) rfl (by decide +kernel) (by decide) rfl (Nat.le_of_ble_eq_true rfl) dX0_nextInstruction_13 (fun H locs hP hD hS => ?_)
  have hP : va_P (dC, dI) vwCl [(h0, .inr (0, [.ref am, .ref oM, .ref oS, .ref oK, .ref oL, .ref oD])), (oL, .inr (4, [.int 128, .int 0, .ref ap, .int 0, .int 0, .int 0, .int 0])), (oD, .inr (1, [.int 128, .int 0, .ref aw, .int 0, .int 0, .int 0, .int 0, .int 0, .int 0, .int 0]))] H := hP
  have hD : va_D A [(h0, .inr (0, [.ref am, .ref oM, .ref oS, .ref oK, .ref oL, .ref oD])), (oL, .inr (4, [.int 128, .int 0, .ref ap, .int 0, .int 0, .int 0, .int 0])), (oD, .inr (1, [.int 128, .int 0, .ref aw, .int 0, .int 0, .int 0, .int 0, .int 0, .int 0, .int 0]))] := hD
  have hP9 := hP.sub (ws' := [(h0, .inr (0, [.ref am, .ref oM, .ref oS, .ref oK, .ref oL, .ref oD])), (oL, .inr (4, [.int 128, .int 0, .ref ap, .int 0, .int 0, .int 0, .int 0])), (oD, .inr (1, [.int 128, .int 0, .ref aw, .int 0, .int 0, .int 0, .int 0, .int 0, .int 0, .int 0]))]) [0, 1, 2] rfl
  have hD9 := hD.sub (ws' := [(h0, .inr (0, [.ref am, .ref oM, .ref oS, .ref oK, .ref oL, .ref oD])), (oL, .inr (4, [.int 128, .int 0, .ref ap, .int 0, .int 0, .int 0, .int 0])), (oD, .inr (1, [.int 128, .int 0, .ref aw, .int 0, .int 0, .int 0, .int 0, .int 0, .int 0, .int 0]))]) [0, 1, 2] (by decide) rfl
  have hK9 := hK.sub (tys' := []) [] rfl
  exact W.vret hx hb hr (fun t ht hW => ⟨⟨(), rfl, trivial, by rw [ht]; exact hP9, va_K.moved hW.alike hK9, hD9⟩, hS.F ht⟩) hS.2.2 dX0_nextInstruction_16
set_option maxHeartbeats 4000000 in
set_option maxRecDepth 100000 in
theorem c_goOnP (l : Launch) (dC : Nat → ClassId) (dI : Nat → Nat → Nat) (h0 : Nat) (ap : Nat) (sz : Nat) : Met l yX5_goOn wsX5_goOn ({ frames := 0, cells := 0, slots := 0, locals := 0 } : Room) (va_Pc [.ref h0] (fun U => U.heap.size = sz ∧ va_P (dC, dI) vwCl [(h0, .inr (4, [.int 128, .int 0, .ref ap, .int 0, .int 0, .int 0, .int 0]))] U.heap ∧ va_K (dC, dI) vwCl [] U ∧ va_D (fun _ => True) [(h0, .inr (4, [.int 128, .int 0, .ref ap, .int 0, .int 0, .int 0, .int 0]))])) (va_Qv (fun (u : Unit) => True) (fun (u : Unit) (t : State) => va_P (dC, dI) vwCl [(h0, .inr (4, [.int 128, .int 0, .ref ap, .int 0, .int 0, .int 0, .int 0]))] t.heap ∧ va_K (dC, dI) vwCl [] t ∧ va_D (va_A [(h0, .inr (4, [.int 128, .int 0, .ref ap, .int 0, .int 0, .int 0, .int 0]))] sz) [(h0, .inr (4, [.int 128, .int 0, .ref ap, .int 0, .int 0, .int 0, .int 0]))]) (va_A [(h0, .inr (4, [.int 128, .int 0, .ref ap, .int 0, .int 0, .int 0, .int 0]))] sz)) 0 0 (va_A [(h0, .inr (4, [.int 128, .int 0, .ref ap, .int 0, .int 0, .int 0, .int 0]))] sz) := by
  refine Met.ofW (cc := cX5_goOn) (maxL := 1) (ret := none) (by decide) rfl ?_
  intro p e s m args below meth c s₁ B hml hv
  obtain ⟨rfl, hsz, hP, hK, hD0⟩ := hv
  have hx := B.exec
  have hb := B.bytes
  have hr := B.returns
  have hts := atoms_spec (ws := wsX5_goOn) B.pre
  have hown : s.vm.findClass RX5 = some m.cls := findClass_of_methodNamed B.named
  have hlocks := B.notSynchronized
  have hD := hD0.self (sz := sz)
  generalize hAe : va_A [(h0, .inr (4, [.int 128, .int 0, .ref ap, .int 0, .int 0, .int 0, .int 0]))] sz = A at hD ⊢
  have hA : ∀ q : Nat, s.heap.size ≤ q → A q := fun q h => by rw [← hAe]; exact Or.inr (by omega)
  have hS0 : ∀ G : Heap, s.heap = G → va_S A s.heap G [] := fun G h => by subst h; exact va_S.rf
  generalize hHe : s.heap = H at hP ⊢
  have hS := hS0 H hHe
  have hP : va_P (dC, dI) vwCl [(h0, .inr (4, [.int 128, .int 0, .ref ap, .int 0, .int 0, .int 0, .int 0]))] H := hP
  have hD : va_D A [(h0, .inr (4, [.int 128, .int 0, .ref ap, .int 0, .int 0, .int 0, .int 0]))] := hD
  have hK : va_K (dC, dI) vwCl [] s := hK
  have hl := lv_entry ([.ref h0]) (n := 1) (Nat.le_of_ble_eq_true rfl)
  rw [lg_entry_eq]
  generalize (lg_sl ([.ref h0]) ++ List.replicate (1 - (lg_sl ([.ref h0])).length) Slot.unset).toArray = ls at hl ⊢
  have hl : lv_has ls 1 [(0, .ref h0)] := hl
  refine lv_aload_n hx hb dX5_goOn_0 rfl (lv_at hl 0 rfl) ?_
  refine va_get (D := (dC, dI)) (ci := 4) (v := .int 0) (C := RX5) (T := TX5) (N := 7) hx hb hts (by decide +kernel) hown hK hP 0 rfl rfl 5 (by decide) (hts (.fieldLink RX5 20 "UnibusMachine$Printer" "left" "I") (by decide +kernel)) (fun _ h9 => h9) rfl dX5_goOn_1 ?_
  refine lv_if_eq (tgt := 14) hx hb dX5_goOn_4 (by decide) (fun c1 => ?_) (fun c1 => ?_)
  · skip
    have hP9 := hP.sub (ws' := [(h0, .inr (4, [.int 128, .int 0, .ref ap, .int 0, .int 0, .int 0, .int 0]))]) [0] rfl
    have hD9 := hD.sub (ws' := [(h0, .inr (4, [.int 128, .int 0, .ref ap, .int 0, .int 0, .int 0, .int 0]))]) [0] (by decide) rfl
    have hK9 := hK.sub (tys' := []) [] rfl
    exact W.vret hx hb hr (fun t ht hW => ⟨⟨(), rfl, trivial, by rw [ht]; exact hP9, va_K.moved hW.alike hK9, hD9⟩, hS.F ht⟩) hS.2.2 dX5_goOn_14
  · exact absurd c1 (by decide)
set_option maxHeartbeats 4000000 in
set_option maxRecDepth 100000 in
theorem c_goOnD (l : Launch) (dC : Nat → ClassId) (dI : Nat → Nat → Nat) (h0 : Nat) (aw : Nat) (am : Nat) (sz : Nat) : Met l yX1_goOn wsX1_goOn ({ frames := 0, cells := 0, slots := 0, locals := 0 } : Room) (va_Pc [.ref h0, .ref am] (fun U => U.heap.size = sz ∧ va_P (dC, dI) vwCl [(h0, .inr (1, [.int 128, .int 0, .ref aw, .int 0, .int 0, .int 0, .int 0, .int 0, .int 0, .int 0]))] U.heap ∧ va_K (dC, dI) vwCl [] U ∧ va_D (fun _ => True) [(h0, .inr (1, [.int 128, .int 0, .ref aw, .int 0, .int 0, .int 0, .int 0, .int 0, .int 0, .int 0]))])) (va_Qv (fun (u : Unit) => True) (fun (u : Unit) (t : State) => va_P (dC, dI) vwCl [(h0, .inr (1, [.int 128, .int 0, .ref aw, .int 0, .int 0, .int 0, .int 0, .int 0, .int 0, .int 0]))] t.heap ∧ va_K (dC, dI) vwCl [] t ∧ va_D (va_A [(h0, .inr (1, [.int 128, .int 0, .ref aw, .int 0, .int 0, .int 0, .int 0, .int 0, .int 0, .int 0]))] sz) [(h0, .inr (1, [.int 128, .int 0, .ref aw, .int 0, .int 0, .int 0, .int 0, .int 0, .int 0, .int 0]))]) (va_A [(h0, .inr (1, [.int 128, .int 0, .ref aw, .int 0, .int 0, .int 0, .int 0, .int 0, .int 0, .int 0]))] sz)) 0 0 (va_A [(h0, .inr (1, [.int 128, .int 0, .ref aw, .int 0, .int 0, .int 0, .int 0, .int 0, .int 0, .int 0]))] sz) := by
  refine Met.ofW (cc := cX1_goOn) (maxL := 2) (ret := none) (by decide) rfl ?_
  intro p e s m args below meth c s₁ B hml hv
  obtain ⟨rfl, hsz, hP, hK, hD0⟩ := hv
  have hx := B.exec
  have hb := B.bytes
  have hr := B.returns
  have hts := atoms_spec (ws := wsX1_goOn) B.pre
  have hown : s.vm.findClass RX1 = some m.cls := findClass_of_methodNamed B.named
  have hlocks := B.notSynchronized
  have hD := hD0.self (sz := sz)
  generalize hAe : va_A [(h0, .inr (1, [.int 128, .int 0, .ref aw, .int 0, .int 0, .int 0, .int 0, .int 0, .int 0, .int 0]))] sz = A at hD ⊢
  have hA : ∀ q : Nat, s.heap.size ≤ q → A q := fun q h => by rw [← hAe]; exact Or.inr (by omega)
  have hS0 : ∀ G : Heap, s.heap = G → va_S A s.heap G [] := fun G h => by subst h; exact va_S.rf
  generalize hHe : s.heap = H at hP ⊢
  have hS := hS0 H hHe
  have hP : va_P (dC, dI) vwCl [(h0, .inr (1, [.int 128, .int 0, .ref aw, .int 0, .int 0, .int 0, .int 0, .int 0, .int 0, .int 0]))] H := hP
  have hD : va_D A [(h0, .inr (1, [.int 128, .int 0, .ref aw, .int 0, .int 0, .int 0, .int 0, .int 0, .int 0, .int 0]))] := hD
  have hK : va_K (dC, dI) vwCl [] s := hK
  have hl := lv_entry ([.ref h0, .ref am]) (n := 2) (Nat.le_of_ble_eq_true rfl)
  rw [lg_entry_eq]
  generalize (lg_sl ([.ref h0, .ref am]) ++ List.replicate (2 - (lg_sl ([.ref h0, .ref am])).length) Slot.unset).toArray = ls at hl ⊢
  have hl : lv_has ls 2 [(0, .ref h0), (1, .ref am)] := hl
  refine lv_aload_n hx hb dX1_goOn_0 rfl (lv_at hl 0 rfl) ?_
  refine va_get (D := (dC, dI)) (ci := 1) (v := .int 0) (C := RX1) (T := TX1) (N := 10) hx hb hts (by decide +kernel) hown hK hP 0 rfl rfl 8 (by decide) (hts (.fieldLink RX1 29 "UnibusMachine$Drive" "left" "I") (by decide +kernel)) (fun _ h9 => h9) rfl dX1_goOn_1 ?_
  refine lv_if_eq (tgt := 14) hx hb dX1_goOn_4 (by decide) (fun c1 => ?_) (fun c1 => ?_)
  · skip
    have hP9 := hP.sub (ws' := [(h0, .inr (1, [.int 128, .int 0, .ref aw, .int 0, .int 0, .int 0, .int 0, .int 0, .int 0, .int 0]))]) [0] rfl
    have hD9 := hD.sub (ws' := [(h0, .inr (1, [.int 128, .int 0, .ref aw, .int 0, .int 0, .int 0, .int 0, .int 0, .int 0, .int 0]))]) [0] (by decide) rfl
    have hK9 := hK.sub (tys' := []) [] rfl
    exact W.vret hx hb hr (fun t ht hW => ⟨⟨(), rfl, trivial, by rw [ht]; exact hP9, va_K.moved hW.alike hK9, hD9⟩, hS.F ht⟩) hS.2.2 dX1_goOn_14
  · exact absurd c1 (by decide)
set_option maxHeartbeats 4000000 in
set_option maxRecDepth 100000 in
theorem c_goOn (l : Launch) (dC : Nat → ClassId) (dI : Nat → Nat → Nat) (h0 : Nat) (am : Nat) (oM : Nat) (oS : Nat) (oK : Nat) (oL : Nat) (oD : Nat) (ap : Nat) (aw : Nat) (sz : Nat) : Met l yX0_goOn wsX0_goOn ({ frames := 1, cells := 0, slots := 0, locals := 23 } : Room) (va_Pc [.ref h0] (fun U => U.heap.size = sz ∧ va_P (dC, dI) vwCl [(h0, .inr (0, [.ref am, .ref oM, .ref oS, .ref oK, .ref oL, .ref oD])), (oL, .inr (4, [.int 128, .int 0, .ref ap, .int 0, .int 0, .int 0, .int 0])), (oD, .inr (1, [.int 128, .int 0, .ref aw, .int 0, .int 0, .int 0, .int 0, .int 0, .int 0, .int 0]))] U.heap ∧ va_K (dC, dI) vwCl [] U ∧ va_D (fun _ => True) [(h0, .inr (0, [.ref am, .ref oM, .ref oS, .ref oK, .ref oL, .ref oD])), (oL, .inr (4, [.int 128, .int 0, .ref ap, .int 0, .int 0, .int 0, .int 0])), (oD, .inr (1, [.int 128, .int 0, .ref aw, .int 0, .int 0, .int 0, .int 0, .int 0, .int 0, .int 0]))])) (va_Qv (fun (u : Unit) => True) (fun (u : Unit) (t : State) => va_P (dC, dI) vwCl [(h0, .inr (0, [.ref am, .ref oM, .ref oS, .ref oK, .ref oL, .ref oD])), (oL, .inr (4, [.int 128, .int 0, .ref ap, .int 0, .int 0, .int 0, .int 0])), (oD, .inr (1, [.int 128, .int 0, .ref aw, .int 0, .int 0, .int 0, .int 0, .int 0, .int 0, .int 0]))] t.heap ∧ va_K (dC, dI) vwCl [] t ∧ va_D (va_A [(h0, .inr (0, [.ref am, .ref oM, .ref oS, .ref oK, .ref oL, .ref oD])), (oL, .inr (4, [.int 128, .int 0, .ref ap, .int 0, .int 0, .int 0, .int 0])), (oD, .inr (1, [.int 128, .int 0, .ref aw, .int 0, .int 0, .int 0, .int 0, .int 0, .int 0, .int 0]))] sz) [(h0, .inr (0, [.ref am, .ref oM, .ref oS, .ref oK, .ref oL, .ref oD])), (oL, .inr (4, [.int 128, .int 0, .ref ap, .int 0, .int 0, .int 0, .int 0])), (oD, .inr (1, [.int 128, .int 0, .ref aw, .int 0, .int 0, .int 0, .int 0, .int 0, .int 0, .int 0]))]) (va_A [(h0, .inr (0, [.ref am, .ref oM, .ref oS, .ref oK, .ref oL, .ref oD])), (oL, .inr (4, [.int 128, .int 0, .ref ap, .int 0, .int 0, .int 0, .int 0])), (oD, .inr (1, [.int 128, .int 0, .ref aw, .int 0, .int 0, .int 0, .int 0, .int 0, .int 0, .int 0]))] sz)) 0 0 (va_A [(h0, .inr (0, [.ref am, .ref oM, .ref oS, .ref oK, .ref oL, .ref oD])), (oL, .inr (4, [.int 128, .int 0, .ref ap, .int 0, .int 0, .int 0, .int 0])), (oD, .inr (1, [.int 128, .int 0, .ref aw, .int 0, .int 0, .int 0, .int 0, .int 0, .int 0, .int 0]))] sz) := by
  refine Met.ofW (cc := cX0_goOn) (maxL := 1) (ret := none) (by decide) rfl ?_
  intro p e s m args below meth c s₁ B hml hv
  obtain ⟨rfl, hsz, hP, hK, hD0⟩ := hv
  have hx := B.exec
  have hb := B.bytes
  have hr := B.returns
  have hts := atoms_spec (ws := wsX0_goOn) B.pre
  have hown : s.vm.findClass RX0 = some m.cls := findClass_of_methodNamed B.named
  have hlocks := B.notSynchronized
  have hD := hD0.self (sz := sz)
  generalize hAe : va_A [(h0, .inr (0, [.ref am, .ref oM, .ref oS, .ref oK, .ref oL, .ref oD])), (oL, .inr (4, [.int 128, .int 0, .ref ap, .int 0, .int 0, .int 0, .int 0])), (oD, .inr (1, [.int 128, .int 0, .ref aw, .int 0, .int 0, .int 0, .int 0, .int 0, .int 0, .int 0]))] sz = A at hD ⊢
  have hA : ∀ q : Nat, s.heap.size ≤ q → A q := fun q h => by rw [← hAe]; exact Or.inr (by omega)
  have hS0 : ∀ G : Heap, s.heap = G → va_S A s.heap G [] := fun G h => by subst h; exact va_S.rf
  generalize hHe : s.heap = H at hP ⊢
  have hS := hS0 H hHe
  have hP : va_P (dC, dI) vwCl [(h0, .inr (0, [.ref am, .ref oM, .ref oS, .ref oK, .ref oL, .ref oD])), (oL, .inr (4, [.int 128, .int 0, .ref ap, .int 0, .int 0, .int 0, .int 0])), (oD, .inr (1, [.int 128, .int 0, .ref aw, .int 0, .int 0, .int 0, .int 0, .int 0, .int 0, .int 0]))] H := hP
  have hD : va_D A [(h0, .inr (0, [.ref am, .ref oM, .ref oS, .ref oK, .ref oL, .ref oD])), (oL, .inr (4, [.int 128, .int 0, .ref ap, .int 0, .int 0, .int 0, .int 0])), (oD, .inr (1, [.int 128, .int 0, .ref aw, .int 0, .int 0, .int 0, .int 0, .int 0, .int 0, .int 0]))] := hD
  have hK : va_K (dC, dI) vwCl [] s := hK
  have hl := lv_entry ([.ref h0]) (n := 1) (Nat.le_of_ble_eq_true rfl)
  rw [lg_entry_eq]
  generalize (lg_sl ([.ref h0]) ++ List.replicate (1 - (lg_sl ([.ref h0])).length) Slot.unset).toArray = ls at hl ⊢
  have hl : lv_has ls 1 [(0, .ref h0)] := hl
  refine lv_aload_n hx hb dX0_goOn_0 rfl (lv_at hl 0 rfl) ?_
  refine va_get (D := (dC, dI)) (ci := 0) (v := .ref oL) (C := RX0) (T := TX0) (N := 6) hx hb hts (by decide +kernel) hown hK hP 0 rfl rfl 4 (by decide) (hts (.fieldLink RX0 37 "UnibusMachine$Bus" "printer" "LUnibusMachine$Printer;") (by decide +kernel)) (fun _ h9 => h9) rfl dX0_goOn_1 ?_
  have hPc := hP.sub (ws' := [(oL, .inr (4, [.int 128, .int 0, .ref ap, .int 0, .int 0, .int 0, .int 0]))]) [1] rfl
  have hDc := hD.sub (ws' := [(oL, .inr (4, [.int 128, .int 0, .ref ap, .int 0, .int 0, .int 0, .int 0]))]) [1] (by decide) rfl
  have hKc := hK.sub (tys' := []) [] rfl
  have hFc := va_free (wc := [(oL, .inr (4, [.int 128, .int 0, .ref ap, .int 0, .int 0, .int 0, .int 0]))]) hD hS hA [1] rfl
  refine va_callv (va_runV (As := []) (rest := []) ⟨hx, hb, hml, hown, hts⟩ (c_goOnP l dC dI oL ap H.size) (cwV 0 hts gX0_goOn_X5_goOn rfl rfl rfl (by decide +kernel) ⟨Nat.le_of_ble_eq_true rfl, Nat.le_of_ble_eq_true rfl⟩) ⟨fun a U g mk q => by obtain ⟨q0, q1, qP, qK, qD⟩ := q; exact ⟨q0, q1, qP, va_K.moved (u := U) (U := U.calling g mk a) (Vm.Alike.refl U.vm) qK, qD⟩, va_recv hKc hPc (ci := 4) (q0 := 0) rfl rfl, fun U hU hW => ⟨rfl, by rw [hU], by rw [hU]; exact hPc, va_K.moved hW.alike hKc, hDc.weaken (fun _ _ _ _ => trivial)⟩⟩ rfl rfl hl.1 rfl (lv_room (Nat.le_of_ble_eq_true rfl)) dX0_goOn_4 ⟨Nat.le_of_ble_eq_true rfl, Nat.le_of_ble_eq_true rfl⟩) hS (fun q _ h => hFc q h) hFc (fun u2 t H1 locs ht hvm hw hB hz1 hk1 hS => ?_)
  obtain ⟨hP1, hK1, hD1⟩ := hB
  rw [ht] at hP1
  have hK1 := va_K.moved hvm.symm hK1
  try dsimp only at hw
  obtain ⟨hP, hD⟩ := va_join (wr := [(h0, .inr (0, [.ref am, .ref oM, .ref oS, .ref oK, .ref oL, .ref oD])), (oD, .inr (1, [.int 128, .int 0, .ref aw, .int 0, .int 0, .int 0, .int 0, .int 0, .int 0, .int 0]))]) (w1 := [(oL, .inr (4, [.int 128, .int 0, .ref ap, .int 0, .int 0, .int 0, .int 0]))]) hP hD [1] [0, 2] rfl rfl (by decide) (by decide) hk1 hFc hP1 hD1
  have hK := (hK.sub (tys' := []) [] rfl).app hK1
  generalize H1 = H at hP hS ⊢
  have hP : va_P (dC, dI) vwCl [(h0, .inr (0, [.ref am, .ref oM, .ref oS, .ref oK, .ref oL, .ref oD])), (oD, .inr (1, [.int 128, .int 0, .ref aw, .int 0, .int 0, .int 0, .int 0, .int 0, .int 0, .int 0])), (oL, .inr (4, [.int 128, .int 0, .ref ap, .int 0, .int 0, .int 0, .int 0]))] H := hP
  have hD : va_D A [(h0, .inr (0, [.ref am, .ref oM, .ref oS, .ref oK, .ref oL, .ref oD])), (oD, .inr (1, [.int 128, .int 0, .ref aw, .int 0, .int 0, .int 0, .int 0, .int 0, .int 0, .int 0])), (oL, .inr (4, [.int 128, .int 0, .ref ap, .int 0, .int 0, .int 0, .int 0]))] := hD
  have hK : va_K (dC, dI) vwCl [] s := hK
  refine W.widen (k := 0) (n := 0) (Nat.le_of_ble_eq_true rfl) (Nat.le_of_ble_eq_true rfl) ?_
  refine lv_aload_n hx hb dX0_goOn_7 rfl (lv_at hl 0 rfl) ?_
  refine va_get (D := (dC, dI)) (ci := 0) (v := .ref oD) (C := RX0) (T := TX0) (N := 6) hx hb hts (by decide +kernel) hown hK hP 0 rfl rfl 5 (by decide) (hts (.fieldLink RX0 44 "UnibusMachine$Bus" "drive" "LUnibusMachine$Drive;") (by decide +kernel)) (fun _ h9 => h9) rfl dX0_goOn_8 ?_
  refine lv_aload_n hx hb dX0_goOn_11 rfl (lv_at hl 0 rfl) ?_
  refine va_get (D := (dC, dI)) (ci := 0) (v := .ref am) (C := RX0) (T := TX0) (N := 6) hx hb hts (by decide +kernel) hown hK hP 0 rfl rfl 0 (by decide) (hts (.fieldLink RX0 9 "UnibusMachine$Bus" "memory" "[I") (by decide +kernel)) (fun _ h9 => h9) rfl dX0_goOn_12 ?_
  have hPc := hP.sub (ws' := [(oD, .inr (1, [.int 128, .int 0, .ref aw, .int 0, .int 0, .int 0, .int 0, .int 0, .int 0, .int 0]))]) [1] rfl
  have hDc := hD.sub (ws' := [(oD, .inr (1, [.int 128, .int 0, .ref aw, .int 0, .int 0, .int 0, .int 0, .int 0, .int 0, .int 0]))]) [1] (by decide) rfl
  have hKc := hK.sub (tys' := []) [] rfl
  have hFc := va_free (wc := [(oD, .inr (1, [.int 128, .int 0, .ref aw, .int 0, .int 0, .int 0, .int 0, .int 0, .int 0, .int 0]))]) hD hS hA [1] rfl
  refine va_callv (va_runV (As := [.ref am]) (rest := []) ⟨hx, hb, hml, hown, hts⟩ (c_goOnD l dC dI oD aw am H.size) (cwV 1 hts gX0_goOn_X1_goOn rfl rfl rfl (by decide +kernel) ⟨Nat.le_of_ble_eq_true rfl, Nat.le_of_ble_eq_true rfl⟩) ⟨fun a U g mk q => by obtain ⟨q0, q1, qP, qK, qD⟩ := q; exact ⟨q0, q1, qP, va_K.moved (u := U) (U := U.calling g mk a) (Vm.Alike.refl U.vm) qK, qD⟩, va_recv hKc hPc (ci := 1) (q0 := 0) rfl rfl, fun U hU hW => ⟨rfl, by rw [hU], by rw [hU]; exact hPc, va_K.moved hW.alike hKc, hDc.weaken (fun _ _ _ _ => trivial)⟩⟩ rfl rfl hl.1 rfl (lv_room (Nat.le_of_ble_eq_true rfl)) dX0_goOn_15 ⟨Nat.le_of_ble_eq_true rfl, Nat.le_of_ble_eq_true rfl⟩) hS (fun q _ h => hFc q h) hFc (fun u4 t H1 locs ht hvm hw hB hz1 hk1 hS => ?_)
  obtain ⟨hP1, hK1, hD1⟩ := hB
  rw [ht] at hP1
  have hK1 := va_K.moved hvm.symm hK1
  try dsimp only at hw
  obtain ⟨hP, hD⟩ := va_join (wr := [(h0, .inr (0, [.ref am, .ref oM, .ref oS, .ref oK, .ref oL, .ref oD])), (oL, .inr (4, [.int 128, .int 0, .ref ap, .int 0, .int 0, .int 0, .int 0]))]) (w1 := [(oD, .inr (1, [.int 128, .int 0, .ref aw, .int 0, .int 0, .int 0, .int 0, .int 0, .int 0, .int 0]))]) hP hD [1] [0, 2] rfl rfl (by decide) (by decide) hk1 hFc hP1 hD1
  have hK := (hK.sub (tys' := []) [] rfl).app hK1
  generalize H1 = H at hP hS ⊢
  have hP : va_P (dC, dI) vwCl [(h0, .inr (0, [.ref am, .ref oM, .ref oS, .ref oK, .ref oL, .ref oD])), (oL, .inr (4, [.int 128, .int 0, .ref ap, .int 0, .int 0, .int 0, .int 0])), (oD, .inr (1, [.int 128, .int 0, .ref aw, .int 0, .int 0, .int 0, .int 0, .int 0, .int 0, .int 0]))] H := hP
  have hD : va_D A [(h0, .inr (0, [.ref am, .ref oM, .ref oS, .ref oK, .ref oL, .ref oD])), (oL, .inr (4, [.int 128, .int 0, .ref ap, .int 0, .int 0, .int 0, .int 0])), (oD, .inr (1, [.int 128, .int 0, .ref aw, .int 0, .int 0, .int 0, .int 0, .int 0, .int 0, .int 0]))] := hD
  have hK : va_K (dC, dI) vwCl [] s := hK
  refine W.widen (k := 0) (n := 0) (Nat.le_of_ble_eq_true rfl) (Nat.le_of_ble_eq_true rfl) ?_
  have hP9 := hP.sub (ws' := [(h0, .inr (0, [.ref am, .ref oM, .ref oS, .ref oK, .ref oL, .ref oD])), (oL, .inr (4, [.int 128, .int 0, .ref ap, .int 0, .int 0, .int 0, .int 0])), (oD, .inr (1, [.int 128, .int 0, .ref aw, .int 0, .int 0, .int 0, .int 0, .int 0, .int 0, .int 0]))]) [0, 1, 2] rfl
  have hD9 := hD.sub (ws' := [(h0, .inr (0, [.ref am, .ref oM, .ref oS, .ref oK, .ref oL, .ref oD])), (oL, .inr (4, [.int 128, .int 0, .ref ap, .int 0, .int 0, .int 0, .int 0])), (oD, .inr (1, [.int 128, .int 0, .ref aw, .int 0, .int 0, .int 0, .int 0, .int 0, .int 0, .int 0]))]) [0, 1, 2] (by decide) rfl
  have hK9 := hK.sub (tys' := []) [] rfl
  exact W.vret hx hb hr (fun t ht hW => ⟨⟨(), rfl, trivial, by rw [ht]; exact hP9, va_K.moved hW.alike hK9, hD9⟩, hS.F ht⟩) hS.2.2 dX0_goOn_18
set_option maxHeartbeats 4000000 in
set_option maxRecDepth 100000 in
theorem c_look (l : Launch) (dC : Nat → ClassId) (dI : Nat → Nat → Nat) (h0 : Nat) (ar : Nat) (oB : Nat) (oS : Nat) (ve : Int32) (am : Nat) (oM : Nat) (oK : Nat) (oL : Nat) (oD : Nat) (ap : Nat) (aw : Nat) (sz : Nat) : Met l yX6_lookForInterrupt wsX6_lookForInterrupt ({ frames := 0, cells := 0, slots := 0, locals := 0 } : Room) (va_Pc [.ref h0] (fun U => U.heap.size = sz ∧ va_P (dC, dI) vwCl [(h0, .inr (5, [.ref ar, .ref oB, .ref oS, .int 0, .int 0, .int 0, .int ve, .int 0, .int 0])), (oB, .inr (0, [.ref am, .ref oM, .ref oS, .ref oK, .ref oL, .ref oD])), (oS, .inr (6, [.int 224, .int (-1)])), (oD, .inr (1, [.int 128, .int 0, .ref aw, .int 0, .int 0, .int 0, .int 0, .int 0, .int 0, .int 0])), (oK, .inr (2, [.int 0, .int 0, .int 0])), (oL, .inr (4, [.int 128, .int 0, .ref ap, .int 0, .int 0, .int 0, .int 0]))] U.heap ∧ va_K (dC, dI) vwCl [] U ∧ va_D (fun _ => True) [(h0, .inr (5, [.ref ar, .ref oB, .ref oS, .int 0, .int 0, .int 0, .int ve, .int 0, .int 0])), (oB, .inr (0, [.ref am, .ref oM, .ref oS, .ref oK, .ref oL, .ref oD])), (oS, .inr (6, [.int 224, .int (-1)])), (oD, .inr (1, [.int 128, .int 0, .ref aw, .int 0, .int 0, .int 0, .int 0, .int 0, .int 0, .int 0])), (oK, .inr (2, [.int 0, .int 0, .int 0])), (oL, .inr (4, [.int 128, .int 0, .ref ap, .int 0, .int 0, .int 0, .int 0]))])) (va_Qv (fun (u : Unit) => True) (fun (u : Unit) (t : State) => va_P (dC, dI) vwCl [(h0, .inr (5, [.ref ar, .ref oB, .ref oS, .int 0, .int 0, .int 0, .int ve, .int 0, .int 0])), (oB, .inr (0, [.ref am, .ref oM, .ref oS, .ref oK, .ref oL, .ref oD])), (oS, .inr (6, [.int 224, .int (-1)])), (oD, .inr (1, [.int 128, .int 0, .ref aw, .int 0, .int 0, .int 0, .int 0, .int 0, .int 0, .int 0])), (oK, .inr (2, [.int 0, .int 0, .int 0])), (oL, .inr (4, [.int 128, .int 0, .ref ap, .int 0, .int 0, .int 0, .int 0]))] t.heap ∧ va_K (dC, dI) vwCl [] t ∧ va_D (va_A [(h0, .inr (5, [.ref ar, .ref oB, .ref oS, .int 0, .int 0, .int 0, .int ve, .int 0, .int 0])), (oB, .inr (0, [.ref am, .ref oM, .ref oS, .ref oK, .ref oL, .ref oD])), (oS, .inr (6, [.int 224, .int (-1)])), (oD, .inr (1, [.int 128, .int 0, .ref aw, .int 0, .int 0, .int 0, .int 0, .int 0, .int 0, .int 0])), (oK, .inr (2, [.int 0, .int 0, .int 0])), (oL, .inr (4, [.int 128, .int 0, .ref ap, .int 0, .int 0, .int 0, .int 0]))] sz) [(h0, .inr (5, [.ref ar, .ref oB, .ref oS, .int 0, .int 0, .int 0, .int ve, .int 0, .int 0])), (oB, .inr (0, [.ref am, .ref oM, .ref oS, .ref oK, .ref oL, .ref oD])), (oS, .inr (6, [.int 224, .int (-1)])), (oD, .inr (1, [.int 128, .int 0, .ref aw, .int 0, .int 0, .int 0, .int 0, .int 0, .int 0, .int 0])), (oK, .inr (2, [.int 0, .int 0, .int 0])), (oL, .inr (4, [.int 128, .int 0, .ref ap, .int 0, .int 0, .int 0, .int 0]))]) (va_A [(h0, .inr (5, [.ref ar, .ref oB, .ref oS, .int 0, .int 0, .int 0, .int ve, .int 0, .int 0])), (oB, .inr (0, [.ref am, .ref oM, .ref oS, .ref oK, .ref oL, .ref oD])), (oS, .inr (6, [.int 224, .int (-1)])), (oD, .inr (1, [.int 128, .int 0, .ref aw, .int 0, .int 0, .int 0, .int 0, .int 0, .int 0, .int 0])), (oK, .inr (2, [.int 0, .int 0, .int 0])), (oL, .inr (4, [.int 128, .int 0, .ref ap, .int 0, .int 0, .int 0, .int 0]))] sz)) 0 0 (va_A [(h0, .inr (5, [.ref ar, .ref oB, .ref oS, .int 0, .int 0, .int 0, .int ve, .int 0, .int 0])), (oB, .inr (0, [.ref am, .ref oM, .ref oS, .ref oK, .ref oL, .ref oD])), (oS, .inr (6, [.int 224, .int (-1)])), (oD, .inr (1, [.int 128, .int 0, .ref aw, .int 0, .int 0, .int 0, .int 0, .int 0, .int 0, .int 0])), (oK, .inr (2, [.int 0, .int 0, .int 0])), (oL, .inr (4, [.int 128, .int 0, .ref ap, .int 0, .int 0, .int 0, .int 0]))] sz) := by
  refine Met.ofW (cc := cX6_lookForInterrupt) (maxL := 4) (ret := none) (by decide) rfl ?_
  intro p e s m args below meth c s₁ B hml hv
  obtain ⟨rfl, hsz, hP, hK, hD0⟩ := hv
  have hx := B.exec
  have hb := B.bytes
  have hr := B.returns
  have hts := atoms_spec (ws := wsX6_lookForInterrupt) B.pre
  have hown : s.vm.findClass RX6 = some m.cls := findClass_of_methodNamed B.named
  have hlocks := B.notSynchronized
  have hD := hD0.self (sz := sz)
  generalize hAe : va_A [(h0, .inr (5, [.ref ar, .ref oB, .ref oS, .int 0, .int 0, .int 0, .int ve, .int 0, .int 0])), (oB, .inr (0, [.ref am, .ref oM, .ref oS, .ref oK, .ref oL, .ref oD])), (oS, .inr (6, [.int 224, .int (-1)])), (oD, .inr (1, [.int 128, .int 0, .ref aw, .int 0, .int 0, .int 0, .int 0, .int 0, .int 0, .int 0])), (oK, .inr (2, [.int 0, .int 0, .int 0])), (oL, .inr (4, [.int 128, .int 0, .ref ap, .int 0, .int 0, .int 0, .int 0]))] sz = A at hD ⊢
  have hA : ∀ q : Nat, s.heap.size ≤ q → A q := fun q h => by rw [← hAe]; exact Or.inr (by omega)
  have hS0 : ∀ G : Heap, s.heap = G → va_S A s.heap G [] := fun G h => by subst h; exact va_S.rf
  generalize hHe : s.heap = H at hP ⊢
  have hS := hS0 H hHe
  have hP : va_P (dC, dI) vwCl [(h0, .inr (5, [.ref ar, .ref oB, .ref oS, .int 0, .int 0, .int 0, .int ve, .int 0, .int 0])), (oB, .inr (0, [.ref am, .ref oM, .ref oS, .ref oK, .ref oL, .ref oD])), (oS, .inr (6, [.int 224, .int (-1)])), (oD, .inr (1, [.int 128, .int 0, .ref aw, .int 0, .int 0, .int 0, .int 0, .int 0, .int 0, .int 0])), (oK, .inr (2, [.int 0, .int 0, .int 0])), (oL, .inr (4, [.int 128, .int 0, .ref ap, .int 0, .int 0, .int 0, .int 0]))] H := hP
  have hD : va_D A [(h0, .inr (5, [.ref ar, .ref oB, .ref oS, .int 0, .int 0, .int 0, .int ve, .int 0, .int 0])), (oB, .inr (0, [.ref am, .ref oM, .ref oS, .ref oK, .ref oL, .ref oD])), (oS, .inr (6, [.int 224, .int (-1)])), (oD, .inr (1, [.int 128, .int 0, .ref aw, .int 0, .int 0, .int 0, .int 0, .int 0, .int 0, .int 0])), (oK, .inr (2, [.int 0, .int 0, .int 0])), (oL, .inr (4, [.int 128, .int 0, .ref ap, .int 0, .int 0, .int 0, .int 0]))] := hD
  have hK : va_K (dC, dI) vwCl [] s := hK
  have hl := lv_entry ([.ref h0]) (n := 4) (Nat.le_of_ble_eq_true rfl)
  rw [lg_entry_eq]
  generalize (lg_sl ([.ref h0]) ++ List.replicate (4 - (lg_sl ([.ref h0])).length) Slot.unset).toArray = ls at hl ⊢
  have hl : lv_has ls 4 [(0, .ref h0)] := hl
  refine lv_aload_n hx hb dX6_lookForInterrupt_0 rfl (lv_at hl 0 rfl) ?_
  refine va_get (D := (dC, dI)) (ci := 5) (v := .ref oS) (C := RX6) (T := TX6) (N := 9) hx hb hts (by decide +kernel) hown hK hP 0 rfl rfl 2 (by decide) (hts (.fieldLink RX6 43 "UnibusMachine$Processor" "status" "LUnibusMachine$Status;") (by decide +kernel)) (fun _ h9 => h9) rfl dX6_lookForInterrupt_1 ?_
  refine va_get (D := (dC, dI)) (ci := 6) (v := .int 224) (C := RX7) (T := TX7) (N := 2) hx hb hts (by decide +kernel) hown hK hP 2 rfl rfl 0 (by decide) (hts (.fieldLink RX6 44 "UnibusMachine$Status" "now" "I") (by decide +kernel)) (fun _ h9 => h9) rfl dX6_lookForInterrupt_4 ?_
  refine lv_iconst (v := 5) hx hb dX6_lookForInterrupt_7 (by decide) ?_
  refine lv_ishr hx hb dX6_lookForInterrupt_8 ?_
  refine lv_topi (fun y1 ey1 => ?_)
  obtain rfl : y1 = 7 := by rw [ey1]; decide
  refine lv_bipush (v := 7) hx hb dX6_lookForInterrupt_9 (by decide) ?_
  refine lv_iand hx hb dX6_lookForInterrupt_11 ?_
  refine lv_topi (fun y2 ey2 => ?_)
  obtain rfl : y2 = 7 := by rw [ey2]; decide
  refine lv_istore_n (lv' := [(1, .int 7), (0, .ref h0)]) hx hb dX6_lookForInterrupt_12 rfl hl (by decide) rfl (fun ls hl => ?_)
  refine lv_aload_n hx hb dX6_lookForInterrupt_13 rfl (lv_at hl 1 rfl) ?_
  refine va_get (D := (dC, dI)) (ci := 5) (v := .ref oB) (C := RX6) (T := TX6) (N := 9) hx hb hts (by decide +kernel) hown hK hP 0 rfl rfl 1 (by decide) (hts (.fieldLink RX6 33 "UnibusMachine$Processor" "bus" "LUnibusMachine$Bus;") (by decide +kernel)) (fun _ h9 => h9) rfl dX6_lookForInterrupt_14 ?_
  refine va_get (D := (dC, dI)) (ci := 0) (v := .ref oD) (C := RX0) (T := TX0) (N := 6) hx hb hts (by decide +kernel) hown hK hP 1 rfl rfl 5 (by decide) (hts (.fieldLink RX6 79 "UnibusMachine$Bus" "drive" "LUnibusMachine$Drive;") (by decide +kernel)) (fun _ h9 => h9) rfl dX6_lookForInterrupt_17 ?_
  refine va_get (D := (dC, dI)) (ci := 1) (v := .int 0) (C := RX1) (T := TX1) (N := 10) hx hb hts (by decide +kernel) hown hK hP 3 rfl rfl 1 (by decide) (hts (.fieldLink RX6 83 "UnibusMachine$Drive" "wanting" "Z") (by decide +kernel)) (u_same (hts (.sameField "UnibusMachine$Drive" "UnibusMachine$Line" "wanting" "Z") (by decide +kernel))) rfl dX6_lookForInterrupt_20 ?_
  refine lv_if_eq (tgt := 46) hx hb dX6_lookForInterrupt_23 (by decide) (fun c3 => ?_) (fun c3 => ?_)
  · skip
    refine lv_aload_n hx hb dX6_lookForInterrupt_46 rfl (lv_at hl 1 rfl) ?_
    refine va_get (D := (dC, dI)) (ci := 5) (v := .ref oB) (C := RX6) (T := TX6) (N := 9) hx hb hts (by decide +kernel) hown hK hP 0 rfl rfl 1 (by decide) (hts (.fieldLink RX6 33 "UnibusMachine$Processor" "bus" "LUnibusMachine$Bus;") (by decide +kernel)) (fun _ h9 => h9) rfl dX6_lookForInterrupt_47 ?_
    refine va_get (D := (dC, dI)) (ci := 0) (v := .ref oK) (C := RX0) (T := TX0) (N := 6) hx hb hts (by decide +kernel) hown hK hP 1 rfl rfl 3 (by decide) (hts (.fieldLink RX6 88 "UnibusMachine$Bus" "keyboard" "LUnibusMachine$Keyboard;") (by decide +kernel)) (fun _ h9 => h9) rfl dX6_lookForInterrupt_50 ?_
    refine va_get (D := (dC, dI)) (ci := 2) (v := .int 0) (C := RX2) (T := TX2) (N := 3) hx hb hts (by decide +kernel) hown hK hP 4 rfl rfl 1 (by decide) (hts (.fieldLink RX6 92 "UnibusMachine$Keyboard" "wanting" "Z") (by decide +kernel)) (u_same (hts (.sameField "UnibusMachine$Keyboard" "UnibusMachine$Line" "wanting" "Z") (by decide +kernel))) rfl dX6_lookForInterrupt_53 ?_
    refine lv_if_eq (tgt := 78) hx hb dX6_lookForInterrupt_56 (by decide) (fun c4 => ?_) (fun c4 => ?_)
    · skip
      refine lv_aload_n hx hb dX6_lookForInterrupt_78 rfl (lv_at hl 1 rfl) ?_
      refine va_get (D := (dC, dI)) (ci := 5) (v := .ref oB) (C := RX6) (T := TX6) (N := 9) hx hb hts (by decide +kernel) hown hK hP 0 rfl rfl 1 (by decide) (hts (.fieldLink RX6 33 "UnibusMachine$Processor" "bus" "LUnibusMachine$Bus;") (by decide +kernel)) (fun _ h9 => h9) rfl dX6_lookForInterrupt_79 ?_
      refine va_get (D := (dC, dI)) (ci := 0) (v := .ref oL) (C := RX0) (T := TX0) (N := 6) hx hb hts (by decide +kernel) hown hK hP 1 rfl rfl 4 (by decide) (hts (.fieldLink RX6 95 "UnibusMachine$Bus" "printer" "LUnibusMachine$Printer;") (by decide +kernel)) (fun _ h9 => h9) rfl dX6_lookForInterrupt_82 ?_
      refine va_get (D := (dC, dI)) (ci := 4) (v := .int 0) (C := RX5) (T := TX5) (N := 7) hx hb hts (by decide +kernel) hown hK hP 5 rfl rfl 1 (by decide) (hts (.fieldLink RX6 99 "UnibusMachine$Printer" "wanting" "Z") (by decide +kernel)) (u_same (hts (.sameField "UnibusMachine$Printer" "UnibusMachine$Line" "wanting" "Z") (by decide +kernel))) rfl dX6_lookForInterrupt_85 ?_
      refine lv_if_eq (tgt := 110) hx hb dX6_lookForInterrupt_88 (by decide) (fun c5 => ?_) (fun c5 => ?_)
      · skip
        have hP9 := hP.sub (ws' := [(h0, .inr (5, [.ref ar, .ref oB, .ref oS, .int 0, .int 0, .int 0, .int ve, .int 0, .int 0])), (oB, .inr (0, [.ref am, .ref oM, .ref oS, .ref oK, .ref oL, .ref oD])), (oS, .inr (6, [.int 224, .int (-1)])), (oD, .inr (1, [.int 128, .int 0, .ref aw, .int 0, .int 0, .int 0, .int 0, .int 0, .int 0, .int 0])), (oK, .inr (2, [.int 0, .int 0, .int 0])), (oL, .inr (4, [.int 128, .int 0, .ref ap, .int 0, .int 0, .int 0, .int 0]))]) [0, 1, 2, 3, 4, 5] rfl
        have hD9 := hD.sub (ws' := [(h0, .inr (5, [.ref ar, .ref oB, .ref oS, .int 0, .int 0, .int 0, .int ve, .int 0, .int 0])), (oB, .inr (0, [.ref am, .ref oM, .ref oS, .ref oK, .ref oL, .ref oD])), (oS, .inr (6, [.int 224, .int (-1)])), (oD, .inr (1, [.int 128, .int 0, .ref aw, .int 0, .int 0, .int 0, .int 0, .int 0, .int 0, .int 0])), (oK, .inr (2, [.int 0, .int 0, .int 0])), (oL, .inr (4, [.int 128, .int 0, .ref ap, .int 0, .int 0, .int 0, .int 0]))]) [0, 1, 2, 3, 4, 5] (by decide) rfl
        have hK9 := hK.sub (tys' := []) [] rfl
        exact W.vret hx hb hr (fun t ht hW => ⟨⟨(), rfl, trivial, by rw [ht]; exact hP9, va_K.moved hW.alike hK9, hD9⟩, hS.F ht⟩) hS.2.2 dX6_lookForInterrupt_110
      · exact absurd c5 (by decide)
    · exact absurd c4 (by decide)
  · exact absurd c3 (by decide)
set_option maxHeartbeats 4000000 in
set_option maxRecDepth 100000 in
theorem c_perform (l : Launch) (dC : Nat → ClassId) (dI : Nat → Nat → Nat) (h0 : Nat) (ar : Nat) (oB : Nat) (oS : Nat) (ve : Int32) (am : Nat) (oM : Nat) (oK : Nat) (oL : Nat) (oD : Nat) (ad : Nat) (ab : Nat) (tm : ClassId) (f : Nat → Int32) (tr : ClassId) (g : Nat → Int32) (z : Int) (ap : Nat) (aw : Nat) (sz : Nat) (hlt : l.stackTraces = false) (hF0 : f (2 : Int32).toNatClampNeg = 1) (hF1 : f (3 : Int32).toNatClampNeg = 224) (hF2 : g (7 : Int32).toNatClampNeg = 1) (hF3 : (g (6 : Int32).toNatClampNeg).toInt = z) (hH4 : 170 ≤ z) (hH5 : z ≤ 1024) (hH6 : z % 2 = 0) : Met l yX6_perform wsX6_perform ({ frames := 8, cells := 1, slots := 6, locals := 150 } : Room) (va_Pc [.ref h0] (fun U => U.heap.size = sz ∧ va_P (dC, dI) vwCl [(h0, .inr (5, [.ref ar, .ref oB, .ref oS, .int 0, .int 0, .int 0, .int ve, .int 0, .int 0])), (oB, .inr (0, [.ref am, .ref oM, .ref oS, .ref oK, .ref oL, .ref oD])), (oS, .inr (6, [.int 224, .int (-1)])), (oM, .inr (3, [.ref ad, .ref ab, .int 0])), (am, .inl (tm, 512, .inl f)), (ar, .inl (tr, 8, .inl g)), (oL, .inr (4, [.int 128, .int 0, .ref ap, .int 0, .int 0, .int 0, .int 0])), (oD, .inr (1, [.int 128, .int 0, .ref aw, .int 0, .int 0, .int 0, .int 0, .int 0, .int 0, .int 0]))] U.heap ∧ va_K (dC, dI) vwCl [(tm, .int), (tr, .int)] U ∧ va_D (fun _ => True) [(h0, .inr (5, [.ref ar, .ref oB, .ref oS, .int 0, .int 0, .int 0, .int ve, .int 0, .int 0])), (oB, .inr (0, [.ref am, .ref oM, .ref oS, .ref oK, .ref oL, .ref oD])), (oS, .inr (6, [.int 224, .int (-1)])), (oM, .inr (3, [.ref ad, .ref ab, .int 0])), (am, .inl (tm, 512, .inl f)), (ar, .inl (tr, 8, .inl g)), (oL, .inr (4, [.int 128, .int 0, .ref ap, .int 0, .int 0, .int 0, .int 0])), (oD, .inr (1, [.int 128, .int 0, .ref aw, .int 0, .int 0, .int 0, .int 0, .int 0, .int 0, .int 0]))] ∧ vx_Zq Bundle.tN "UNASSIGNED_STACK" Bundle.steD (va_A [(h0, .inr (5, [.ref ar, .ref oB, .ref oS, .int 0, .int 0, .int 0, .int ve, .int 0, .int 0])), (oB, .inr (0, [.ref am, .ref oM, .ref oS, .ref oK, .ref oL, .ref oD])), (oS, .inr (6, [.int 224, .int (-1)])), (oM, .inr (3, [.ref ad, .ref ab, .int 0])), (am, .inl (tm, 512, .inl f)), (ar, .inl (tr, 8, .inl g)), (oL, .inr (4, [.int 128, .int 0, .ref ap, .int 0, .int 0, .int 0, .int 0])), (oD, .inr (1, [.int 128, .int 0, .ref aw, .int 0, .int 0, .int 0, .int 0, .int 0, .int 0, .int 0]))] sz) U U.heap ∧ vx_Zq Bundle.tN "SUPPRESSED_SENTINEL" Bundle.listD (va_A [(h0, .inr (5, [.ref ar, .ref oB, .ref oS, .int 0, .int 0, .int 0, .int ve, .int 0, .int 0])), (oB, .inr (0, [.ref am, .ref oM, .ref oS, .ref oK, .ref oL, .ref oD])), (oS, .inr (6, [.int 224, .int (-1)])), (oM, .inr (3, [.ref ad, .ref ab, .int 0])), (am, .inl (tm, 512, .inl f)), (ar, .inl (tr, 8, .inl g)), (oL, .inr (4, [.int 128, .int 0, .ref ap, .int 0, .int 0, .int 0, .int 0])), (oD, .inr (1, [.int 128, .int 0, .ref aw, .int 0, .int 0, .int 0, .int 0, .int 0, .int 0, .int 0]))] sz) U U.heap ∧ va_Nw (.declares (Bundle.init0 "java/lang/RuntimeException")) U ∧ va_Nw (.declares (Bundle.init0 "java/lang/Exception")) U ∧ va_Nw (.declares (Bundle.init0 Bundle.tN)) U ∧ va_Nw (.castable "java/lang/UnsupportedOperationException" "java/lang/UnsupportedOperationException") U)) (va_Qv (fun (u : (Nat → Int32) × (Nat → Int32)) => (u.1 (2 : Int32).toNatClampNeg = 1) ∧ (u.1 (3 : Int32).toNatClampNeg = 224) ∧ (u.2 (7 : Int32).toNatClampNeg = 1) ∧ ((u.2 (6 : Int32).toNatClampNeg).toInt = z - 4)) (fun (u : (Nat → Int32) × (Nat → Int32)) (t : State) => va_P (dC, dI) vwCl [(h0, .inr (5, [.ref ar, .ref oB, .ref oS, .int 0, .int 0, .int 0, .int 4, .int 0, .int 0])), (oB, .inr (0, [.ref am, .ref oM, .ref oS, .ref oK, .ref oL, .ref oD])), (oS, .inr (6, [.int 224, .int (-1)])), (oM, .inr (3, [.ref ad, .ref ab, .int 0])), (am, .inl (tm, 512, .inl u.1)), (ar, .inl (tr, 8, .inl u.2)), (oL, .inr (4, [.int 128, .int 0, .ref ap, .int 0, .int 0, .int 0, .int 0])), (oD, .inr (1, [.int 128, .int 0, .ref aw, .int 0, .int 0, .int 0, .int 0, .int 0, .int 0, .int 0]))] t.heap ∧ va_K (dC, dI) vwCl [(tm, .int), (tr, .int)] t ∧ va_D (va_A [(h0, .inr (5, [.ref ar, .ref oB, .ref oS, .int 0, .int 0, .int 0, .int ve, .int 0, .int 0])), (oB, .inr (0, [.ref am, .ref oM, .ref oS, .ref oK, .ref oL, .ref oD])), (oS, .inr (6, [.int 224, .int (-1)])), (oM, .inr (3, [.ref ad, .ref ab, .int 0])), (am, .inl (tm, 512, .inl f)), (ar, .inl (tr, 8, .inl g)), (oL, .inr (4, [.int 128, .int 0, .ref ap, .int 0, .int 0, .int 0, .int 0])), (oD, .inr (1, [.int 128, .int 0, .ref aw, .int 0, .int 0, .int 0, .int 0, .int 0, .int 0, .int 0]))] sz) [(h0, .inr (5, [.ref ar, .ref oB, .ref oS, .int 0, .int 0, .int 0, .int 4, .int 0, .int 0])), (oB, .inr (0, [.ref am, .ref oM, .ref oS, .ref oK, .ref oL, .ref oD])), (oS, .inr (6, [.int 224, .int (-1)])), (oM, .inr (3, [.ref ad, .ref ab, .int 0])), (am, .inl (tm, 512, .inl u.1)), (ar, .inl (tr, 8, .inl u.2)), (oL, .inr (4, [.int 128, .int 0, .ref ap, .int 0, .int 0, .int 0, .int 0])), (oD, .inr (1, [.int 128, .int 0, .ref aw, .int 0, .int 0, .int 0, .int 0, .int 0, .int 0, .int 0]))] ∧ sz + 1 ≤ t.heap.size) (va_A [(h0, .inr (5, [.ref ar, .ref oB, .ref oS, .int 0, .int 0, .int 0, .int ve, .int 0, .int 0])), (oB, .inr (0, [.ref am, .ref oM, .ref oS, .ref oK, .ref oL, .ref oD])), (oS, .inr (6, [.int 224, .int (-1)])), (oM, .inr (3, [.ref ad, .ref ab, .int 0])), (am, .inl (tm, 512, .inl f)), (ar, .inl (tr, 8, .inl g)), (oL, .inr (4, [.int 128, .int 0, .ref ap, .int 0, .int 0, .int 0, .int 0])), (oD, .inr (1, [.int 128, .int 0, .ref aw, .int 0, .int 0, .int 0, .int 0, .int 0, .int 0, .int 0]))] sz)) 1 6 (va_A [(h0, .inr (5, [.ref ar, .ref oB, .ref oS, .int 0, .int 0, .int 0, .int ve, .int 0, .int 0])), (oB, .inr (0, [.ref am, .ref oM, .ref oS, .ref oK, .ref oL, .ref oD])), (oS, .inr (6, [.int 224, .int (-1)])), (oM, .inr (3, [.ref ad, .ref ab, .int 0])), (am, .inl (tm, 512, .inl f)), (ar, .inl (tr, 8, .inl g)), (oL, .inr (4, [.int 128, .int 0, .ref ap, .int 0, .int 0, .int 0, .int 0])), (oD, .inr (1, [.int 128, .int 0, .ref aw, .int 0, .int 0, .int 0, .int 0, .int 0, .int 0, .int 0]))] sz) := by
  refine va_MetW (cc := cX6_perform) (maxL := 3) (ret := none) (by decide) rfl ?_
  intro p e s m args below meth c s₁ B hml hv
  obtain ⟨rfl, hsz, hP, hK, hD0, hZU, hZN, hd1, hd2, hd3, hcU⟩ := hv
  have hx := B.exec
  have hb := B.bytes
  have hr := B.returns
  have hts := atoms_spec (ws := wsX6_perform) B.pre
  have hown : s.vm.findClass RX6 = some m.cls := findClass_of_methodNamed B.named
  have hlocks := B.notSynchronized
  have htb := vx_table (x := yX6_perform) (y := yX6_perform) (bytes := cX6_perform) (maxL' := 3) (ret' := none) (hh := [(17, 57, 60, 65)]) B (hts _ List.mem_cons_self)
  have hD := hD0.self (sz := sz)
  generalize hAe : va_A [(h0, .inr (5, [.ref ar, .ref oB, .ref oS, .int 0, .int 0, .int 0, .int ve, .int 0, .int 0])), (oB, .inr (0, [.ref am, .ref oM, .ref oS, .ref oK, .ref oL, .ref oD])), (oS, .inr (6, [.int 224, .int (-1)])), (oM, .inr (3, [.ref ad, .ref ab, .int 0])), (am, .inl (tm, 512, .inl f)), (ar, .inl (tr, 8, .inl g)), (oL, .inr (4, [.int 128, .int 0, .ref ap, .int 0, .int 0, .int 0, .int 0])), (oD, .inr (1, [.int 128, .int 0, .ref aw, .int 0, .int 0, .int 0, .int 0, .int 0, .int 0, .int 0]))] sz = A at hD hZU hZN ⊢
  have hA : ∀ q : Nat, s.heap.size ≤ q → A q := fun q h => by rw [← hAe]; exact Or.inr (by omega)
  have hS0 : ∀ G : Heap, s.heap = G → va_S A s.heap G [] := fun G h => by subst h; exact va_S.rf
  generalize hHe : s.heap = H at hP ⊢
  have hS := hS0 H hHe
  have hP : va_P (dC, dI) vwCl [(h0, .inr (5, [.ref ar, .ref oB, .ref oS, .int 0, .int 0, .int 0, .int ve, .int 0, .int 0])), (oB, .inr (0, [.ref am, .ref oM, .ref oS, .ref oK, .ref oL, .ref oD])), (oS, .inr (6, [.int 224, .int (-1)])), (oM, .inr (3, [.ref ad, .ref ab, .int 0])), (am, .inl (tm, 512, .inl f)), (ar, .inl (tr, 8, .inl g)), (oL, .inr (4, [.int 128, .int 0, .ref ap, .int 0, .int 0, .int 0, .int 0])), (oD, .inr (1, [.int 128, .int 0, .ref aw, .int 0, .int 0, .int 0, .int 0, .int 0, .int 0, .int 0]))] H := hP
  have hD : va_D A [(h0, .inr (5, [.ref ar, .ref oB, .ref oS, .int 0, .int 0, .int 0, .int ve, .int 0, .int 0])), (oB, .inr (0, [.ref am, .ref oM, .ref oS, .ref oK, .ref oL, .ref oD])), (oS, .inr (6, [.int 224, .int (-1)])), (oM, .inr (3, [.ref ad, .ref ab, .int 0])), (am, .inl (tm, 512, .inl f)), (ar, .inl (tr, 8, .inl g)), (oL, .inr (4, [.int 128, .int 0, .ref ap, .int 0, .int 0, .int 0, .int 0])), (oD, .inr (1, [.int 128, .int 0, .ref aw, .int 0, .int 0, .int 0, .int 0, .int 0, .int 0, .int 0]))] := hD
  have hK : va_K (dC, dI) vwCl [(tm, .int), (tr, .int)] s := hK
  have hl := lv_entry ([.ref h0]) (n := 3) (Nat.le_of_ble_eq_true rfl)
  rw [lg_entry_eq]
  generalize (lg_sl ([.ref h0]) ++ List.replicate (3 - (lg_sl ([.ref h0])).length) Slot.unset).toArray = ls at hl ⊢
  have hl : lv_has ls 3 [(0, .ref h0)] := hl
  refine lv_aload_n hx hb dX6_perform_0 rfl (lv_at hl 0 rfl) ?_
  refine va_get (D := (dC, dI)) (ci := 5) (v := .ref oB) (C := RX6) (T := TX6) (N := 9) hx hb hts (by decide +kernel) hown hK hP 0 rfl rfl 1 (by decide) (hts (.fieldLink RX6 33 "UnibusMachine$Processor" "bus" "LUnibusMachine$Bus;") (by decide +kernel)) (fun _ h9 => h9) rfl dX6_perform_1 ?_
  have hPc := hP.sub (ws' := [(oB, .inr (0, [.ref am, .ref oM, .ref oS, .ref oK, .ref oL, .ref oD])), (oL, .inr (4, [.int 128, .int 0, .ref ap, .int 0, .int 0, .int 0, .int 0])), (oD, .inr (1, [.int 128, .int 0, .ref aw, .int 0, .int 0, .int 0, .int 0, .int 0, .int 0, .int 0]))]) [1, 6, 7] rfl
  have hDc := hD.sub (ws' := [(oB, .inr (0, [.ref am, .ref oM, .ref oS, .ref oK, .ref oL, .ref oD])), (oL, .inr (4, [.int 128, .int 0, .ref ap, .int 0, .int 0, .int 0, .int 0])), (oD, .inr (1, [.int 128, .int 0, .ref aw, .int 0, .int 0, .int 0, .int 0, .int 0, .int 0, .int 0]))]) [1, 6, 7] (by decide) rfl
  have hKc := hK.sub (tys' := []) [] rfl
  have hFc := va_free (wc := [(oB, .inr (0, [.ref am, .ref oM, .ref oS, .ref oK, .ref oL, .ref oD])), (oL, .inr (4, [.int 128, .int 0, .ref ap, .int 0, .int 0, .int 0, .int 0])), (oD, .inr (1, [.int 128, .int 0, .ref aw, .int 0, .int 0, .int 0, .int 0, .int 0, .int 0, .int 0]))]) hD hS hA [1, 6, 7] rfl
  refine va_callv (va_runV (As := []) (rest := []) ⟨hx, hb, hml, hown, hts⟩ (c_nextInstruction l dC dI oB am oM oS oK oL oD ap aw H.size) (cwV 0 hts gX6_perform_X0_nextInstruction rfl rfl rfl (by decide +kernel) ⟨Nat.le_of_ble_eq_true rfl, Nat.le_of_ble_eq_true rfl⟩) ⟨fun a U g mk q => by obtain ⟨q0, q1, qP, qK, qD⟩ := q; exact ⟨q0, q1, qP, va_K.moved (u := U) (U := U.calling g mk a) (Vm.Alike.refl U.vm) qK, qD⟩, va_recv hKc hPc (ci := 0) (q0 := 0) rfl rfl, fun U hU hW => ⟨rfl, by rw [hU], by rw [hU]; exact hPc, va_K.moved hW.alike hKc, hDc.weaken (fun _ _ _ _ => trivial)⟩⟩ rfl rfl hl.1 rfl (lv_room (Nat.le_of_ble_eq_true rfl)) dX6_perform_4 ⟨Nat.le_of_ble_eq_true rfl, Nat.le_of_ble_eq_true rfl⟩) hS (fun q _ h => hFc q h) hFc (fun u2 t H1 locs ht hvm hw hB hz1 hk1 hS => ?_)
  obtain ⟨hP1, hK1, hD1⟩ := hB
  rw [ht] at hP1
  have hK1 := va_K.moved hvm.symm hK1
  try dsimp only at hw
  obtain ⟨hP, hD⟩ := va_join (wr := [(h0, .inr (5, [.ref ar, .ref oB, .ref oS, .int 0, .int 0, .int 0, .int ve, .int 0, .int 0])), (oS, .inr (6, [.int 224, .int (-1)])), (oM, .inr (3, [.ref ad, .ref ab, .int 0])), (am, .inl (tm, 512, .inl f)), (ar, .inl (tr, 8, .inl g))]) (w1 := [(oB, .inr (0, [.ref am, .ref oM, .ref oS, .ref oK, .ref oL, .ref oD])), (oL, .inr (4, [.int 128, .int 0, .ref ap, .int 0, .int 0, .int 0, .int 0])), (oD, .inr (1, [.int 128, .int 0, .ref aw, .int 0, .int 0, .int 0, .int 0, .int 0, .int 0, .int 0]))]) hP hD [1, 6, 7] [0, 2, 3, 4, 5] rfl rfl (by decide) (by decide) hk1 hFc hP1 hD1
  have hK := (hK.sub (tys' := [(tm, .int), (tr, .int)]) [0, 1] rfl).app hK1
  generalize H1 = H at hP hS ⊢
  have hP : va_P (dC, dI) vwCl [(h0, .inr (5, [.ref ar, .ref oB, .ref oS, .int 0, .int 0, .int 0, .int ve, .int 0, .int 0])), (oS, .inr (6, [.int 224, .int (-1)])), (oM, .inr (3, [.ref ad, .ref ab, .int 0])), (am, .inl (tm, 512, .inl f)), (ar, .inl (tr, 8, .inl g)), (oB, .inr (0, [.ref am, .ref oM, .ref oS, .ref oK, .ref oL, .ref oD])), (oL, .inr (4, [.int 128, .int 0, .ref ap, .int 0, .int 0, .int 0, .int 0])), (oD, .inr (1, [.int 128, .int 0, .ref aw, .int 0, .int 0, .int 0, .int 0, .int 0, .int 0, .int 0]))] H := hP
  have hD : va_D A [(h0, .inr (5, [.ref ar, .ref oB, .ref oS, .int 0, .int 0, .int 0, .int ve, .int 0, .int 0])), (oS, .inr (6, [.int 224, .int (-1)])), (oM, .inr (3, [.ref ad, .ref ab, .int 0])), (am, .inl (tm, 512, .inl f)), (ar, .inl (tr, 8, .inl g)), (oB, .inr (0, [.ref am, .ref oM, .ref oS, .ref oK, .ref oL, .ref oD])), (oL, .inr (4, [.int 128, .int 0, .ref ap, .int 0, .int 0, .int 0, .int 0])), (oD, .inr (1, [.int 128, .int 0, .ref aw, .int 0, .int 0, .int 0, .int 0, .int 0, .int 0, .int 0]))] := hD
  have hK : va_K (dC, dI) vwCl [(tm, .int), (tr, .int)] s := hK
  refine W.widen (k := 0) (n := 0) (Nat.le_of_ble_eq_true rfl) (Nat.le_of_ble_eq_true rfl) ?_
  refine lv_aload_n hx hb dX6_perform_7 rfl (lv_at hl 0 rfl) ?_
  refine va_get (D := (dC, dI)) (ci := 5) (v := .int 0) (C := RX6) (T := TX6) (N := 9) hx hb hts (by decide +kernel) hown hK hP 0 rfl rfl 5 (by decide) (hts (.fieldLink RX6 20 "UnibusMachine$Processor" "waiting" "Z") (by decide +kernel)) (fun _ h9 => h9) rfl dX6_perform_8 ?_
  refine lv_if_eq (tgt := 15) hx hb dX6_perform_11 (by decide) (fun c3 => ?_) (fun c3 => ?_)
  · skip
    refine lv_iconst (v := 0) hx hb dX6_perform_15 (by decide) ?_
    refine lv_istore_n (lv' := [(1, .int 0), (0, .ref h0)]) hx hb dX6_perform_16 rfl hl (by decide) rfl (fun ls hl => ?_)
    refine lv_aload_n hx hb dX6_perform_17 rfl (lv_at hl 1 rfl) ?_
    refine lv_aload_n hx hb dX6_perform_18 rfl (lv_at hl 1 rfl) ?_
    have hPc := hP.sub (ws' := [(h0, .inr (5, [.ref ar, .ref oB, .ref oS, .int 0, .int 0, .int 0, .int ve, .int 0, .int 0])), (oS, .inr (6, [.int 224, .int (-1)]))]) [0, 1] rfl
    have hDc := hD.sub (ws' := [(h0, .inr (5, [.ref ar, .ref oB, .ref oS, .int 0, .int 0, .int 0, .int ve, .int 0, .int 0])), (oS, .inr (6, [.int 224, .int (-1)]))]) [0, 1] (by decide) rfl
    have hKc := hK.sub (tys' := []) [] rfl
    have hFc := va_free (wc := [(h0, .inr (5, [.ref ar, .ref oB, .ref oS, .int 0, .int 0, .int 0, .int ve, .int 0, .int 0])), (oS, .inr (6, [.int 224, .int (-1)]))]) hD hS hA [0, 1] rfl
    refine va_calli (va_runV (As := []) (rest := [.ref h0]) ⟨hx, hb, hml, hown, hts⟩ (c_mode l dC dI h0 ar oB oS ve H.size) (cwV 0 hts gX6_perform_X6_mode rfl rfl rfl (by decide +kernel) ⟨Nat.le_of_ble_eq_true rfl, Nat.le_of_ble_eq_true rfl⟩) ⟨fun a U g mk q => by obtain ⟨q0, q1, qP, qK, qD⟩ := q; exact ⟨q0, q1, qP, va_K.moved (u := U) (U := U.calling g mk a) (Vm.Alike.refl U.vm) qK, qD⟩, va_recv hKc hPc (ci := 5) (q0 := 0) rfl rfl, fun U hU hW => ⟨rfl, by rw [hU], by rw [hU]; exact hPc, va_K.moved hW.alike hKc, hDc.weaken (fun _ _ _ _ => trivial)⟩⟩ rfl rfl hl.1 rfl (lv_room (Nat.le_of_ble_eq_true rfl)) dX6_perform_19 ⟨Nat.le_of_ble_eq_true rfl, Nat.le_of_ble_eq_true rfl⟩) hS (fun q _ h => hFc q h) hFc (fun r4 u5 t H1 locs ht hvm hw hB hz1 hk1 hS => ?_)
    obtain ⟨hP1, hK1, hD1⟩ := hB
    rw [ht] at hP1
    have hK1 := va_K.moved hvm.symm hK1
    try dsimp only at hw
    obtain ⟨hP, hD⟩ := va_join (wr := [(oM, .inr (3, [.ref ad, .ref ab, .int 0])), (am, .inl (tm, 512, .inl f)), (ar, .inl (tr, 8, .inl g)), (oB, .inr (0, [.ref am, .ref oM, .ref oS, .ref oK, .ref oL, .ref oD])), (oL, .inr (4, [.int 128, .int 0, .ref ap, .int 0, .int 0, .int 0, .int 0])), (oD, .inr (1, [.int 128, .int 0, .ref aw, .int 0, .int 0, .int 0, .int 0, .int 0, .int 0, .int 0]))]) (w1 := [(h0, .inr (5, [.ref ar, .ref oB, .ref oS, .int 0, .int 0, .int 0, .int ve, .int 0, .int 0])), (oS, .inr (6, [.int 224, .int (-1)]))]) hP hD [0, 1] [2, 3, 4, 5, 6, 7] rfl rfl (by decide) (by decide) hk1 hFc hP1 hD1
    have hK := (hK.sub (tys' := [(tm, .int), (tr, .int)]) [0, 1] rfl).app hK1
    generalize H1 = H at hP hS ⊢
    have hP : va_P (dC, dI) vwCl [(oM, .inr (3, [.ref ad, .ref ab, .int 0])), (am, .inl (tm, 512, .inl f)), (ar, .inl (tr, 8, .inl g)), (oB, .inr (0, [.ref am, .ref oM, .ref oS, .ref oK, .ref oL, .ref oD])), (oL, .inr (4, [.int 128, .int 0, .ref ap, .int 0, .int 0, .int 0, .int 0])), (oD, .inr (1, [.int 128, .int 0, .ref aw, .int 0, .int 0, .int 0, .int 0, .int 0, .int 0, .int 0])), (h0, .inr (5, [.ref ar, .ref oB, .ref oS, .int 0, .int 0, .int 0, .int ve, .int 0, .int 0])), (oS, .inr (6, [.int 224, .int (-1)]))] H := hP
    have hD : va_D A [(oM, .inr (3, [.ref ad, .ref ab, .int 0])), (am, .inl (tm, 512, .inl f)), (ar, .inl (tr, 8, .inl g)), (oB, .inr (0, [.ref am, .ref oM, .ref oS, .ref oK, .ref oL, .ref oD])), (oL, .inr (4, [.int 128, .int 0, .ref ap, .int 0, .int 0, .int 0, .int 0])), (oD, .inr (1, [.int 128, .int 0, .ref aw, .int 0, .int 0, .int 0, .int 0, .int 0, .int 0, .int 0])), (h0, .inr (5, [.ref ar, .ref oB, .ref oS, .int 0, .int 0, .int 0, .int ve, .int 0, .int 0])), (oS, .inr (6, [.int 224, .int (-1)]))] := hD
    have hK : va_K (dC, dI) vwCl [(tm, .int), (tr, .int)] s := hK
    refine W.widen (k := 0) (n := 0) (Nat.le_of_ble_eq_true rfl) (Nat.le_of_ble_eq_true rfl) ?_
    obtain rfl := hw
    refine lv_aload_n hx hb dX6_perform_22 rfl (lv_at hl 1 rfl) ?_
    refine va_get (D := (dC, dI)) (ci := 5) (v := .ref ar) (C := RX6) (T := TX6) (N := 9) hx hb hts (by decide +kernel) hown hK hP 6 rfl rfl 0 (by decide) (hts (.fieldLink RX6 7 "UnibusMachine$Processor" "registers" "[I") (by decide +kernel)) (fun _ h9 => h9) rfl dX6_perform_23 ?_
    refine lv_bipush (v := 7) hx hb dX6_perform_26 (by decide) ?_
    refine va_iald (D := (dC, dI)) hx hb hK hP 2 1 rfl rfl (vp_in_iff.mpr (by decide)) dX6_perform_28 ?_
    refine lv_topi (fun y6 ey6 => ?_)
    obtain rfl : y6 = 1 := by rw [ey6]; assumption
    have hPc := hP.sub (ws' := [(h0, .inr (5, [.ref ar, .ref oB, .ref oS, .int 0, .int 0, .int 0, .int ve, .int 0, .int 0]))]) [6] rfl
    have hDc := hD.sub (ws' := [(h0, .inr (5, [.ref ar, .ref oB, .ref oS, .int 0, .int 0, .int 0, .int ve, .int 0, .int 0]))]) [6] (by decide) rfl
    have hKc := hK.sub (tys' := []) [] rfl
    have hFc := va_free (wc := [(h0, .inr (5, [.ref ar, .ref oB, .ref oS, .int 0, .int 0, .int 0, .int ve, .int 0, .int 0]))]) hD hS hA [6] rfl
    have hSz := hS.1
    refine vx_calli (vx_runV (As := [.int 0, .int 1]) (rest := []) ⟨hx, hb, hml, hown, hts⟩ (c_readOdd l dC dI h0 ar oB oS ve H.size hlt) (cwV 2 hts gX6_perform_X6_readWord rfl rfl rfl (by decide +kernel) ⟨Nat.le_of_ble_eq_true rfl, Nat.le_of_ble_eq_true rfl⟩) ⟨fun a U g mk q => by obtain ⟨q0, q1, qP, qK, qD, e0, e1, e2, e3, e4, e5⟩ := q; exact ⟨q0, q1, qP, va_K.moved (u := U) (U := U.calling g mk a) (Vm.Alike.refl U.vm) qK, qD, vx_Zq.moved (u := U) (U := U.calling g mk a) (Vm.Alike.refl U.vm) e0, vx_Zq.moved (u := U) (U := U.calling g mk a) (Vm.Alike.refl U.vm) e1, va_Nw.same (U := U.calling g mk a) rfl rfl e2, va_Nw.same (U := U.calling g mk a) rfl rfl e3, va_Nw.same (U := U.calling g mk a) rfl rfl e4, va_Nw.same (U := U.calling g mk a) rfl rfl e5⟩, va_recv hKc hPc (ci := 5) (q0 := 0) rfl rfl, fun U hU hW => ⟨rfl, by rw [hU], by rw [hU]; exact hPc, va_K.moved hW.alike hKc, hDc.weaken (fun _ _ _ _ => trivial), by rw [hU]; exact vx_Zq.moved hW.alike (vx_Zq.narrow (vx_Zq.kept hZU hS.2.1) hFc), by rw [hU]; exact vx_Zq.moved hW.alike (vx_Zq.narrow (vx_Zq.kept hZN hS.2.1) hFc), va_Nw.warmD hW hd1, va_Nw.warmD hW hd2, va_Nw.warmD hW hd3, va_Nw.warmC hW hcU⟩⟩ rfl rfl hl.1 rfl (lv_room (Nat.le_of_ble_eq_true rfl)) dX6_perform_29 ⟨Nat.le_of_ble_eq_true rfl, Nat.le_of_ble_eq_true rfl⟩) hS (fun q _ h => hFc q h) hFc (fun q _ h => hFc q h) (fun E9 ce9 q9 u t H1 locs ht hvm hpx hBX hz1 hk1 hS hce hcv hcl => ?_) (fun r7 u8 t H1 locs ht hvm hw hB hz1 hk1 hS => ?_)
    · skip
      obtain ⟨rfl, hP1, hK1, hD1, hg1⟩ := hBX
      rw [ht] at hP1 hg1
      have hK1 := va_K.moved hvm.symm hK1
      refine vx_catch (own := RX6) (name := "java/lang/UnsupportedOperationException") hown [] ⟨17, 57, 60, 65⟩ [] (by rw [htb]; rfl) (fun z hz => nomatch hz) (by decide) (by decide) (hts (.classLink RX6 65 "java/lang/UnsupportedOperationException") (by decide +kernel)) (va_Nw.use rfl hcU) hce hcv hcl ?_
      obtain ⟨hP, hD⟩ := va_join (wr := [(oM, .inr (3, [.ref ad, .ref ab, .int 0])), (am, .inl (tm, 512, .inl f)), (ar, .inl (tr, 8, .inl g)), (oB, .inr (0, [.ref am, .ref oM, .ref oS, .ref oK, .ref oL, .ref oD])), (oL, .inr (4, [.int 128, .int 0, .ref ap, .int 0, .int 0, .int 0, .int 0])), (oD, .inr (1, [.int 128, .int 0, .ref aw, .int 0, .int 0, .int 0, .int 0, .int 0, .int 0, .int 0])), (oS, .inr (6, [.int 224, .int (-1)]))]) (w1 := [(h0, .inr (5, [.ref ar, .ref oB, .ref oS, .int 0, .int 0, .int 0, .int 4, .int 0, .int 0]))]) hP hD [6] [0, 1, 2, 3, 4, 5, 7] rfl rfl (by decide) (by decide) hk1 hFc hP1 hD1
      have hK := (hK.sub (tys' := [(tm, .int), (tr, .int)]) [0, 1] rfl).app hK1
      have hgr : sz + 1 ≤ H1.size := by omega
      generalize H1 = H at hP hS hgr ⊢
      have hP : va_P (dC, dI) vwCl [(oM, .inr (3, [.ref ad, .ref ab, .int 0])), (am, .inl (tm, 512, .inl f)), (ar, .inl (tr, 8, .inl g)), (oB, .inr (0, [.ref am, .ref oM, .ref oS, .ref oK, .ref oL, .ref oD])), (oL, .inr (4, [.int 128, .int 0, .ref ap, .int 0, .int 0, .int 0, .int 0])), (oD, .inr (1, [.int 128, .int 0, .ref aw, .int 0, .int 0, .int 0, .int 0, .int 0, .int 0, .int 0])), (oS, .inr (6, [.int 224, .int (-1)])), (h0, .inr (5, [.ref ar, .ref oB, .ref oS, .int 0, .int 0, .int 0, .int 4, .int 0, .int 0]))] H := hP
      have hD : va_D A [(oM, .inr (3, [.ref ad, .ref ab, .int 0])), (am, .inl (tm, 512, .inl f)), (ar, .inl (tr, 8, .inl g)), (oB, .inr (0, [.ref am, .ref oM, .ref oS, .ref oK, .ref oL, .ref oD])), (oL, .inr (4, [.int 128, .int 0, .ref ap, .int 0, .int 0, .int 0, .int 0])), (oD, .inr (1, [.int 128, .int 0, .ref aw, .int 0, .int 0, .int 0, .int 0, .int 0, .int 0, .int 0])), (oS, .inr (6, [.int 224, .int (-1)])), (h0, .inr (5, [.ref ar, .ref oB, .ref oS, .int 0, .int 0, .int 0, .int 4, .int 0, .int 0]))] := hD
      have hK : va_K (dC, dI) vwCl [(tm, .int), (tr, .int)] s := hK
      refine W.widen (k := 1) (n := 6) (Nat.le_of_ble_eq_true rfl) (Nat.le_of_ble_eq_true rfl) ?_
      refine lv_astore_n (lv' := [(2, .ref q9), (1, .int 0), (0, .ref h0)]) hx hb dX6_perform_60 rfl hl (by decide) rfl (fun ls hl => ?_)
      refine lv_iconst (v := 1) hx hb dX6_perform_61 (by decide) ?_
      refine lv_istore_n (lv' := [(1, .int 1), (2, .ref q9), (0, .ref h0)]) hx hb dX6_perform_62 rfl hl (by decide) rfl (fun ls hl => ?_)
      refine lv_iload_n hx hb dX6_perform_63 rfl (lv_at hl 0 rfl) ?_
      refine lv_if_eq (tgt := 78) hx hb dX6_perform_64 (by decide) (fun c9 => ?_) (fun c9 => ?_)
      · exact absurd c9 (by decide)
      · skip
        refine lv_aload_n hx hb dX6_perform_67 rfl (lv_at hl 2 rfl) ?_
        refine lv_aload_n hx hb dX6_perform_68 rfl (lv_at hl 2 rfl) ?_
        refine va_get (D := (dC, dI)) (ci := 5) (v := .int 4) (C := RX6) (T := TX6) (N := 9) hx hb hts (by decide +kernel) hown hK hP 7 rfl rfl 6 (by decide) (hts (.fieldLink RX6 24 "UnibusMachine$Processor" "vector" "I") (by decide +kernel)) (fun _ h9 => h9) rfl dX6_perform_69 ?_
        have hPc := hP.sub (ws' := [(h0, .inr (5, [.ref ar, .ref oB, .ref oS, .int 0, .int 0, .int 0, .int 4, .int 0, .int 0])), (oS, .inr (6, [.int 224, .int (-1)])), (oB, .inr (0, [.ref am, .ref oM, .ref oS, .ref oK, .ref oL, .ref oD])), (oM, .inr (3, [.ref ad, .ref ab, .int 0])), (am, .inl (tm, 512, .inl f)), (ar, .inl (tr, 8, .inl g))]) [7, 6, 3, 0, 1, 2] rfl
        have hDc := hD.sub (ws' := [(h0, .inr (5, [.ref ar, .ref oB, .ref oS, .int 0, .int 0, .int 0, .int 4, .int 0, .int 0])), (oS, .inr (6, [.int 224, .int (-1)])), (oB, .inr (0, [.ref am, .ref oM, .ref oS, .ref oK, .ref oL, .ref oD])), (oM, .inr (3, [.ref ad, .ref ab, .int 0])), (am, .inl (tm, 512, .inl f)), (ar, .inl (tr, 8, .inl g))]) [7, 6, 3, 0, 1, 2] (by decide) rfl
        have hKc := hK.sub (tys' := [(tm, .int), (tr, .int)]) [0, 1] rfl
        have hFc := va_free (wc := [(h0, .inr (5, [.ref ar, .ref oB, .ref oS, .int 0, .int 0, .int 0, .int 4, .int 0, .int 0])), (oS, .inr (6, [.int 224, .int (-1)])), (oB, .inr (0, [.ref am, .ref oM, .ref oS, .ref oK, .ref oL, .ref oD])), (oM, .inr (3, [.ref ad, .ref ab, .int 0])), (am, .inl (tm, 512, .inl f)), (ar, .inl (tr, 8, .inl g))]) hD hS hA [7, 6, 3, 0, 1, 2] rfl
        have hSz := hS.1
        refine va_callv (vx_runVW (As := [.int 4]) (rest := []) ⟨hx, hb, hml, hown, hts⟩ (c_enter4 l dC dI h0 ar oB oS 4 am oM oK oL oD ad ab tm f tr g z H.size (by first | assumption | omega) (by first | assumption | omega) (by first | assumption | omega) (by first | assumption | omega) (by first | assumption | omega) (by first | assumption | omega) (by first | assumption | omega)) (vx_cwVW 1 hts gX6_perform_X6_enter rfl rfl rfl (by decide +kernel) ⟨Nat.le_of_ble_eq_true rfl, Nat.le_of_ble_eq_true rfl⟩) ⟨fun a U g mk q => by obtain ⟨q0, q1, qP, qK, qD⟩ := q; exact ⟨q0, q1, qP, va_K.moved (u := U) (U := U.calling g mk a) (Vm.Alike.refl U.vm) qK, qD⟩, va_recv hKc hPc (ci := 5) (q0 := 0) rfl rfl, fun U hU hW => ⟨rfl, by rw [hU], by rw [hU]; exact hPc, va_K.moved hW.alike hKc, hDc.weaken (fun _ _ _ _ => trivial)⟩⟩ rfl rfl hl.1 rfl (lv_room (Nat.le_of_ble_eq_true rfl)) dX6_perform_72 ⟨Nat.le_of_ble_eq_true rfl, Nat.le_of_ble_eq_true rfl⟩) hS (fun q _ h => hFc q h) hFc (fun u11 t H1 locs ht hvm hw hB hz1 hk1 hS => ?_)
        obtain ⟨hP1, hK1, hD1⟩ := hB
        rw [ht] at hP1
        have hK1 := va_K.moved hvm.symm hK1
        try dsimp only at hw
        obtain ⟨hP, hD⟩ := va_join (wr := [(oL, .inr (4, [.int 128, .int 0, .ref ap, .int 0, .int 0, .int 0, .int 0])), (oD, .inr (1, [.int 128, .int 0, .ref aw, .int 0, .int 0, .int 0, .int 0, .int 0, .int 0, .int 0]))]) (w1 := [(h0, .inr (5, [.ref ar, .ref oB, .ref oS, .int 0, .int 0, .int 0, .int 4, .int 0, .int 0])), (oS, .inr (6, [.int 224, .int (-1)])), (oB, .inr (0, [.ref am, .ref oM, .ref oS, .ref oK, .ref oL, .ref oD])), (oM, .inr (3, [.ref ad, .ref ab, .int 0])), (am, .inl (tm, 512, .inl u11.1)), (ar, .inl (tr, 8, .inl u11.2))]) hP hD [7, 6, 3, 0, 1, 2] [4, 5] rfl rfl (by decide) (by decide) hk1 hFc hP1 hD1
        have hK := (hK.sub (tys' := []) [] rfl).app hK1
        have hgr : sz + 1 ≤ H1.size := by omega
        generalize H1 = H at hP hS hgr ⊢
        have hP : va_P (dC, dI) vwCl [(oL, .inr (4, [.int 128, .int 0, .ref ap, .int 0, .int 0, .int 0, .int 0])), (oD, .inr (1, [.int 128, .int 0, .ref aw, .int 0, .int 0, .int 0, .int 0, .int 0, .int 0, .int 0])), (h0, .inr (5, [.ref ar, .ref oB, .ref oS, .int 0, .int 0, .int 0, .int 4, .int 0, .int 0])), (oS, .inr (6, [.int 224, .int (-1)])), (oB, .inr (0, [.ref am, .ref oM, .ref oS, .ref oK, .ref oL, .ref oD])), (oM, .inr (3, [.ref ad, .ref ab, .int 0])), (am, .inl (tm, 512, .inl u11.1)), (ar, .inl (tr, 8, .inl u11.2))] H := hP
        have hD : va_D A [(oL, .inr (4, [.int 128, .int 0, .ref ap, .int 0, .int 0, .int 0, .int 0])), (oD, .inr (1, [.int 128, .int 0, .ref aw, .int 0, .int 0, .int 0, .int 0, .int 0, .int 0, .int 0])), (h0, .inr (5, [.ref ar, .ref oB, .ref oS, .int 0, .int 0, .int 0, .int 4, .int 0, .int 0])), (oS, .inr (6, [.int 224, .int (-1)])), (oB, .inr (0, [.ref am, .ref oM, .ref oS, .ref oK, .ref oL, .ref oD])), (oM, .inr (3, [.ref ad, .ref ab, .int 0])), (am, .inl (tm, 512, .inl u11.1)), (ar, .inl (tr, 8, .inl u11.2))] := hD
        have hK : va_K (dC, dI) vwCl [(tm, .int), (tr, .int)] s := hK
        refine W.widen (k := 1) (n := 6) (Nat.le_of_ble_eq_true rfl) (Nat.le_of_ble_eq_true rfl) ?_
        obtain ⟨_, _, _, _⟩ := hw
        refine lv_goto (tgt := 82) hx hb dX6_perform_75 (by decide) ?_
        have hx12 : u11.1 (2 : Int32).toNatClampNeg = 1 := by first | assumption | omega
        have hx13 : u11.1 (3 : Int32).toNatClampNeg = 224 := by first | assumption | omega
        have hx14 : u11.2 (7 : Int32).toNatClampNeg = 1 := by first | assumption | omega
        have hx15 : (u11.2 (6 : Int32).toNatClampNeg).toInt = z - 4 := by first | assumption | omega
        have hP9 := hP.sub (ws' := [(h0, .inr (5, [.ref ar, .ref oB, .ref oS, .int 0, .int 0, .int 0, .int 4, .int 0, .int 0])), (oB, .inr (0, [.ref am, .ref oM, .ref oS, .ref oK, .ref oL, .ref oD])), (oS, .inr (6, [.int 224, .int (-1)])), (oM, .inr (3, [.ref ad, .ref ab, .int 0])), (am, .inl (tm, 512, .inl u11.1)), (ar, .inl (tr, 8, .inl u11.2)), (oL, .inr (4, [.int 128, .int 0, .ref ap, .int 0, .int 0, .int 0, .int 0])), (oD, .inr (1, [.int 128, .int 0, .ref aw, .int 0, .int 0, .int 0, .int 0, .int 0, .int 0, .int 0]))]) [2, 4, 3, 5, 6, 7, 0, 1] rfl
        have hD9 := hD.sub (ws' := [(h0, .inr (5, [.ref ar, .ref oB, .ref oS, .int 0, .int 0, .int 0, .int 4, .int 0, .int 0])), (oB, .inr (0, [.ref am, .ref oM, .ref oS, .ref oK, .ref oL, .ref oD])), (oS, .inr (6, [.int 224, .int (-1)])), (oM, .inr (3, [.ref ad, .ref ab, .int 0])), (am, .inl (tm, 512, .inl u11.1)), (ar, .inl (tr, 8, .inl u11.2)), (oL, .inr (4, [.int 128, .int 0, .ref ap, .int 0, .int 0, .int 0, .int 0])), (oD, .inr (1, [.int 128, .int 0, .ref aw, .int 0, .int 0, .int 0, .int 0, .int 0, .int 0, .int 0]))]) [2, 4, 3, 5, 6, 7, 0, 1] (by decide) rfl
        have hK9 := hK.sub (tys' := [(tm, .int), (tr, .int)]) [0, 1] rfl
        exact W.vret hx hb hr (fun t ht hW => ⟨⟨(u11.1, u11.2), rfl, ⟨hx12, hx13, hx14, hx15⟩, by rw [ht]; exact hP9, va_K.moved hW.alike hK9, hD9, by rw [ht]; omega⟩, hS.F ht⟩) hS.2.2 dX6_perform_82
    · skip
      exact False.elim hw
  · exact absurd c3 (by decide)
set_option maxHeartbeats 4000000 in
set_option maxRecDepth 100000 in
theorem c_run4 (l : Launch) (dC : Nat → ClassId) (dI : Nat → Nat → Nat) (h0 : Nat) (oB : Nat) (oP : Nat) (oS : Nat) (ar : Nat) (ve : Int32) (am : Nat) (oM : Nat) (oK : Nat) (oL : Nat) (oD : Nat) (ad : Nat) (ab : Nat) (tm : ClassId) (f : Nat → Int32) (tr : ClassId) (g : Nat → Int32) (z : Int) (ap : Nat) (aw : Nat) (sz : Nat) (hlt : l.stackTraces = false) (hF0 : f (2 : Int32).toNatClampNeg = 1) (hF1 : f (3 : Int32).toNatClampNeg = 224) (hF2 : g (7 : Int32).toNatClampNeg = 1) (hF3 : (g (6 : Int32).toNatClampNeg).toInt = z) (hH4 : 182 ≤ z) (hH5 : z ≤ 1024) (hH6 : z % 2 = 0) : Met l yX8_run wsX8_run ({ frames := 9, cells := 4, slots := 24, locals := 172 } : Room) (va_Pc [.ref h0, .int 4] (fun U => U.heap.size = sz ∧ va_P (dC, dI) vwCl [(h0, .inr (7, [.ref oB, .ref oP])), (oP, .inr (5, [.ref ar, .ref oB, .ref oS, .int 0, .int 0, .int 0, .int ve, .int 0, .int 0])), (oB, .inr (0, [.ref am, .ref oM, .ref oS, .ref oK, .ref oL, .ref oD])), (oS, .inr (6, [.int 224, .int (-1)])), (oM, .inr (3, [.ref ad, .ref ab, .int 0])), (am, .inl (tm, 512, .inl f)), (ar, .inl (tr, 8, .inl g)), (oL, .inr (4, [.int 128, .int 0, .ref ap, .int 0, .int 0, .int 0, .int 0])), (oD, .inr (1, [.int 128, .int 0, .ref aw, .int 0, .int 0, .int 0, .int 0, .int 0, .int 0, .int 0])), (oK, .inr (2, [.int 0, .int 0, .int 0]))] U.heap ∧ va_K (dC, dI) vwCl [(tm, .int), (tr, .int)] U ∧ va_D (fun _ => True) [(h0, .inr (7, [.ref oB, .ref oP])), (oP, .inr (5, [.ref ar, .ref oB, .ref oS, .int 0, .int 0, .int 0, .int ve, .int 0, .int 0])), (oB, .inr (0, [.ref am, .ref oM, .ref oS, .ref oK, .ref oL, .ref oD])), (oS, .inr (6, [.int 224, .int (-1)])), (oM, .inr (3, [.ref ad, .ref ab, .int 0])), (am, .inl (tm, 512, .inl f)), (ar, .inl (tr, 8, .inl g)), (oL, .inr (4, [.int 128, .int 0, .ref ap, .int 0, .int 0, .int 0, .int 0])), (oD, .inr (1, [.int 128, .int 0, .ref aw, .int 0, .int 0, .int 0, .int 0, .int 0, .int 0, .int 0])), (oK, .inr (2, [.int 0, .int 0, .int 0]))] ∧ vx_Zq Bundle.tN "UNASSIGNED_STACK" Bundle.steD (va_A [(h0, .inr (7, [.ref oB, .ref oP])), (oP, .inr (5, [.ref ar, .ref oB, .ref oS, .int 0, .int 0, .int 0, .int ve, .int 0, .int 0])), (oB, .inr (0, [.ref am, .ref oM, .ref oS, .ref oK, .ref oL, .ref oD])), (oS, .inr (6, [.int 224, .int (-1)])), (oM, .inr (3, [.ref ad, .ref ab, .int 0])), (am, .inl (tm, 512, .inl f)), (ar, .inl (tr, 8, .inl g)), (oL, .inr (4, [.int 128, .int 0, .ref ap, .int 0, .int 0, .int 0, .int 0])), (oD, .inr (1, [.int 128, .int 0, .ref aw, .int 0, .int 0, .int 0, .int 0, .int 0, .int 0, .int 0])), (oK, .inr (2, [.int 0, .int 0, .int 0]))] sz) U U.heap ∧ vx_Zq Bundle.tN "SUPPRESSED_SENTINEL" Bundle.listD (va_A [(h0, .inr (7, [.ref oB, .ref oP])), (oP, .inr (5, [.ref ar, .ref oB, .ref oS, .int 0, .int 0, .int 0, .int ve, .int 0, .int 0])), (oB, .inr (0, [.ref am, .ref oM, .ref oS, .ref oK, .ref oL, .ref oD])), (oS, .inr (6, [.int 224, .int (-1)])), (oM, .inr (3, [.ref ad, .ref ab, .int 0])), (am, .inl (tm, 512, .inl f)), (ar, .inl (tr, 8, .inl g)), (oL, .inr (4, [.int 128, .int 0, .ref ap, .int 0, .int 0, .int 0, .int 0])), (oD, .inr (1, [.int 128, .int 0, .ref aw, .int 0, .int 0, .int 0, .int 0, .int 0, .int 0, .int 0])), (oK, .inr (2, [.int 0, .int 0, .int 0]))] sz) U U.heap ∧ va_Nw (.declares (Bundle.init0 "java/lang/RuntimeException")) U ∧ va_Nw (.declares (Bundle.init0 "java/lang/Exception")) U ∧ va_Nw (.declares (Bundle.init0 Bundle.tN)) U ∧ va_Nw (.castable "java/lang/UnsupportedOperationException" "java/lang/UnsupportedOperationException") U)) (va_Qi (fun (r : Int32) (u : (Nat → Int32) × (Nat → Int32)) => (4 = r) ∧ (u.1 (2 : Int32).toNatClampNeg = 1) ∧ (u.1 (3 : Int32).toNatClampNeg = 224) ∧ (u.2 (7 : Int32).toNatClampNeg = 1) ∧ ((u.2 (6 : Int32).toNatClampNeg).toInt = z - 16)) (fun (u : (Nat → Int32) × (Nat → Int32)) (t : State) => va_P (dC, dI) vwCl [(h0, .inr (7, [.ref oB, .ref oP])), (oP, .inr (5, [.ref ar, .ref oB, .ref oS, .int 0, .int 0, .int 0, .int 4, .int 0, .int 0])), (oB, .inr (0, [.ref am, .ref oM, .ref oS, .ref oK, .ref oL, .ref oD])), (oS, .inr (6, [.int 224, .int (-1)])), (oM, .inr (3, [.ref ad, .ref ab, .int 0])), (am, .inl (tm, 512, .inl u.1)), (ar, .inl (tr, 8, .inl u.2)), (oL, .inr (4, [.int 128, .int 0, .ref ap, .int 0, .int 0, .int 0, .int 0])), (oD, .inr (1, [.int 128, .int 0, .ref aw, .int 0, .int 0, .int 0, .int 0, .int 0, .int 0, .int 0])), (oK, .inr (2, [.int 0, .int 0, .int 0]))] t.heap ∧ va_K (dC, dI) vwCl [(tm, .int), (tr, .int)] t ∧ va_D (va_A [(h0, .inr (7, [.ref oB, .ref oP])), (oP, .inr (5, [.ref ar, .ref oB, .ref oS, .int 0, .int 0, .int 0, .int ve, .int 0, .int 0])), (oB, .inr (0, [.ref am, .ref oM, .ref oS, .ref oK, .ref oL, .ref oD])), (oS, .inr (6, [.int 224, .int (-1)])), (oM, .inr (3, [.ref ad, .ref ab, .int 0])), (am, .inl (tm, 512, .inl f)), (ar, .inl (tr, 8, .inl g)), (oL, .inr (4, [.int 128, .int 0, .ref ap, .int 0, .int 0, .int 0, .int 0])), (oD, .inr (1, [.int 128, .int 0, .ref aw, .int 0, .int 0, .int 0, .int 0, .int 0, .int 0, .int 0])), (oK, .inr (2, [.int 0, .int 0, .int 0]))] sz) [(h0, .inr (7, [.ref oB, .ref oP])), (oP, .inr (5, [.ref ar, .ref oB, .ref oS, .int 0, .int 0, .int 0, .int 4, .int 0, .int 0])), (oB, .inr (0, [.ref am, .ref oM, .ref oS, .ref oK, .ref oL, .ref oD])), (oS, .inr (6, [.int 224, .int (-1)])), (oM, .inr (3, [.ref ad, .ref ab, .int 0])), (am, .inl (tm, 512, .inl u.1)), (ar, .inl (tr, 8, .inl u.2)), (oL, .inr (4, [.int 128, .int 0, .ref ap, .int 0, .int 0, .int 0, .int 0])), (oD, .inr (1, [.int 128, .int 0, .ref aw, .int 0, .int 0, .int 0, .int 0, .int 0, .int 0, .int 0])), (oK, .inr (2, [.int 0, .int 0, .int 0]))] ∧ sz + 4 ≤ t.heap.size) (va_A [(h0, .inr (7, [.ref oB, .ref oP])), (oP, .inr (5, [.ref ar, .ref oB, .ref oS, .int 0, .int 0, .int 0, .int ve, .int 0, .int 0])), (oB, .inr (0, [.ref am, .ref oM, .ref oS, .ref oK, .ref oL, .ref oD])), (oS, .inr (6, [.int 224, .int (-1)])), (oM, .inr (3, [.ref ad, .ref ab, .int 0])), (am, .inl (tm, 512, .inl f)), (ar, .inl (tr, 8, .inl g)), (oL, .inr (4, [.int 128, .int 0, .ref ap, .int 0, .int 0, .int 0, .int 0])), (oD, .inr (1, [.int 128, .int 0, .ref aw, .int 0, .int 0, .int 0, .int 0, .int 0, .int 0, .int 0])), (oK, .inr (2, [.int 0, .int 0, .int 0]))] sz)) 4 24 (va_A [(h0, .inr (7, [.ref oB, .ref oP])), (oP, .inr (5, [.ref ar, .ref oB, .ref oS, .int 0, .int 0, .int 0, .int ve, .int 0, .int 0])), (oB, .inr (0, [.ref am, .ref oM, .ref oS, .ref oK, .ref oL, .ref oD])), (oS, .inr (6, [.int 224, .int (-1)])), (oM, .inr (3, [.ref ad, .ref ab, .int 0])), (am, .inl (tm, 512, .inl f)), (ar, .inl (tr, 8, .inl g)), (oL, .inr (4, [.int 128, .int 0, .ref ap, .int 0, .int 0, .int 0, .int 0])), (oD, .inr (1, [.int 128, .int 0, .ref aw, .int 0, .int 0, .int 0, .int 0, .int 0, .int 0, .int 0])), (oK, .inr (2, [.int 0, .int 0, .int 0]))] sz) := by
  refine Met.ofW (cc := cX8_run) (maxL := 3) (ret := (some .int)) (by decide) rfl ?_
  intro p e s m args below meth c s₁ B hml hv
  obtain ⟨rfl, hsz, hP, hK, hD0, hZU, hZN, hd1, hd2, hd3, hcU⟩ := hv
  have hx := B.exec
  have hb := B.bytes
  have hr := B.returns
  have hts := atoms_spec (ws := wsX8_run) B.pre
  have hown : s.vm.findClass RX8 = some m.cls := findClass_of_methodNamed B.named
  have hlocks := B.notSynchronized
  have hD := hD0.self (sz := sz)
  generalize hAe : va_A [(h0, .inr (7, [.ref oB, .ref oP])), (oP, .inr (5, [.ref ar, .ref oB, .ref oS, .int 0, .int 0, .int 0, .int ve, .int 0, .int 0])), (oB, .inr (0, [.ref am, .ref oM, .ref oS, .ref oK, .ref oL, .ref oD])), (oS, .inr (6, [.int 224, .int (-1)])), (oM, .inr (3, [.ref ad, .ref ab, .int 0])), (am, .inl (tm, 512, .inl f)), (ar, .inl (tr, 8, .inl g)), (oL, .inr (4, [.int 128, .int 0, .ref ap, .int 0, .int 0, .int 0, .int 0])), (oD, .inr (1, [.int 128, .int 0, .ref aw, .int 0, .int 0, .int 0, .int 0, .int 0, .int 0, .int 0])), (oK, .inr (2, [.int 0, .int 0, .int 0]))] sz = A at hD hZU hZN ⊢
  have hA : ∀ q : Nat, s.heap.size ≤ q → A q := fun q h => by rw [← hAe]; exact Or.inr (by omega)
  have hS0 : ∀ G : Heap, s.heap = G → va_S A s.heap G [] := fun G h => by subst h; exact va_S.rf
  generalize hHe : s.heap = H at hP ⊢
  have hS := hS0 H hHe
  have hP : va_P (dC, dI) vwCl [(h0, .inr (7, [.ref oB, .ref oP])), (oP, .inr (5, [.ref ar, .ref oB, .ref oS, .int 0, .int 0, .int 0, .int ve, .int 0, .int 0])), (oB, .inr (0, [.ref am, .ref oM, .ref oS, .ref oK, .ref oL, .ref oD])), (oS, .inr (6, [.int 224, .int (-1)])), (oM, .inr (3, [.ref ad, .ref ab, .int 0])), (am, .inl (tm, 512, .inl f)), (ar, .inl (tr, 8, .inl g)), (oL, .inr (4, [.int 128, .int 0, .ref ap, .int 0, .int 0, .int 0, .int 0])), (oD, .inr (1, [.int 128, .int 0, .ref aw, .int 0, .int 0, .int 0, .int 0, .int 0, .int 0, .int 0])), (oK, .inr (2, [.int 0, .int 0, .int 0]))] H := hP
  have hD : va_D A [(h0, .inr (7, [.ref oB, .ref oP])), (oP, .inr (5, [.ref ar, .ref oB, .ref oS, .int 0, .int 0, .int 0, .int ve, .int 0, .int 0])), (oB, .inr (0, [.ref am, .ref oM, .ref oS, .ref oK, .ref oL, .ref oD])), (oS, .inr (6, [.int 224, .int (-1)])), (oM, .inr (3, [.ref ad, .ref ab, .int 0])), (am, .inl (tm, 512, .inl f)), (ar, .inl (tr, 8, .inl g)), (oL, .inr (4, [.int 128, .int 0, .ref ap, .int 0, .int 0, .int 0, .int 0])), (oD, .inr (1, [.int 128, .int 0, .ref aw, .int 0, .int 0, .int 0, .int 0, .int 0, .int 0, .int 0])), (oK, .inr (2, [.int 0, .int 0, .int 0]))] := hD
  have hK : va_K (dC, dI) vwCl [(tm, .int), (tr, .int)] s := hK
  have hl := lv_entry ([.ref h0, .int 4]) (n := 3) (Nat.le_of_ble_eq_true rfl)
  rw [lg_entry_eq]
  generalize (lg_sl ([.ref h0, .int 4]) ++ List.replicate (3 - (lg_sl ([.ref h0, .int 4])).length) Slot.unset).toArray = ls at hl ⊢
  have hl : lv_has ls 3 [(0, .ref h0), (1, .int 4)] := hl
  refine lv_iload_n hx hb dX8_run_0 rfl (lv_at hl 1 rfl) ?_
  refine lv_iconst (v := 1) hx hb dX8_run_1 (by decide) ?_
  refine lv_icmp_lt (tgt := 11) hx hb dX8_run_2 (by decide) (fun c1 => ?_) (fun c1 => ?_)
  · exact absurd c1 (by decide)
  · skip
    refine lv_iload_n hx hb dX8_run_5 rfl (lv_at hl 1 rfl) ?_
    refine lv_bipush (v := 40) hx hb dX8_run_6 (by decide) ?_
    refine lv_icmp_le (tgt := 19) hx hb dX8_run_8 (by decide) (fun c2 => ?_) (fun c2 => ?_)
    · skip
      refine lv_aload_n hx hb dX8_run_19 rfl (lv_at hl 0 rfl) ?_
      refine va_get (D := (dC, dI)) (ci := 7) (v := .ref oP) (C := RX8) (T := TX8) (N := 2) hx hb hts (by decide +kernel) hown hK hP 0 rfl rfl 1 (by decide) (hts (.fieldLink RX8 21 "UnibusMachine" "processor" "LUnibusMachine$Processor;") (by decide +kernel)) (fun _ h9 => h9) rfl dX8_run_20 ?_
      refine va_get (D := (dC, dI)) (ci := 5) (v := .int 0) (C := RX6) (T := TX6) (N := 9) hx hb hts (by decide +kernel) hown hK hP 1 rfl rfl 4 (by decide) (hts (.fieldLink RX8 63 "UnibusMachine$Processor" "halted" "I") (by decide +kernel)) (fun _ h9 => h9) rfl dX8_run_23 ?_
      refine lv_if_eq (tgt := 37) hx hb dX8_run_26 (by decide) (fun c3 => ?_) (fun c3 => ?_)
      · skip
        refine lv_iconst (v := 1) hx hb dX8_run_37 (by decide) ?_
        refine lv_istore_n (lv' := [(2, .int 1), (0, .ref h0), (1, .int 4)]) hx hb dX8_run_38 rfl hl (by decide) rfl (fun ls hl => ?_)
        refine lv_iload_n hx hb dX8_run_39 rfl (lv_at hl 0 rfl) ?_
        refine lv_iload_n hx hb dX8_run_40 rfl (lv_at hl 2 rfl) ?_
        refine lv_icmp_gt (tgt := 93) hx hb dX8_run_41 (by decide) (fun c4 => ?_) (fun c4 => ?_)
        · exact absurd c4 (by decide)
        · skip
          refine lv_aload_n hx hb dX8_run_44 rfl (lv_at hl 1 rfl) ?_
          refine va_get (D := (dC, dI)) (ci := 7) (v := .ref oP) (C := RX8) (T := TX8) (N := 2) hx hb hts (by decide +kernel) hown hK hP 0 rfl rfl 1 (by decide) (hts (.fieldLink RX8 21 "UnibusMachine" "processor" "LUnibusMachine$Processor;") (by decide +kernel)) (fun _ h9 => h9) rfl dX8_run_45 ?_
          have hPc := hP.sub (ws' := [(oP, .inr (5, [.ref ar, .ref oB, .ref oS, .int 0, .int 0, .int 0, .int ve, .int 0, .int 0])), (oB, .inr (0, [.ref am, .ref oM, .ref oS, .ref oK, .ref oL, .ref oD])), (oS, .inr (6, [.int 224, .int (-1)])), (oM, .inr (3, [.ref ad, .ref ab, .int 0])), (am, .inl (tm, 512, .inl f)), (ar, .inl (tr, 8, .inl g)), (oL, .inr (4, [.int 128, .int 0, .ref ap, .int 0, .int 0, .int 0, .int 0])), (oD, .inr (1, [.int 128, .int 0, .ref aw, .int 0, .int 0, .int 0, .int 0, .int 0, .int 0, .int 0]))]) [1, 2, 3, 4, 5, 6, 7, 8] rfl
          have hDc := hD.sub (ws' := [(oP, .inr (5, [.ref ar, .ref oB, .ref oS, .int 0, .int 0, .int 0, .int ve, .int 0, .int 0])), (oB, .inr (0, [.ref am, .ref oM, .ref oS, .ref oK, .ref oL, .ref oD])), (oS, .inr (6, [.int 224, .int (-1)])), (oM, .inr (3, [.ref ad, .ref ab, .int 0])), (am, .inl (tm, 512, .inl f)), (ar, .inl (tr, 8, .inl g)), (oL, .inr (4, [.int 128, .int 0, .ref ap, .int 0, .int 0, .int 0, .int 0])), (oD, .inr (1, [.int 128, .int 0, .ref aw, .int 0, .int 0, .int 0, .int 0, .int 0, .int 0, .int 0]))]) [1, 2, 3, 4, 5, 6, 7, 8] (by decide) rfl
          have hKc := hK.sub (tys' := [(tm, .int), (tr, .int)]) [0, 1] rfl
          have hFc := va_free (wc := [(oP, .inr (5, [.ref ar, .ref oB, .ref oS, .int 0, .int 0, .int 0, .int ve, .int 0, .int 0])), (oB, .inr (0, [.ref am, .ref oM, .ref oS, .ref oK, .ref oL, .ref oD])), (oS, .inr (6, [.int 224, .int (-1)])), (oM, .inr (3, [.ref ad, .ref ab, .int 0])), (am, .inl (tm, 512, .inl f)), (ar, .inl (tr, 8, .inl g)), (oL, .inr (4, [.int 128, .int 0, .ref ap, .int 0, .int 0, .int 0, .int 0])), (oD, .inr (1, [.int 128, .int 0, .ref aw, .int 0, .int 0, .int 0, .int 0, .int 0, .int 0, .int 0]))]) hD hS hA [1, 2, 3, 4, 5, 6, 7, 8] rfl
          have hSz := hS.1
          refine va_callv (vx_runVW (As := []) (rest := []) ⟨hx, hb, hml, hown, hts⟩ (c_perform l dC dI oP ar oB oS ve am oM oK oL oD ad ab tm f tr g z ap aw H.size hlt (by first | assumption | omega) (by first | assumption | omega) (by first | assumption | omega) (by first | assumption | omega) (by first | assumption | omega) (by first | assumption | omega) (by first | assumption | omega)) (vx_cwVW 0 hts gX8_run_X6_perform rfl rfl rfl (by decide +kernel) ⟨Nat.le_of_ble_eq_true rfl, Nat.le_of_ble_eq_true rfl⟩) ⟨fun a U g mk q => by obtain ⟨q0, q1, qP, qK, qD, e0, e1, e2, e3, e4, e5⟩ := q; exact ⟨q0, q1, qP, va_K.moved (u := U) (U := U.calling g mk a) (Vm.Alike.refl U.vm) qK, qD, vx_Zq.moved (u := U) (U := U.calling g mk a) (Vm.Alike.refl U.vm) e0, vx_Zq.moved (u := U) (U := U.calling g mk a) (Vm.Alike.refl U.vm) e1, va_Nw.same (U := U.calling g mk a) rfl rfl e2, va_Nw.same (U := U.calling g mk a) rfl rfl e3, va_Nw.same (U := U.calling g mk a) rfl rfl e4, va_Nw.same (U := U.calling g mk a) rfl rfl e5⟩, va_recv hKc hPc (ci := 5) (q0 := 0) rfl rfl, fun U hU hW => ⟨rfl, by rw [hU], by rw [hU]; exact hPc, va_K.moved hW.alike hKc, hDc.weaken (fun _ _ _ _ => trivial), by rw [hU]; exact vx_Zq.moved hW.alike (vx_Zq.narrow (vx_Zq.kept hZU hS.2.1) hFc), by rw [hU]; exact vx_Zq.moved hW.alike (vx_Zq.narrow (vx_Zq.kept hZN hS.2.1) hFc), va_Nw.warmD hW hd1, va_Nw.warmD hW hd2, va_Nw.warmD hW hd3, va_Nw.warmC hW hcU⟩⟩ rfl rfl hl.1 rfl (lv_room (Nat.le_of_ble_eq_true rfl)) dX8_run_48 ⟨Nat.le_of_ble_eq_true rfl, Nat.le_of_ble_eq_true rfl⟩) hS (fun q _ h => hFc q h) hFc (fun u6 t H1 locs ht hvm hw hB hz1 hk1 hS => ?_)
          obtain ⟨hP1, hK1, hD1, hg1⟩ := hB
          rw [ht] at hP1 hg1
          have hK1 := va_K.moved hvm.symm hK1
          try dsimp only at hw
          obtain ⟨hP, hD⟩ := va_join (wr := [(h0, .inr (7, [.ref oB, .ref oP])), (oK, .inr (2, [.int 0, .int 0, .int 0]))]) (w1 := [(oP, .inr (5, [.ref ar, .ref oB, .ref oS, .int 0, .int 0, .int 0, .int 4, .int 0, .int 0])), (oB, .inr (0, [.ref am, .ref oM, .ref oS, .ref oK, .ref oL, .ref oD])), (oS, .inr (6, [.int 224, .int (-1)])), (oM, .inr (3, [.ref ad, .ref ab, .int 0])), (am, .inl (tm, 512, .inl u6.1)), (ar, .inl (tr, 8, .inl u6.2)), (oL, .inr (4, [.int 128, .int 0, .ref ap, .int 0, .int 0, .int 0, .int 0])), (oD, .inr (1, [.int 128, .int 0, .ref aw, .int 0, .int 0, .int 0, .int 0, .int 0, .int 0, .int 0]))]) hP hD [1, 2, 3, 4, 5, 6, 7, 8] [0, 9] rfl rfl (by decide) (by decide) hk1 hFc hP1 hD1
          have hK := (hK.sub (tys' := []) [] rfl).app hK1
          have hgr : sz + 1 ≤ H1.size := by omega
          generalize H1 = H at hP hS hgr ⊢
          have hP : va_P (dC, dI) vwCl [(h0, .inr (7, [.ref oB, .ref oP])), (oK, .inr (2, [.int 0, .int 0, .int 0])), (oP, .inr (5, [.ref ar, .ref oB, .ref oS, .int 0, .int 0, .int 0, .int 4, .int 0, .int 0])), (oB, .inr (0, [.ref am, .ref oM, .ref oS, .ref oK, .ref oL, .ref oD])), (oS, .inr (6, [.int 224, .int (-1)])), (oM, .inr (3, [.ref ad, .ref ab, .int 0])), (am, .inl (tm, 512, .inl u6.1)), (ar, .inl (tr, 8, .inl u6.2)), (oL, .inr (4, [.int 128, .int 0, .ref ap, .int 0, .int 0, .int 0, .int 0])), (oD, .inr (1, [.int 128, .int 0, .ref aw, .int 0, .int 0, .int 0, .int 0, .int 0, .int 0, .int 0]))] H := hP
          have hD : va_D A [(h0, .inr (7, [.ref oB, .ref oP])), (oK, .inr (2, [.int 0, .int 0, .int 0])), (oP, .inr (5, [.ref ar, .ref oB, .ref oS, .int 0, .int 0, .int 0, .int 4, .int 0, .int 0])), (oB, .inr (0, [.ref am, .ref oM, .ref oS, .ref oK, .ref oL, .ref oD])), (oS, .inr (6, [.int 224, .int (-1)])), (oM, .inr (3, [.ref ad, .ref ab, .int 0])), (am, .inl (tm, 512, .inl u6.1)), (ar, .inl (tr, 8, .inl u6.2)), (oL, .inr (4, [.int 128, .int 0, .ref ap, .int 0, .int 0, .int 0, .int 0])), (oD, .inr (1, [.int 128, .int 0, .ref aw, .int 0, .int 0, .int 0, .int 0, .int 0, .int 0, .int 0]))] := hD
          have hK : va_K (dC, dI) vwCl [(tm, .int), (tr, .int)] s := hK
          refine W.widen (k := 1) (n := 6) (Nat.le_of_ble_eq_true rfl) (Nat.le_of_ble_eq_true rfl) ?_
          obtain ⟨_, _, _, _⟩ := hw
          refine lv_aload_n hx hb dX8_run_51 rfl (lv_at hl 1 rfl) ?_
          refine va_get (D := (dC, dI)) (ci := 7) (v := .ref oP) (C := RX8) (T := TX8) (N := 2) hx hb hts (by decide +kernel) hown hK hP 0 rfl rfl 1 (by decide) (hts (.fieldLink RX8 21 "UnibusMachine" "processor" "LUnibusMachine$Processor;") (by decide +kernel)) (fun _ h9 => h9) rfl dX8_run_52 ?_
          refine va_get (D := (dC, dI)) (ci := 5) (v := .int 0) (C := RX6) (T := TX6) (N := 9) hx hb hts (by decide +kernel) hown hK hP 2 rfl rfl 4 (by decide) (hts (.fieldLink RX8 63 "UnibusMachine$Processor" "halted" "I") (by decide +kernel)) (fun _ h9 => h9) rfl dX8_run_55 ?_
          refine lv_if_ne (tgt := 75) hx hb dX8_run_58 (by decide) (fun c7 => ?_) (fun c7 => ?_)
          · exact absurd c7 (by decide)
          · skip
            refine lv_aload_n hx hb dX8_run_61 rfl (lv_at hl 1 rfl) ?_
            refine va_get (D := (dC, dI)) (ci := 7) (v := .ref oB) (C := RX8) (T := TX8) (N := 2) hx hb hts (by decide +kernel) hown hK hP 0 rfl rfl 0 (by decide) (hts (.fieldLink RX8 10 "UnibusMachine" "bus" "LUnibusMachine$Bus;") (by decide +kernel)) (fun _ h9 => h9) rfl dX8_run_62 ?_
            have hPc := hP.sub (ws' := [(oB, .inr (0, [.ref am, .ref oM, .ref oS, .ref oK, .ref oL, .ref oD])), (oL, .inr (4, [.int 128, .int 0, .ref ap, .int 0, .int 0, .int 0, .int 0])), (oD, .inr (1, [.int 128, .int 0, .ref aw, .int 0, .int 0, .int 0, .int 0, .int 0, .int 0, .int 0]))]) [3, 8, 9] rfl
            have hDc := hD.sub (ws' := [(oB, .inr (0, [.ref am, .ref oM, .ref oS, .ref oK, .ref oL, .ref oD])), (oL, .inr (4, [.int 128, .int 0, .ref ap, .int 0, .int 0, .int 0, .int 0])), (oD, .inr (1, [.int 128, .int 0, .ref aw, .int 0, .int 0, .int 0, .int 0, .int 0, .int 0, .int 0]))]) [3, 8, 9] (by decide) rfl
            have hKc := hK.sub (tys' := []) [] rfl
            have hFc := va_free (wc := [(oB, .inr (0, [.ref am, .ref oM, .ref oS, .ref oK, .ref oL, .ref oD])), (oL, .inr (4, [.int 128, .int 0, .ref ap, .int 0, .int 0, .int 0, .int 0])), (oD, .inr (1, [.int 128, .int 0, .ref aw, .int 0, .int 0, .int 0, .int 0, .int 0, .int 0, .int 0]))]) hD hS hA [3, 8, 9] rfl
            have hSz := hS.1
            refine va_callv (va_runV (As := []) (rest := []) ⟨hx, hb, hml, hown, hts⟩ (c_goOn l dC dI oB am oM oS oK oL oD ap aw H.size) (cwV 0 hts gX8_run_X0_goOn rfl rfl rfl (by decide +kernel) ⟨Nat.le_of_ble_eq_true rfl, Nat.le_of_ble_eq_true rfl⟩) ⟨fun a U g mk q => by obtain ⟨q0, q1, qP, qK, qD⟩ := q; exact ⟨q0, q1, qP, va_K.moved (u := U) (U := U.calling g mk a) (Vm.Alike.refl U.vm) qK, qD⟩, va_recv hKc hPc (ci := 0) (q0 := 0) rfl rfl, fun U hU hW => ⟨rfl, by rw [hU], by rw [hU]; exact hPc, va_K.moved hW.alike hKc, hDc.weaken (fun _ _ _ _ => trivial)⟩⟩ rfl rfl hl.1 rfl (lv_room (Nat.le_of_ble_eq_true rfl)) dX8_run_65 ⟨Nat.le_of_ble_eq_true rfl, Nat.le_of_ble_eq_true rfl⟩) hS (fun q _ h => hFc q h) hFc (fun u9 t H1 locs ht hvm hw hB hz1 hk1 hS => ?_)
            obtain ⟨hP1, hK1, hD1⟩ := hB
            rw [ht] at hP1
            have hK1 := va_K.moved hvm.symm hK1
            try dsimp only at hw
            obtain ⟨hP, hD⟩ := va_join (wr := [(h0, .inr (7, [.ref oB, .ref oP])), (oK, .inr (2, [.int 0, .int 0, .int 0])), (oP, .inr (5, [.ref ar, .ref oB, .ref oS, .int 0, .int 0, .int 0, .int 4, .int 0, .int 0])), (oS, .inr (6, [.int 224, .int (-1)])), (oM, .inr (3, [.ref ad, .ref ab, .int 0])), (am, .inl (tm, 512, .inl u6.1)), (ar, .inl (tr, 8, .inl u6.2))]) (w1 := [(oB, .inr (0, [.ref am, .ref oM, .ref oS, .ref oK, .ref oL, .ref oD])), (oL, .inr (4, [.int 128, .int 0, .ref ap, .int 0, .int 0, .int 0, .int 0])), (oD, .inr (1, [.int 128, .int 0, .ref aw, .int 0, .int 0, .int 0, .int 0, .int 0, .int 0, .int 0]))]) hP hD [3, 8, 9] [0, 1, 2, 4, 5, 6, 7] rfl rfl (by decide) (by decide) hk1 hFc hP1 hD1
            have hK := (hK.sub (tys' := [(tm, .int), (tr, .int)]) [0, 1] rfl).app hK1
            have hgr : sz + 1 ≤ H1.size := by omega
            generalize H1 = H at hP hS hgr ⊢
            have hP : va_P (dC, dI) vwCl [(h0, .inr (7, [.ref oB, .ref oP])), (oK, .inr (2, [.int 0, .int 0, .int 0])), (oP, .inr (5, [.ref ar, .ref oB, .ref oS, .int 0, .int 0, .int 0, .int 4, .int 0, .int 0])), (oS, .inr (6, [.int 224, .int (-1)])), (oM, .inr (3, [.ref ad, .ref ab, .int 0])), (am, .inl (tm, 512, .inl u6.1)), (ar, .inl (tr, 8, .inl u6.2)), (oB, .inr (0, [.ref am, .ref oM, .ref oS, .ref oK, .ref oL, .ref oD])), (oL, .inr (4, [.int 128, .int 0, .ref ap, .int 0, .int 0, .int 0, .int 0])), (oD, .inr (1, [.int 128, .int 0, .ref aw, .int 0, .int 0, .int 0, .int 0, .int 0, .int 0, .int 0]))] H := hP
            have hD : va_D A [(h0, .inr (7, [.ref oB, .ref oP])), (oK, .inr (2, [.int 0, .int 0, .int 0])), (oP, .inr (5, [.ref ar, .ref oB, .ref oS, .int 0, .int 0, .int 0, .int 4, .int 0, .int 0])), (oS, .inr (6, [.int 224, .int (-1)])), (oM, .inr (3, [.ref ad, .ref ab, .int 0])), (am, .inl (tm, 512, .inl u6.1)), (ar, .inl (tr, 8, .inl u6.2)), (oB, .inr (0, [.ref am, .ref oM, .ref oS, .ref oK, .ref oL, .ref oD])), (oL, .inr (4, [.int 128, .int 0, .ref ap, .int 0, .int 0, .int 0, .int 0])), (oD, .inr (1, [.int 128, .int 0, .ref aw, .int 0, .int 0, .int 0, .int 0, .int 0, .int 0, .int 0]))] := hD
            have hK : va_K (dC, dI) vwCl [(tm, .int), (tr, .int)] s := hK
            refine W.widen (k := 1) (n := 6) (Nat.le_of_ble_eq_true rfl) (Nat.le_of_ble_eq_true rfl) ?_
            refine lv_aload_n hx hb dX8_run_68 rfl (lv_at hl 1 rfl) ?_
            refine va_get (D := (dC, dI)) (ci := 7) (v := .ref oP) (C := RX8) (T := TX8) (N := 2) hx hb hts (by decide +kernel) hown hK hP 0 rfl rfl 1 (by decide) (hts (.fieldLink RX8 21 "UnibusMachine" "processor" "LUnibusMachine$Processor;") (by decide +kernel)) (fun _ h9 => h9) rfl dX8_run_69 ?_
            have hPc := hP.sub (ws' := [(oP, .inr (5, [.ref ar, .ref oB, .ref oS, .int 0, .int 0, .int 0, .int 4, .int 0, .int 0])), (oB, .inr (0, [.ref am, .ref oM, .ref oS, .ref oK, .ref oL, .ref oD])), (oS, .inr (6, [.int 224, .int (-1)])), (oD, .inr (1, [.int 128, .int 0, .ref aw, .int 0, .int 0, .int 0, .int 0, .int 0, .int 0, .int 0])), (oK, .inr (2, [.int 0, .int 0, .int 0])), (oL, .inr (4, [.int 128, .int 0, .ref ap, .int 0, .int 0, .int 0, .int 0]))]) [2, 7, 3, 9, 1, 8] rfl
            have hDc := hD.sub (ws' := [(oP, .inr (5, [.ref ar, .ref oB, .ref oS, .int 0, .int 0, .int 0, .int 4, .int 0, .int 0])), (oB, .inr (0, [.ref am, .ref oM, .ref oS, .ref oK, .ref oL, .ref oD])), (oS, .inr (6, [.int 224, .int (-1)])), (oD, .inr (1, [.int 128, .int 0, .ref aw, .int 0, .int 0, .int 0, .int 0, .int 0, .int 0, .int 0])), (oK, .inr (2, [.int 0, .int 0, .int 0])), (oL, .inr (4, [.int 128, .int 0, .ref ap, .int 0, .int 0, .int 0, .int 0]))]) [2, 7, 3, 9, 1, 8] (by decide) rfl
            have hKc := hK.sub (tys' := []) [] rfl
            have hFc := va_free (wc := [(oP, .inr (5, [.ref ar, .ref oB, .ref oS, .int 0, .int 0, .int 0, .int 4, .int 0, .int 0])), (oB, .inr (0, [.ref am, .ref oM, .ref oS, .ref oK, .ref oL, .ref oD])), (oS, .inr (6, [.int 224, .int (-1)])), (oD, .inr (1, [.int 128, .int 0, .ref aw, .int 0, .int 0, .int 0, .int 0, .int 0, .int 0, .int 0])), (oK, .inr (2, [.int 0, .int 0, .int 0])), (oL, .inr (4, [.int 128, .int 0, .ref ap, .int 0, .int 0, .int 0, .int 0]))]) hD hS hA [2, 7, 3, 9, 1, 8] rfl
            have hSz := hS.1
            refine va_callv (va_runV (As := []) (rest := []) ⟨hx, hb, hml, hown, hts⟩ (c_look l dC dI oP ar oB oS 4 am oM oK oL oD ap aw H.size) (cwV 0 hts gX8_run_X6_lookForInterrupt rfl rfl rfl (by decide +kernel) ⟨Nat.le_of_ble_eq_true rfl, Nat.le_of_ble_eq_true rfl⟩) ⟨fun a U g mk q => by obtain ⟨q0, q1, qP, qK, qD⟩ := q; exact ⟨q0, q1, qP, va_K.moved (u := U) (U := U.calling g mk a) (Vm.Alike.refl U.vm) qK, qD⟩, va_recv hKc hPc (ci := 5) (q0 := 0) rfl rfl, fun U hU hW => ⟨rfl, by rw [hU], by rw [hU]; exact hPc, va_K.moved hW.alike hKc, hDc.weaken (fun _ _ _ _ => trivial)⟩⟩ rfl rfl hl.1 rfl (lv_room (Nat.le_of_ble_eq_true rfl)) dX8_run_72 ⟨Nat.le_of_ble_eq_true rfl, Nat.le_of_ble_eq_true rfl⟩) hS (fun q _ h => hFc q h) hFc (fun u11 t H1 locs ht hvm hw hB hz1 hk1 hS => ?_)
            obtain ⟨hP1, hK1, hD1⟩ := hB
            rw [ht] at hP1
            have hK1 := va_K.moved hvm.symm hK1
            try dsimp only at hw
            obtain ⟨hP, hD⟩ := va_join (wr := [(h0, .inr (7, [.ref oB, .ref oP])), (oM, .inr (3, [.ref ad, .ref ab, .int 0])), (am, .inl (tm, 512, .inl u6.1)), (ar, .inl (tr, 8, .inl u6.2))]) (w1 := [(oP, .inr (5, [.ref ar, .ref oB, .ref oS, .int 0, .int 0, .int 0, .int 4, .int 0, .int 0])), (oB, .inr (0, [.ref am, .ref oM, .ref oS, .ref oK, .ref oL, .ref oD])), (oS, .inr (6, [.int 224, .int (-1)])), (oD, .inr (1, [.int 128, .int 0, .ref aw, .int 0, .int 0, .int 0, .int 0, .int 0, .int 0, .int 0])), (oK, .inr (2, [.int 0, .int 0, .int 0])), (oL, .inr (4, [.int 128, .int 0, .ref ap, .int 0, .int 0, .int 0, .int 0]))]) hP hD [2, 7, 3, 9, 1, 8] [0, 4, 5, 6] rfl rfl (by decide) (by decide) hk1 hFc hP1 hD1
            have hK := (hK.sub (tys' := [(tm, .int), (tr, .int)]) [0, 1] rfl).app hK1
            have hgr : sz + 1 ≤ H1.size := by omega
            generalize H1 = H at hP hS hgr ⊢
            have hP : va_P (dC, dI) vwCl [(h0, .inr (7, [.ref oB, .ref oP])), (oM, .inr (3, [.ref ad, .ref ab, .int 0])), (am, .inl (tm, 512, .inl u6.1)), (ar, .inl (tr, 8, .inl u6.2)), (oP, .inr (5, [.ref ar, .ref oB, .ref oS, .int 0, .int 0, .int 0, .int 4, .int 0, .int 0])), (oB, .inr (0, [.ref am, .ref oM, .ref oS, .ref oK, .ref oL, .ref oD])), (oS, .inr (6, [.int 224, .int (-1)])), (oD, .inr (1, [.int 128, .int 0, .ref aw, .int 0, .int 0, .int 0, .int 0, .int 0, .int 0, .int 0])), (oK, .inr (2, [.int 0, .int 0, .int 0])), (oL, .inr (4, [.int 128, .int 0, .ref ap, .int 0, .int 0, .int 0, .int 0]))] H := hP
            have hD : va_D A [(h0, .inr (7, [.ref oB, .ref oP])), (oM, .inr (3, [.ref ad, .ref ab, .int 0])), (am, .inl (tm, 512, .inl u6.1)), (ar, .inl (tr, 8, .inl u6.2)), (oP, .inr (5, [.ref ar, .ref oB, .ref oS, .int 0, .int 0, .int 0, .int 4, .int 0, .int 0])), (oB, .inr (0, [.ref am, .ref oM, .ref oS, .ref oK, .ref oL, .ref oD])), (oS, .inr (6, [.int 224, .int (-1)])), (oD, .inr (1, [.int 128, .int 0, .ref aw, .int 0, .int 0, .int 0, .int 0, .int 0, .int 0, .int 0])), (oK, .inr (2, [.int 0, .int 0, .int 0])), (oL, .inr (4, [.int 128, .int 0, .ref ap, .int 0, .int 0, .int 0, .int 0]))] := hD
            have hK : va_K (dC, dI) vwCl [(tm, .int), (tr, .int)] s := hK
            refine W.widen (k := 1) (n := 6) (Nat.le_of_ble_eq_true rfl) (Nat.le_of_ble_eq_true rfl) ?_
            refine lv_aload_n hx hb dX8_run_75 rfl (lv_at hl 1 rfl) ?_
            refine va_get (D := (dC, dI)) (ci := 7) (v := .ref oP) (C := RX8) (T := TX8) (N := 2) hx hb hts (by decide +kernel) hown hK hP 0 rfl rfl 1 (by decide) (hts (.fieldLink RX8 21 "UnibusMachine" "processor" "LUnibusMachine$Processor;") (by decide +kernel)) (fun _ h9 => h9) rfl dX8_run_76 ?_
            refine va_get (D := (dC, dI)) (ci := 5) (v := .int 0) (C := RX6) (T := TX6) (N := 9) hx hb hts (by decide +kernel) hown hK hP 4 rfl rfl 4 (by decide) (hts (.fieldLink RX8 63 "UnibusMachine$Processor" "halted" "I") (by decide +kernel)) (fun _ h9 => h9) rfl dX8_run_79 ?_
            refine lv_if_eq (tgt := 87) hx hb dX8_run_82 (by decide) (fun c12 => ?_) (fun c12 => ?_)
            · skip
              refine lv_iinc (v := 2) (lv' := [(2, .int 2), (0, .ref h0), (1, .int 4)]) hx hb dX8_run_87 hl (k := 0) rfl (by decide) (by decide) rfl (fun ls hl => ?_)
              refine lv_goto (tgt := 39) hx hb dX8_run_90 (by decide) ?_
              refine lv_iload_n hx hb dX8_run_39 rfl (lv_at hl 0 rfl) ?_
              refine lv_iload_n hx hb dX8_run_40 rfl (lv_at hl 2 rfl) ?_
              refine lv_icmp_gt (tgt := 93) hx hb dX8_run_41 (by decide) (fun c13 => ?_) (fun c13 => ?_)
              · exact absurd c13 (by decide)
              · skip
                refine lv_aload_n hx hb dX8_run_44 rfl (lv_at hl 1 rfl) ?_
                refine va_get (D := (dC, dI)) (ci := 7) (v := .ref oP) (C := RX8) (T := TX8) (N := 2) hx hb hts (by decide +kernel) hown hK hP 0 rfl rfl 1 (by decide) (hts (.fieldLink RX8 21 "UnibusMachine" "processor" "LUnibusMachine$Processor;") (by decide +kernel)) (fun _ h9 => h9) rfl dX8_run_45 ?_
                have hPc := hP.sub (ws' := [(oP, .inr (5, [.ref ar, .ref oB, .ref oS, .int 0, .int 0, .int 0, .int 4, .int 0, .int 0])), (oB, .inr (0, [.ref am, .ref oM, .ref oS, .ref oK, .ref oL, .ref oD])), (oS, .inr (6, [.int 224, .int (-1)])), (oM, .inr (3, [.ref ad, .ref ab, .int 0])), (am, .inl (tm, 512, .inl u6.1)), (ar, .inl (tr, 8, .inl u6.2)), (oL, .inr (4, [.int 128, .int 0, .ref ap, .int 0, .int 0, .int 0, .int 0])), (oD, .inr (1, [.int 128, .int 0, .ref aw, .int 0, .int 0, .int 0, .int 0, .int 0, .int 0, .int 0]))]) [4, 5, 6, 1, 2, 3, 9, 7] rfl
                have hDc := hD.sub (ws' := [(oP, .inr (5, [.ref ar, .ref oB, .ref oS, .int 0, .int 0, .int 0, .int 4, .int 0, .int 0])), (oB, .inr (0, [.ref am, .ref oM, .ref oS, .ref oK, .ref oL, .ref oD])), (oS, .inr (6, [.int 224, .int (-1)])), (oM, .inr (3, [.ref ad, .ref ab, .int 0])), (am, .inl (tm, 512, .inl u6.1)), (ar, .inl (tr, 8, .inl u6.2)), (oL, .inr (4, [.int 128, .int 0, .ref ap, .int 0, .int 0, .int 0, .int 0])), (oD, .inr (1, [.int 128, .int 0, .ref aw, .int 0, .int 0, .int 0, .int 0, .int 0, .int 0, .int 0]))]) [4, 5, 6, 1, 2, 3, 9, 7] (by decide) rfl
                have hKc := hK.sub (tys' := [(tm, .int), (tr, .int)]) [0, 1] rfl
                have hFc := va_free (wc := [(oP, .inr (5, [.ref ar, .ref oB, .ref oS, .int 0, .int 0, .int 0, .int 4, .int 0, .int 0])), (oB, .inr (0, [.ref am, .ref oM, .ref oS, .ref oK, .ref oL, .ref oD])), (oS, .inr (6, [.int 224, .int (-1)])), (oM, .inr (3, [.ref ad, .ref ab, .int 0])), (am, .inl (tm, 512, .inl u6.1)), (ar, .inl (tr, 8, .inl u6.2)), (oL, .inr (4, [.int 128, .int 0, .ref ap, .int 0, .int 0, .int 0, .int 0])), (oD, .inr (1, [.int 128, .int 0, .ref aw, .int 0, .int 0, .int 0, .int 0, .int 0, .int 0, .int 0]))]) hD hS hA [4, 5, 6, 1, 2, 3, 9, 7] rfl
                have hSz := hS.1
                refine va_callv (vx_runVW (As := []) (rest := []) ⟨hx, hb, hml, hown, hts⟩ (c_perform l dC dI oP ar oB oS 4 am oM oK oL oD ad ab tm u6.1 tr u6.2 (z - 4) ap aw H.size hlt (by first | assumption | omega) (by first | assumption | omega) (by first | assumption | omega) (by first | assumption | omega) (by first | assumption | omega) (by first | assumption | omega) (by first | assumption | omega)) (vx_cwVW 0 hts gX8_run_X6_perform rfl rfl rfl (by decide +kernel) ⟨Nat.le_of_ble_eq_true rfl, Nat.le_of_ble_eq_true rfl⟩) ⟨fun a U g mk q => by obtain ⟨q0, q1, qP, qK, qD, e0, e1, e2, e3, e4, e5⟩ := q; exact ⟨q0, q1, qP, va_K.moved (u := U) (U := U.calling g mk a) (Vm.Alike.refl U.vm) qK, qD, vx_Zq.moved (u := U) (U := U.calling g mk a) (Vm.Alike.refl U.vm) e0, vx_Zq.moved (u := U) (U := U.calling g mk a) (Vm.Alike.refl U.vm) e1, va_Nw.same (U := U.calling g mk a) rfl rfl e2, va_Nw.same (U := U.calling g mk a) rfl rfl e3, va_Nw.same (U := U.calling g mk a) rfl rfl e4, va_Nw.same (U := U.calling g mk a) rfl rfl e5⟩, va_recv hKc hPc (ci := 5) (q0 := 0) rfl rfl, fun U hU hW => ⟨rfl, by rw [hU], by rw [hU]; exact hPc, va_K.moved hW.alike hKc, hDc.weaken (fun _ _ _ _ => trivial), by rw [hU]; exact vx_Zq.moved hW.alike (vx_Zq.narrow (vx_Zq.kept hZU hS.2.1) hFc), by rw [hU]; exact vx_Zq.moved hW.alike (vx_Zq.narrow (vx_Zq.kept hZN hS.2.1) hFc), va_Nw.warmD hW hd1, va_Nw.warmD hW hd2, va_Nw.warmD hW hd3, va_Nw.warmC hW hcU⟩⟩ rfl rfl hl.1 rfl (lv_room (Nat.le_of_ble_eq_true rfl)) dX8_run_48 ⟨Nat.le_of_ble_eq_true rfl, Nat.le_of_ble_eq_true rfl⟩) hS (fun q _ h => hFc q h) hFc (fun u15 t H1 locs ht hvm hw hB hz1 hk1 hS => ?_)
                obtain ⟨hP1, hK1, hD1, hg1⟩ := hB
                rw [ht] at hP1 hg1
                have hK1 := va_K.moved hvm.symm hK1
                try dsimp only at hw
                obtain ⟨hP, hD⟩ := va_join (wr := [(h0, .inr (7, [.ref oB, .ref oP])), (oK, .inr (2, [.int 0, .int 0, .int 0]))]) (w1 := [(oP, .inr (5, [.ref ar, .ref oB, .ref oS, .int 0, .int 0, .int 0, .int 4, .int 0, .int 0])), (oB, .inr (0, [.ref am, .ref oM, .ref oS, .ref oK, .ref oL, .ref oD])), (oS, .inr (6, [.int 224, .int (-1)])), (oM, .inr (3, [.ref ad, .ref ab, .int 0])), (am, .inl (tm, 512, .inl u15.1)), (ar, .inl (tr, 8, .inl u15.2)), (oL, .inr (4, [.int 128, .int 0, .ref ap, .int 0, .int 0, .int 0, .int 0])), (oD, .inr (1, [.int 128, .int 0, .ref aw, .int 0, .int 0, .int 0, .int 0, .int 0, .int 0, .int 0]))]) hP hD [4, 5, 6, 1, 2, 3, 9, 7] [0, 8] rfl rfl (by decide) (by decide) hk1 hFc hP1 hD1
                have hK := (hK.sub (tys' := []) [] rfl).app hK1
                have hgr : sz + 2 ≤ H1.size := by omega
                generalize H1 = H at hP hS hgr ⊢
                have hP : va_P (dC, dI) vwCl [(h0, .inr (7, [.ref oB, .ref oP])), (oK, .inr (2, [.int 0, .int 0, .int 0])), (oP, .inr (5, [.ref ar, .ref oB, .ref oS, .int 0, .int 0, .int 0, .int 4, .int 0, .int 0])), (oB, .inr (0, [.ref am, .ref oM, .ref oS, .ref oK, .ref oL, .ref oD])), (oS, .inr (6, [.int 224, .int (-1)])), (oM, .inr (3, [.ref ad, .ref ab, .int 0])), (am, .inl (tm, 512, .inl u15.1)), (ar, .inl (tr, 8, .inl u15.2)), (oL, .inr (4, [.int 128, .int 0, .ref ap, .int 0, .int 0, .int 0, .int 0])), (oD, .inr (1, [.int 128, .int 0, .ref aw, .int 0, .int 0, .int 0, .int 0, .int 0, .int 0, .int 0]))] H := hP
                have hD : va_D A [(h0, .inr (7, [.ref oB, .ref oP])), (oK, .inr (2, [.int 0, .int 0, .int 0])), (oP, .inr (5, [.ref ar, .ref oB, .ref oS, .int 0, .int 0, .int 0, .int 4, .int 0, .int 0])), (oB, .inr (0, [.ref am, .ref oM, .ref oS, .ref oK, .ref oL, .ref oD])), (oS, .inr (6, [.int 224, .int (-1)])), (oM, .inr (3, [.ref ad, .ref ab, .int 0])), (am, .inl (tm, 512, .inl u15.1)), (ar, .inl (tr, 8, .inl u15.2)), (oL, .inr (4, [.int 128, .int 0, .ref ap, .int 0, .int 0, .int 0, .int 0])), (oD, .inr (1, [.int 128, .int 0, .ref aw, .int 0, .int 0, .int 0, .int 0, .int 0, .int 0, .int 0]))] := hD
                have hK : va_K (dC, dI) vwCl [(tm, .int), (tr, .int)] s := hK
                refine W.widen (k := 2) (n := 12) (Nat.le_of_ble_eq_true rfl) (Nat.le_of_ble_eq_true rfl) ?_
                obtain ⟨_, _, _, _⟩ := hw
                refine lv_aload_n hx hb dX8_run_51 rfl (lv_at hl 1 rfl) ?_
                refine va_get (D := (dC, dI)) (ci := 7) (v := .ref oP) (C := RX8) (T := TX8) (N := 2) hx hb hts (by decide +kernel) hown hK hP 0 rfl rfl 1 (by decide) (hts (.fieldLink RX8 21 "UnibusMachine" "processor" "LUnibusMachine$Processor;") (by decide +kernel)) (fun _ h9 => h9) rfl dX8_run_52 ?_
                refine va_get (D := (dC, dI)) (ci := 5) (v := .int 0) (C := RX6) (T := TX6) (N := 9) hx hb hts (by decide +kernel) hown hK hP 2 rfl rfl 4 (by decide) (hts (.fieldLink RX8 63 "UnibusMachine$Processor" "halted" "I") (by decide +kernel)) (fun _ h9 => h9) rfl dX8_run_55 ?_
                refine lv_if_ne (tgt := 75) hx hb dX8_run_58 (by decide) (fun c16 => ?_) (fun c16 => ?_)
                · exact absurd c16 (by decide)
                · skip
                  refine lv_aload_n hx hb dX8_run_61 rfl (lv_at hl 1 rfl) ?_
                  refine va_get (D := (dC, dI)) (ci := 7) (v := .ref oB) (C := RX8) (T := TX8) (N := 2) hx hb hts (by decide +kernel) hown hK hP 0 rfl rfl 0 (by decide) (hts (.fieldLink RX8 10 "UnibusMachine" "bus" "LUnibusMachine$Bus;") (by decide +kernel)) (fun _ h9 => h9) rfl dX8_run_62 ?_
                  have hPc := hP.sub (ws' := [(oB, .inr (0, [.ref am, .ref oM, .ref oS, .ref oK, .ref oL, .ref oD])), (oL, .inr (4, [.int 128, .int 0, .ref ap, .int 0, .int 0, .int 0, .int 0])), (oD, .inr (1, [.int 128, .int 0, .ref aw, .int 0, .int 0, .int 0, .int 0, .int 0, .int 0, .int 0]))]) [3, 8, 9] rfl
                  have hDc := hD.sub (ws' := [(oB, .inr (0, [.ref am, .ref oM, .ref oS, .ref oK, .ref oL, .ref oD])), (oL, .inr (4, [.int 128, .int 0, .ref ap, .int 0, .int 0, .int 0, .int 0])), (oD, .inr (1, [.int 128, .int 0, .ref aw, .int 0, .int 0, .int 0, .int 0, .int 0, .int 0, .int 0]))]) [3, 8, 9] (by decide) rfl
                  have hKc := hK.sub (tys' := []) [] rfl
                  have hFc := va_free (wc := [(oB, .inr (0, [.ref am, .ref oM, .ref oS, .ref oK, .ref oL, .ref oD])), (oL, .inr (4, [.int 128, .int 0, .ref ap, .int 0, .int 0, .int 0, .int 0])), (oD, .inr (1, [.int 128, .int 0, .ref aw, .int 0, .int 0, .int 0, .int 0, .int 0, .int 0, .int 0]))]) hD hS hA [3, 8, 9] rfl
                  have hSz := hS.1
                  refine va_callv (va_runV (As := []) (rest := []) ⟨hx, hb, hml, hown, hts⟩ (c_goOn l dC dI oB am oM oS oK oL oD ap aw H.size) (cwV 0 hts gX8_run_X0_goOn rfl rfl rfl (by decide +kernel) ⟨Nat.le_of_ble_eq_true rfl, Nat.le_of_ble_eq_true rfl⟩) ⟨fun a U g mk q => by obtain ⟨q0, q1, qP, qK, qD⟩ := q; exact ⟨q0, q1, qP, va_K.moved (u := U) (U := U.calling g mk a) (Vm.Alike.refl U.vm) qK, qD⟩, va_recv hKc hPc (ci := 0) (q0 := 0) rfl rfl, fun U hU hW => ⟨rfl, by rw [hU], by rw [hU]; exact hPc, va_K.moved hW.alike hKc, hDc.weaken (fun _ _ _ _ => trivial)⟩⟩ rfl rfl hl.1 rfl (lv_room (Nat.le_of_ble_eq_true rfl)) dX8_run_65 ⟨Nat.le_of_ble_eq_true rfl, Nat.le_of_ble_eq_true rfl⟩) hS (fun q _ h => hFc q h) hFc (fun u18 t H1 locs ht hvm hw hB hz1 hk1 hS => ?_)
                  obtain ⟨hP1, hK1, hD1⟩ := hB
                  rw [ht] at hP1
                  have hK1 := va_K.moved hvm.symm hK1
                  try dsimp only at hw
                  obtain ⟨hP, hD⟩ := va_join (wr := [(h0, .inr (7, [.ref oB, .ref oP])), (oK, .inr (2, [.int 0, .int 0, .int 0])), (oP, .inr (5, [.ref ar, .ref oB, .ref oS, .int 0, .int 0, .int 0, .int 4, .int 0, .int 0])), (oS, .inr (6, [.int 224, .int (-1)])), (oM, .inr (3, [.ref ad, .ref ab, .int 0])), (am, .inl (tm, 512, .inl u15.1)), (ar, .inl (tr, 8, .inl u15.2))]) (w1 := [(oB, .inr (0, [.ref am, .ref oM, .ref oS, .ref oK, .ref oL, .ref oD])), (oL, .inr (4, [.int 128, .int 0, .ref ap, .int 0, .int 0, .int 0, .int 0])), (oD, .inr (1, [.int 128, .int 0, .ref aw, .int 0, .int 0, .int 0, .int 0, .int 0, .int 0, .int 0]))]) hP hD [3, 8, 9] [0, 1, 2, 4, 5, 6, 7] rfl rfl (by decide) (by decide) hk1 hFc hP1 hD1
                  have hK := (hK.sub (tys' := [(tm, .int), (tr, .int)]) [0, 1] rfl).app hK1
                  have hgr : sz + 2 ≤ H1.size := by omega
                  generalize H1 = H at hP hS hgr ⊢
                  have hP : va_P (dC, dI) vwCl [(h0, .inr (7, [.ref oB, .ref oP])), (oK, .inr (2, [.int 0, .int 0, .int 0])), (oP, .inr (5, [.ref ar, .ref oB, .ref oS, .int 0, .int 0, .int 0, .int 4, .int 0, .int 0])), (oS, .inr (6, [.int 224, .int (-1)])), (oM, .inr (3, [.ref ad, .ref ab, .int 0])), (am, .inl (tm, 512, .inl u15.1)), (ar, .inl (tr, 8, .inl u15.2)), (oB, .inr (0, [.ref am, .ref oM, .ref oS, .ref oK, .ref oL, .ref oD])), (oL, .inr (4, [.int 128, .int 0, .ref ap, .int 0, .int 0, .int 0, .int 0])), (oD, .inr (1, [.int 128, .int 0, .ref aw, .int 0, .int 0, .int 0, .int 0, .int 0, .int 0, .int 0]))] H := hP
                  have hD : va_D A [(h0, .inr (7, [.ref oB, .ref oP])), (oK, .inr (2, [.int 0, .int 0, .int 0])), (oP, .inr (5, [.ref ar, .ref oB, .ref oS, .int 0, .int 0, .int 0, .int 4, .int 0, .int 0])), (oS, .inr (6, [.int 224, .int (-1)])), (oM, .inr (3, [.ref ad, .ref ab, .int 0])), (am, .inl (tm, 512, .inl u15.1)), (ar, .inl (tr, 8, .inl u15.2)), (oB, .inr (0, [.ref am, .ref oM, .ref oS, .ref oK, .ref oL, .ref oD])), (oL, .inr (4, [.int 128, .int 0, .ref ap, .int 0, .int 0, .int 0, .int 0])), (oD, .inr (1, [.int 128, .int 0, .ref aw, .int 0, .int 0, .int 0, .int 0, .int 0, .int 0, .int 0]))] := hD
                  have hK : va_K (dC, dI) vwCl [(tm, .int), (tr, .int)] s := hK
                  refine W.widen (k := 2) (n := 12) (Nat.le_of_ble_eq_true rfl) (Nat.le_of_ble_eq_true rfl) ?_
                  refine lv_aload_n hx hb dX8_run_68 rfl (lv_at hl 1 rfl) ?_
                  refine va_get (D := (dC, dI)) (ci := 7) (v := .ref oP) (C := RX8) (T := TX8) (N := 2) hx hb hts (by decide +kernel) hown hK hP 0 rfl rfl 1 (by decide) (hts (.fieldLink RX8 21 "UnibusMachine" "processor" "LUnibusMachine$Processor;") (by decide +kernel)) (fun _ h9 => h9) rfl dX8_run_69 ?_
                  have hPc := hP.sub (ws' := [(oP, .inr (5, [.ref ar, .ref oB, .ref oS, .int 0, .int 0, .int 0, .int 4, .int 0, .int 0])), (oB, .inr (0, [.ref am, .ref oM, .ref oS, .ref oK, .ref oL, .ref oD])), (oS, .inr (6, [.int 224, .int (-1)])), (oD, .inr (1, [.int 128, .int 0, .ref aw, .int 0, .int 0, .int 0, .int 0, .int 0, .int 0, .int 0])), (oK, .inr (2, [.int 0, .int 0, .int 0])), (oL, .inr (4, [.int 128, .int 0, .ref ap, .int 0, .int 0, .int 0, .int 0]))]) [2, 7, 3, 9, 1, 8] rfl
                  have hDc := hD.sub (ws' := [(oP, .inr (5, [.ref ar, .ref oB, .ref oS, .int 0, .int 0, .int 0, .int 4, .int 0, .int 0])), (oB, .inr (0, [.ref am, .ref oM, .ref oS, .ref oK, .ref oL, .ref oD])), (oS, .inr (6, [.int 224, .int (-1)])), (oD, .inr (1, [.int 128, .int 0, .ref aw, .int 0, .int 0, .int 0, .int 0, .int 0, .int 0, .int 0])), (oK, .inr (2, [.int 0, .int 0, .int 0])), (oL, .inr (4, [.int 128, .int 0, .ref ap, .int 0, .int 0, .int 0, .int 0]))]) [2, 7, 3, 9, 1, 8] (by decide) rfl
                  have hKc := hK.sub (tys' := []) [] rfl
                  have hFc := va_free (wc := [(oP, .inr (5, [.ref ar, .ref oB, .ref oS, .int 0, .int 0, .int 0, .int 4, .int 0, .int 0])), (oB, .inr (0, [.ref am, .ref oM, .ref oS, .ref oK, .ref oL, .ref oD])), (oS, .inr (6, [.int 224, .int (-1)])), (oD, .inr (1, [.int 128, .int 0, .ref aw, .int 0, .int 0, .int 0, .int 0, .int 0, .int 0, .int 0])), (oK, .inr (2, [.int 0, .int 0, .int 0])), (oL, .inr (4, [.int 128, .int 0, .ref ap, .int 0, .int 0, .int 0, .int 0]))]) hD hS hA [2, 7, 3, 9, 1, 8] rfl
                  have hSz := hS.1
                  refine va_callv (va_runV (As := []) (rest := []) ⟨hx, hb, hml, hown, hts⟩ (c_look l dC dI oP ar oB oS 4 am oM oK oL oD ap aw H.size) (cwV 0 hts gX8_run_X6_lookForInterrupt rfl rfl rfl (by decide +kernel) ⟨Nat.le_of_ble_eq_true rfl, Nat.le_of_ble_eq_true rfl⟩) ⟨fun a U g mk q => by obtain ⟨q0, q1, qP, qK, qD⟩ := q; exact ⟨q0, q1, qP, va_K.moved (u := U) (U := U.calling g mk a) (Vm.Alike.refl U.vm) qK, qD⟩, va_recv hKc hPc (ci := 5) (q0 := 0) rfl rfl, fun U hU hW => ⟨rfl, by rw [hU], by rw [hU]; exact hPc, va_K.moved hW.alike hKc, hDc.weaken (fun _ _ _ _ => trivial)⟩⟩ rfl rfl hl.1 rfl (lv_room (Nat.le_of_ble_eq_true rfl)) dX8_run_72 ⟨Nat.le_of_ble_eq_true rfl, Nat.le_of_ble_eq_true rfl⟩) hS (fun q _ h => hFc q h) hFc (fun u20 t H1 locs ht hvm hw hB hz1 hk1 hS => ?_)
                  obtain ⟨hP1, hK1, hD1⟩ := hB
                  rw [ht] at hP1
                  have hK1 := va_K.moved hvm.symm hK1
                  try dsimp only at hw
                  obtain ⟨hP, hD⟩ := va_join (wr := [(h0, .inr (7, [.ref oB, .ref oP])), (oM, .inr (3, [.ref ad, .ref ab, .int 0])), (am, .inl (tm, 512, .inl u15.1)), (ar, .inl (tr, 8, .inl u15.2))]) (w1 := [(oP, .inr (5, [.ref ar, .ref oB, .ref oS, .int 0, .int 0, .int 0, .int 4, .int 0, .int 0])), (oB, .inr (0, [.ref am, .ref oM, .ref oS, .ref oK, .ref oL, .ref oD])), (oS, .inr (6, [.int 224, .int (-1)])), (oD, .inr (1, [.int 128, .int 0, .ref aw, .int 0, .int 0, .int 0, .int 0, .int 0, .int 0, .int 0])), (oK, .inr (2, [.int 0, .int 0, .int 0])), (oL, .inr (4, [.int 128, .int 0, .ref ap, .int 0, .int 0, .int 0, .int 0]))]) hP hD [2, 7, 3, 9, 1, 8] [0, 4, 5, 6] rfl rfl (by decide) (by decide) hk1 hFc hP1 hD1
                  have hK := (hK.sub (tys' := [(tm, .int), (tr, .int)]) [0, 1] rfl).app hK1
                  have hgr : sz + 2 ≤ H1.size := by omega
                  generalize H1 = H at hP hS hgr ⊢
                  have hP : va_P (dC, dI) vwCl [(h0, .inr (7, [.ref oB, .ref oP])), (oM, .inr (3, [.ref ad, .ref ab, .int 0])), (am, .inl (tm, 512, .inl u15.1)), (ar, .inl (tr, 8, .inl u15.2)), (oP, .inr (5, [.ref ar, .ref oB, .ref oS, .int 0, .int 0, .int 0, .int 4, .int 0, .int 0])), (oB, .inr (0, [.ref am, .ref oM, .ref oS, .ref oK, .ref oL, .ref oD])), (oS, .inr (6, [.int 224, .int (-1)])), (oD, .inr (1, [.int 128, .int 0, .ref aw, .int 0, .int 0, .int 0, .int 0, .int 0, .int 0, .int 0])), (oK, .inr (2, [.int 0, .int 0, .int 0])), (oL, .inr (4, [.int 128, .int 0, .ref ap, .int 0, .int 0, .int 0, .int 0]))] H := hP
                  have hD : va_D A [(h0, .inr (7, [.ref oB, .ref oP])), (oM, .inr (3, [.ref ad, .ref ab, .int 0])), (am, .inl (tm, 512, .inl u15.1)), (ar, .inl (tr, 8, .inl u15.2)), (oP, .inr (5, [.ref ar, .ref oB, .ref oS, .int 0, .int 0, .int 0, .int 4, .int 0, .int 0])), (oB, .inr (0, [.ref am, .ref oM, .ref oS, .ref oK, .ref oL, .ref oD])), (oS, .inr (6, [.int 224, .int (-1)])), (oD, .inr (1, [.int 128, .int 0, .ref aw, .int 0, .int 0, .int 0, .int 0, .int 0, .int 0, .int 0])), (oK, .inr (2, [.int 0, .int 0, .int 0])), (oL, .inr (4, [.int 128, .int 0, .ref ap, .int 0, .int 0, .int 0, .int 0]))] := hD
                  have hK : va_K (dC, dI) vwCl [(tm, .int), (tr, .int)] s := hK
                  refine W.widen (k := 2) (n := 12) (Nat.le_of_ble_eq_true rfl) (Nat.le_of_ble_eq_true rfl) ?_
                  refine lv_aload_n hx hb dX8_run_75 rfl (lv_at hl 1 rfl) ?_
                  refine va_get (D := (dC, dI)) (ci := 7) (v := .ref oP) (C := RX8) (T := TX8) (N := 2) hx hb hts (by decide +kernel) hown hK hP 0 rfl rfl 1 (by decide) (hts (.fieldLink RX8 21 "UnibusMachine" "processor" "LUnibusMachine$Processor;") (by decide +kernel)) (fun _ h9 => h9) rfl dX8_run_76 ?_
                  refine va_get (D := (dC, dI)) (ci := 5) (v := .int 0) (C := RX6) (T := TX6) (N := 9) hx hb hts (by decide +kernel) hown hK hP 4 rfl rfl 4 (by decide) (hts (.fieldLink RX8 63 "UnibusMachine$Processor" "halted" "I") (by decide +kernel)) (fun _ h9 => h9) rfl dX8_run_79 ?_
                  refine lv_if_eq (tgt := 87) hx hb dX8_run_82 (by decide) (fun c21 => ?_) (fun c21 => ?_)
                  · skip
                    refine lv_iinc (v := 3) (lv' := [(2, .int 3), (0, .ref h0), (1, .int 4)]) hx hb dX8_run_87 hl (k := 0) rfl (by decide) (by decide) rfl (fun ls hl => ?_)
                    refine lv_goto (tgt := 39) hx hb dX8_run_90 (by decide) ?_
                    refine lv_iload_n hx hb dX8_run_39 rfl (lv_at hl 0 rfl) ?_
                    refine lv_iload_n hx hb dX8_run_40 rfl (lv_at hl 2 rfl) ?_
                    refine lv_icmp_gt (tgt := 93) hx hb dX8_run_41 (by decide) (fun c22 => ?_) (fun c22 => ?_)
                    · exact absurd c22 (by decide)
                    · skip
                      refine lv_aload_n hx hb dX8_run_44 rfl (lv_at hl 1 rfl) ?_
                      refine va_get (D := (dC, dI)) (ci := 7) (v := .ref oP) (C := RX8) (T := TX8) (N := 2) hx hb hts (by decide +kernel) hown hK hP 0 rfl rfl 1 (by decide) (hts (.fieldLink RX8 21 "UnibusMachine" "processor" "LUnibusMachine$Processor;") (by decide +kernel)) (fun _ h9 => h9) rfl dX8_run_45 ?_
                      have hPc := hP.sub (ws' := [(oP, .inr (5, [.ref ar, .ref oB, .ref oS, .int 0, .int 0, .int 0, .int 4, .int 0, .int 0])), (oB, .inr (0, [.ref am, .ref oM, .ref oS, .ref oK, .ref oL, .ref oD])), (oS, .inr (6, [.int 224, .int (-1)])), (oM, .inr (3, [.ref ad, .ref ab, .int 0])), (am, .inl (tm, 512, .inl u15.1)), (ar, .inl (tr, 8, .inl u15.2)), (oL, .inr (4, [.int 128, .int 0, .ref ap, .int 0, .int 0, .int 0, .int 0])), (oD, .inr (1, [.int 128, .int 0, .ref aw, .int 0, .int 0, .int 0, .int 0, .int 0, .int 0, .int 0]))]) [4, 5, 6, 1, 2, 3, 9, 7] rfl
                      have hDc := hD.sub (ws' := [(oP, .inr (5, [.ref ar, .ref oB, .ref oS, .int 0, .int 0, .int 0, .int 4, .int 0, .int 0])), (oB, .inr (0, [.ref am, .ref oM, .ref oS, .ref oK, .ref oL, .ref oD])), (oS, .inr (6, [.int 224, .int (-1)])), (oM, .inr (3, [.ref ad, .ref ab, .int 0])), (am, .inl (tm, 512, .inl u15.1)), (ar, .inl (tr, 8, .inl u15.2)), (oL, .inr (4, [.int 128, .int 0, .ref ap, .int 0, .int 0, .int 0, .int 0])), (oD, .inr (1, [.int 128, .int 0, .ref aw, .int 0, .int 0, .int 0, .int 0, .int 0, .int 0, .int 0]))]) [4, 5, 6, 1, 2, 3, 9, 7] (by decide) rfl
                      have hKc := hK.sub (tys' := [(tm, .int), (tr, .int)]) [0, 1] rfl
                      have hFc := va_free (wc := [(oP, .inr (5, [.ref ar, .ref oB, .ref oS, .int 0, .int 0, .int 0, .int 4, .int 0, .int 0])), (oB, .inr (0, [.ref am, .ref oM, .ref oS, .ref oK, .ref oL, .ref oD])), (oS, .inr (6, [.int 224, .int (-1)])), (oM, .inr (3, [.ref ad, .ref ab, .int 0])), (am, .inl (tm, 512, .inl u15.1)), (ar, .inl (tr, 8, .inl u15.2)), (oL, .inr (4, [.int 128, .int 0, .ref ap, .int 0, .int 0, .int 0, .int 0])), (oD, .inr (1, [.int 128, .int 0, .ref aw, .int 0, .int 0, .int 0, .int 0, .int 0, .int 0, .int 0]))]) hD hS hA [4, 5, 6, 1, 2, 3, 9, 7] rfl
                      have hSz := hS.1
                      refine va_callv (vx_runVW (As := []) (rest := []) ⟨hx, hb, hml, hown, hts⟩ (c_perform l dC dI oP ar oB oS 4 am oM oK oL oD ad ab tm u15.1 tr u15.2 ((z - 4) - 4) ap aw H.size hlt (by first | assumption | omega) (by first | assumption | omega) (by first | assumption | omega) (by first | assumption | omega) (by first | assumption | omega) (by first | assumption | omega) (by first | assumption | omega)) (vx_cwVW 0 hts gX8_run_X6_perform rfl rfl rfl (by decide +kernel) ⟨Nat.le_of_ble_eq_true rfl, Nat.le_of_ble_eq_true rfl⟩) ⟨fun a U g mk q => by obtain ⟨q0, q1, qP, qK, qD, e0, e1, e2, e3, e4, e5⟩ := q; exact ⟨q0, q1, qP, va_K.moved (u := U) (U := U.calling g mk a) (Vm.Alike.refl U.vm) qK, qD, vx_Zq.moved (u := U) (U := U.calling g mk a) (Vm.Alike.refl U.vm) e0, vx_Zq.moved (u := U) (U := U.calling g mk a) (Vm.Alike.refl U.vm) e1, va_Nw.same (U := U.calling g mk a) rfl rfl e2, va_Nw.same (U := U.calling g mk a) rfl rfl e3, va_Nw.same (U := U.calling g mk a) rfl rfl e4, va_Nw.same (U := U.calling g mk a) rfl rfl e5⟩, va_recv hKc hPc (ci := 5) (q0 := 0) rfl rfl, fun U hU hW => ⟨rfl, by rw [hU], by rw [hU]; exact hPc, va_K.moved hW.alike hKc, hDc.weaken (fun _ _ _ _ => trivial), by rw [hU]; exact vx_Zq.moved hW.alike (vx_Zq.narrow (vx_Zq.kept hZU hS.2.1) hFc), by rw [hU]; exact vx_Zq.moved hW.alike (vx_Zq.narrow (vx_Zq.kept hZN hS.2.1) hFc), va_Nw.warmD hW hd1, va_Nw.warmD hW hd2, va_Nw.warmD hW hd3, va_Nw.warmC hW hcU⟩⟩ rfl rfl hl.1 rfl (lv_room (Nat.le_of_ble_eq_true rfl)) dX8_run_48 ⟨Nat.le_of_ble_eq_true rfl, Nat.le_of_ble_eq_true rfl⟩) hS (fun q _ h => hFc q h) hFc (fun u24 t H1 locs ht hvm hw hB hz1 hk1 hS => ?_)
                      obtain ⟨hP1, hK1, hD1, hg1⟩ := hB
                      rw [ht] at hP1 hg1
                      have hK1 := va_K.moved hvm.symm hK1
                      try dsimp only at hw
                      obtain ⟨hP, hD⟩ := va_join (wr := [(h0, .inr (7, [.ref oB, .ref oP])), (oK, .inr (2, [.int 0, .int 0, .int 0]))]) (w1 := [(oP, .inr (5, [.ref ar, .ref oB, .ref oS, .int 0, .int 0, .int 0, .int 4, .int 0, .int 0])), (oB, .inr (0, [.ref am, .ref oM, .ref oS, .ref oK, .ref oL, .ref oD])), (oS, .inr (6, [.int 224, .int (-1)])), (oM, .inr (3, [.ref ad, .ref ab, .int 0])), (am, .inl (tm, 512, .inl u24.1)), (ar, .inl (tr, 8, .inl u24.2)), (oL, .inr (4, [.int 128, .int 0, .ref ap, .int 0, .int 0, .int 0, .int 0])), (oD, .inr (1, [.int 128, .int 0, .ref aw, .int 0, .int 0, .int 0, .int 0, .int 0, .int 0, .int 0]))]) hP hD [4, 5, 6, 1, 2, 3, 9, 7] [0, 8] rfl rfl (by decide) (by decide) hk1 hFc hP1 hD1
                      have hK := (hK.sub (tys' := []) [] rfl).app hK1
                      have hgr : sz + 3 ≤ H1.size := by omega
                      generalize H1 = H at hP hS hgr ⊢
                      have hP : va_P (dC, dI) vwCl [(h0, .inr (7, [.ref oB, .ref oP])), (oK, .inr (2, [.int 0, .int 0, .int 0])), (oP, .inr (5, [.ref ar, .ref oB, .ref oS, .int 0, .int 0, .int 0, .int 4, .int 0, .int 0])), (oB, .inr (0, [.ref am, .ref oM, .ref oS, .ref oK, .ref oL, .ref oD])), (oS, .inr (6, [.int 224, .int (-1)])), (oM, .inr (3, [.ref ad, .ref ab, .int 0])), (am, .inl (tm, 512, .inl u24.1)), (ar, .inl (tr, 8, .inl u24.2)), (oL, .inr (4, [.int 128, .int 0, .ref ap, .int 0, .int 0, .int 0, .int 0])), (oD, .inr (1, [.int 128, .int 0, .ref aw, .int 0, .int 0, .int 0, .int 0, .int 0, .int 0, .int 0]))] H := hP
                      have hD : va_D A [(h0, .inr (7, [.ref oB, .ref oP])), (oK, .inr (2, [.int 0, .int 0, .int 0])), (oP, .inr (5, [.ref ar, .ref oB, .ref oS, .int 0, .int 0, .int 0, .int 4, .int 0, .int 0])), (oB, .inr (0, [.ref am, .ref oM, .ref oS, .ref oK, .ref oL, .ref oD])), (oS, .inr (6, [.int 224, .int (-1)])), (oM, .inr (3, [.ref ad, .ref ab, .int 0])), (am, .inl (tm, 512, .inl u24.1)), (ar, .inl (tr, 8, .inl u24.2)), (oL, .inr (4, [.int 128, .int 0, .ref ap, .int 0, .int 0, .int 0, .int 0])), (oD, .inr (1, [.int 128, .int 0, .ref aw, .int 0, .int 0, .int 0, .int 0, .int 0, .int 0, .int 0]))] := hD
                      have hK : va_K (dC, dI) vwCl [(tm, .int), (tr, .int)] s := hK
                      refine W.widen (k := 3) (n := 18) (Nat.le_of_ble_eq_true rfl) (Nat.le_of_ble_eq_true rfl) ?_
                      obtain ⟨_, _, _, _⟩ := hw
                      refine lv_aload_n hx hb dX8_run_51 rfl (lv_at hl 1 rfl) ?_
                      refine va_get (D := (dC, dI)) (ci := 7) (v := .ref oP) (C := RX8) (T := TX8) (N := 2) hx hb hts (by decide +kernel) hown hK hP 0 rfl rfl 1 (by decide) (hts (.fieldLink RX8 21 "UnibusMachine" "processor" "LUnibusMachine$Processor;") (by decide +kernel)) (fun _ h9 => h9) rfl dX8_run_52 ?_
                      refine va_get (D := (dC, dI)) (ci := 5) (v := .int 0) (C := RX6) (T := TX6) (N := 9) hx hb hts (by decide +kernel) hown hK hP 2 rfl rfl 4 (by decide) (hts (.fieldLink RX8 63 "UnibusMachine$Processor" "halted" "I") (by decide +kernel)) (fun _ h9 => h9) rfl dX8_run_55 ?_
                      refine lv_if_ne (tgt := 75) hx hb dX8_run_58 (by decide) (fun c25 => ?_) (fun c25 => ?_)
                      · exact absurd c25 (by decide)
                      · skip
                        refine lv_aload_n hx hb dX8_run_61 rfl (lv_at hl 1 rfl) ?_
                        refine va_get (D := (dC, dI)) (ci := 7) (v := .ref oB) (C := RX8) (T := TX8) (N := 2) hx hb hts (by decide +kernel) hown hK hP 0 rfl rfl 0 (by decide) (hts (.fieldLink RX8 10 "UnibusMachine" "bus" "LUnibusMachine$Bus;") (by decide +kernel)) (fun _ h9 => h9) rfl dX8_run_62 ?_
                        have hPc := hP.sub (ws' := [(oB, .inr (0, [.ref am, .ref oM, .ref oS, .ref oK, .ref oL, .ref oD])), (oL, .inr (4, [.int 128, .int 0, .ref ap, .int 0, .int 0, .int 0, .int 0])), (oD, .inr (1, [.int 128, .int 0, .ref aw, .int 0, .int 0, .int 0, .int 0, .int 0, .int 0, .int 0]))]) [3, 8, 9] rfl
                        have hDc := hD.sub (ws' := [(oB, .inr (0, [.ref am, .ref oM, .ref oS, .ref oK, .ref oL, .ref oD])), (oL, .inr (4, [.int 128, .int 0, .ref ap, .int 0, .int 0, .int 0, .int 0])), (oD, .inr (1, [.int 128, .int 0, .ref aw, .int 0, .int 0, .int 0, .int 0, .int 0, .int 0, .int 0]))]) [3, 8, 9] (by decide) rfl
                        have hKc := hK.sub (tys' := []) [] rfl
                        have hFc := va_free (wc := [(oB, .inr (0, [.ref am, .ref oM, .ref oS, .ref oK, .ref oL, .ref oD])), (oL, .inr (4, [.int 128, .int 0, .ref ap, .int 0, .int 0, .int 0, .int 0])), (oD, .inr (1, [.int 128, .int 0, .ref aw, .int 0, .int 0, .int 0, .int 0, .int 0, .int 0, .int 0]))]) hD hS hA [3, 8, 9] rfl
                        have hSz := hS.1
                        refine va_callv (va_runV (As := []) (rest := []) ⟨hx, hb, hml, hown, hts⟩ (c_goOn l dC dI oB am oM oS oK oL oD ap aw H.size) (cwV 0 hts gX8_run_X0_goOn rfl rfl rfl (by decide +kernel) ⟨Nat.le_of_ble_eq_true rfl, Nat.le_of_ble_eq_true rfl⟩) ⟨fun a U g mk q => by obtain ⟨q0, q1, qP, qK, qD⟩ := q; exact ⟨q0, q1, qP, va_K.moved (u := U) (U := U.calling g mk a) (Vm.Alike.refl U.vm) qK, qD⟩, va_recv hKc hPc (ci := 0) (q0 := 0) rfl rfl, fun U hU hW => ⟨rfl, by rw [hU], by rw [hU]; exact hPc, va_K.moved hW.alike hKc, hDc.weaken (fun _ _ _ _ => trivial)⟩⟩ rfl rfl hl.1 rfl (lv_room (Nat.le_of_ble_eq_true rfl)) dX8_run_65 ⟨Nat.le_of_ble_eq_true rfl, Nat.le_of_ble_eq_true rfl⟩) hS (fun q _ h => hFc q h) hFc (fun u27 t H1 locs ht hvm hw hB hz1 hk1 hS => ?_)
                        obtain ⟨hP1, hK1, hD1⟩ := hB
                        rw [ht] at hP1
                        have hK1 := va_K.moved hvm.symm hK1
                        try dsimp only at hw
                        obtain ⟨hP, hD⟩ := va_join (wr := [(h0, .inr (7, [.ref oB, .ref oP])), (oK, .inr (2, [.int 0, .int 0, .int 0])), (oP, .inr (5, [.ref ar, .ref oB, .ref oS, .int 0, .int 0, .int 0, .int 4, .int 0, .int 0])), (oS, .inr (6, [.int 224, .int (-1)])), (oM, .inr (3, [.ref ad, .ref ab, .int 0])), (am, .inl (tm, 512, .inl u24.1)), (ar, .inl (tr, 8, .inl u24.2))]) (w1 := [(oB, .inr (0, [.ref am, .ref oM, .ref oS, .ref oK, .ref oL, .ref oD])), (oL, .inr (4, [.int 128, .int 0, .ref ap, .int 0, .int 0, .int 0, .int 0])), (oD, .inr (1, [.int 128, .int 0, .ref aw, .int 0, .int 0, .int 0, .int 0, .int 0, .int 0, .int 0]))]) hP hD [3, 8, 9] [0, 1, 2, 4, 5, 6, 7] rfl rfl (by decide) (by decide) hk1 hFc hP1 hD1
                        have hK := (hK.sub (tys' := [(tm, .int), (tr, .int)]) [0, 1] rfl).app hK1
                        have hgr : sz + 3 ≤ H1.size := by omega
                        generalize H1 = H at hP hS hgr ⊢
                        have hP : va_P (dC, dI) vwCl [(h0, .inr (7, [.ref oB, .ref oP])), (oK, .inr (2, [.int 0, .int 0, .int 0])), (oP, .inr (5, [.ref ar, .ref oB, .ref oS, .int 0, .int 0, .int 0, .int 4, .int 0, .int 0])), (oS, .inr (6, [.int 224, .int (-1)])), (oM, .inr (3, [.ref ad, .ref ab, .int 0])), (am, .inl (tm, 512, .inl u24.1)), (ar, .inl (tr, 8, .inl u24.2)), (oB, .inr (0, [.ref am, .ref oM, .ref oS, .ref oK, .ref oL, .ref oD])), (oL, .inr (4, [.int 128, .int 0, .ref ap, .int 0, .int 0, .int 0, .int 0])), (oD, .inr (1, [.int 128, .int 0, .ref aw, .int 0, .int 0, .int 0, .int 0, .int 0, .int 0, .int 0]))] H := hP
                        have hD : va_D A [(h0, .inr (7, [.ref oB, .ref oP])), (oK, .inr (2, [.int 0, .int 0, .int 0])), (oP, .inr (5, [.ref ar, .ref oB, .ref oS, .int 0, .int 0, .int 0, .int 4, .int 0, .int 0])), (oS, .inr (6, [.int 224, .int (-1)])), (oM, .inr (3, [.ref ad, .ref ab, .int 0])), (am, .inl (tm, 512, .inl u24.1)), (ar, .inl (tr, 8, .inl u24.2)), (oB, .inr (0, [.ref am, .ref oM, .ref oS, .ref oK, .ref oL, .ref oD])), (oL, .inr (4, [.int 128, .int 0, .ref ap, .int 0, .int 0, .int 0, .int 0])), (oD, .inr (1, [.int 128, .int 0, .ref aw, .int 0, .int 0, .int 0, .int 0, .int 0, .int 0, .int 0]))] := hD
                        have hK : va_K (dC, dI) vwCl [(tm, .int), (tr, .int)] s := hK
                        refine W.widen (k := 3) (n := 18) (Nat.le_of_ble_eq_true rfl) (Nat.le_of_ble_eq_true rfl) ?_
                        refine lv_aload_n hx hb dX8_run_68 rfl (lv_at hl 1 rfl) ?_
                        refine va_get (D := (dC, dI)) (ci := 7) (v := .ref oP) (C := RX8) (T := TX8) (N := 2) hx hb hts (by decide +kernel) hown hK hP 0 rfl rfl 1 (by decide) (hts (.fieldLink RX8 21 "UnibusMachine" "processor" "LUnibusMachine$Processor;") (by decide +kernel)) (fun _ h9 => h9) rfl dX8_run_69 ?_
                        have hPc := hP.sub (ws' := [(oP, .inr (5, [.ref ar, .ref oB, .ref oS, .int 0, .int 0, .int 0, .int 4, .int 0, .int 0])), (oB, .inr (0, [.ref am, .ref oM, .ref oS, .ref oK, .ref oL, .ref oD])), (oS, .inr (6, [.int 224, .int (-1)])), (oD, .inr (1, [.int 128, .int 0, .ref aw, .int 0, .int 0, .int 0, .int 0, .int 0, .int 0, .int 0])), (oK, .inr (2, [.int 0, .int 0, .int 0])), (oL, .inr (4, [.int 128, .int 0, .ref ap, .int 0, .int 0, .int 0, .int 0]))]) [2, 7, 3, 9, 1, 8] rfl
                        have hDc := hD.sub (ws' := [(oP, .inr (5, [.ref ar, .ref oB, .ref oS, .int 0, .int 0, .int 0, .int 4, .int 0, .int 0])), (oB, .inr (0, [.ref am, .ref oM, .ref oS, .ref oK, .ref oL, .ref oD])), (oS, .inr (6, [.int 224, .int (-1)])), (oD, .inr (1, [.int 128, .int 0, .ref aw, .int 0, .int 0, .int 0, .int 0, .int 0, .int 0, .int 0])), (oK, .inr (2, [.int 0, .int 0, .int 0])), (oL, .inr (4, [.int 128, .int 0, .ref ap, .int 0, .int 0, .int 0, .int 0]))]) [2, 7, 3, 9, 1, 8] (by decide) rfl
                        have hKc := hK.sub (tys' := []) [] rfl
                        have hFc := va_free (wc := [(oP, .inr (5, [.ref ar, .ref oB, .ref oS, .int 0, .int 0, .int 0, .int 4, .int 0, .int 0])), (oB, .inr (0, [.ref am, .ref oM, .ref oS, .ref oK, .ref oL, .ref oD])), (oS, .inr (6, [.int 224, .int (-1)])), (oD, .inr (1, [.int 128, .int 0, .ref aw, .int 0, .int 0, .int 0, .int 0, .int 0, .int 0, .int 0])), (oK, .inr (2, [.int 0, .int 0, .int 0])), (oL, .inr (4, [.int 128, .int 0, .ref ap, .int 0, .int 0, .int 0, .int 0]))]) hD hS hA [2, 7, 3, 9, 1, 8] rfl
                        have hSz := hS.1
                        refine va_callv (va_runV (As := []) (rest := []) ⟨hx, hb, hml, hown, hts⟩ (c_look l dC dI oP ar oB oS 4 am oM oK oL oD ap aw H.size) (cwV 0 hts gX8_run_X6_lookForInterrupt rfl rfl rfl (by decide +kernel) ⟨Nat.le_of_ble_eq_true rfl, Nat.le_of_ble_eq_true rfl⟩) ⟨fun a U g mk q => by obtain ⟨q0, q1, qP, qK, qD⟩ := q; exact ⟨q0, q1, qP, va_K.moved (u := U) (U := U.calling g mk a) (Vm.Alike.refl U.vm) qK, qD⟩, va_recv hKc hPc (ci := 5) (q0 := 0) rfl rfl, fun U hU hW => ⟨rfl, by rw [hU], by rw [hU]; exact hPc, va_K.moved hW.alike hKc, hDc.weaken (fun _ _ _ _ => trivial)⟩⟩ rfl rfl hl.1 rfl (lv_room (Nat.le_of_ble_eq_true rfl)) dX8_run_72 ⟨Nat.le_of_ble_eq_true rfl, Nat.le_of_ble_eq_true rfl⟩) hS (fun q _ h => hFc q h) hFc (fun u29 t H1 locs ht hvm hw hB hz1 hk1 hS => ?_)
                        obtain ⟨hP1, hK1, hD1⟩ := hB
                        rw [ht] at hP1
                        have hK1 := va_K.moved hvm.symm hK1
                        try dsimp only at hw
                        obtain ⟨hP, hD⟩ := va_join (wr := [(h0, .inr (7, [.ref oB, .ref oP])), (oM, .inr (3, [.ref ad, .ref ab, .int 0])), (am, .inl (tm, 512, .inl u24.1)), (ar, .inl (tr, 8, .inl u24.2))]) (w1 := [(oP, .inr (5, [.ref ar, .ref oB, .ref oS, .int 0, .int 0, .int 0, .int 4, .int 0, .int 0])), (oB, .inr (0, [.ref am, .ref oM, .ref oS, .ref oK, .ref oL, .ref oD])), (oS, .inr (6, [.int 224, .int (-1)])), (oD, .inr (1, [.int 128, .int 0, .ref aw, .int 0, .int 0, .int 0, .int 0, .int 0, .int 0, .int 0])), (oK, .inr (2, [.int 0, .int 0, .int 0])), (oL, .inr (4, [.int 128, .int 0, .ref ap, .int 0, .int 0, .int 0, .int 0]))]) hP hD [2, 7, 3, 9, 1, 8] [0, 4, 5, 6] rfl rfl (by decide) (by decide) hk1 hFc hP1 hD1
                        have hK := (hK.sub (tys' := [(tm, .int), (tr, .int)]) [0, 1] rfl).app hK1
                        have hgr : sz + 3 ≤ H1.size := by omega
                        generalize H1 = H at hP hS hgr ⊢
                        have hP : va_P (dC, dI) vwCl [(h0, .inr (7, [.ref oB, .ref oP])), (oM, .inr (3, [.ref ad, .ref ab, .int 0])), (am, .inl (tm, 512, .inl u24.1)), (ar, .inl (tr, 8, .inl u24.2)), (oP, .inr (5, [.ref ar, .ref oB, .ref oS, .int 0, .int 0, .int 0, .int 4, .int 0, .int 0])), (oB, .inr (0, [.ref am, .ref oM, .ref oS, .ref oK, .ref oL, .ref oD])), (oS, .inr (6, [.int 224, .int (-1)])), (oD, .inr (1, [.int 128, .int 0, .ref aw, .int 0, .int 0, .int 0, .int 0, .int 0, .int 0, .int 0])), (oK, .inr (2, [.int 0, .int 0, .int 0])), (oL, .inr (4, [.int 128, .int 0, .ref ap, .int 0, .int 0, .int 0, .int 0]))] H := hP
                        have hD : va_D A [(h0, .inr (7, [.ref oB, .ref oP])), (oM, .inr (3, [.ref ad, .ref ab, .int 0])), (am, .inl (tm, 512, .inl u24.1)), (ar, .inl (tr, 8, .inl u24.2)), (oP, .inr (5, [.ref ar, .ref oB, .ref oS, .int 0, .int 0, .int 0, .int 4, .int 0, .int 0])), (oB, .inr (0, [.ref am, .ref oM, .ref oS, .ref oK, .ref oL, .ref oD])), (oS, .inr (6, [.int 224, .int (-1)])), (oD, .inr (1, [.int 128, .int 0, .ref aw, .int 0, .int 0, .int 0, .int 0, .int 0, .int 0, .int 0])), (oK, .inr (2, [.int 0, .int 0, .int 0])), (oL, .inr (4, [.int 128, .int 0, .ref ap, .int 0, .int 0, .int 0, .int 0]))] := hD
                        have hK : va_K (dC, dI) vwCl [(tm, .int), (tr, .int)] s := hK
                        refine W.widen (k := 3) (n := 18) (Nat.le_of_ble_eq_true rfl) (Nat.le_of_ble_eq_true rfl) ?_
                        refine lv_aload_n hx hb dX8_run_75 rfl (lv_at hl 1 rfl) ?_
                        refine va_get (D := (dC, dI)) (ci := 7) (v := .ref oP) (C := RX8) (T := TX8) (N := 2) hx hb hts (by decide +kernel) hown hK hP 0 rfl rfl 1 (by decide) (hts (.fieldLink RX8 21 "UnibusMachine" "processor" "LUnibusMachine$Processor;") (by decide +kernel)) (fun _ h9 => h9) rfl dX8_run_76 ?_
                        refine va_get (D := (dC, dI)) (ci := 5) (v := .int 0) (C := RX6) (T := TX6) (N := 9) hx hb hts (by decide +kernel) hown hK hP 4 rfl rfl 4 (by decide) (hts (.fieldLink RX8 63 "UnibusMachine$Processor" "halted" "I") (by decide +kernel)) (fun _ h9 => h9) rfl dX8_run_79 ?_
                        refine lv_if_eq (tgt := 87) hx hb dX8_run_82 (by decide) (fun c30 => ?_) (fun c30 => ?_)
                        · skip
                          refine lv_iinc (v := 4) (lv' := [(2, .int 4), (0, .ref h0), (1, .int 4)]) hx hb dX8_run_87 hl (k := 0) rfl (by decide) (by decide) rfl (fun ls hl => ?_)
                          refine lv_goto (tgt := 39) hx hb dX8_run_90 (by decide) ?_
                          refine lv_iload_n hx hb dX8_run_39 rfl (lv_at hl 0 rfl) ?_
                          refine lv_iload_n hx hb dX8_run_40 rfl (lv_at hl 2 rfl) ?_
                          refine lv_icmp_gt (tgt := 93) hx hb dX8_run_41 (by decide) (fun c31 => ?_) (fun c31 => ?_)
                          · exact absurd c31 (by decide)
                          · skip
                            refine lv_aload_n hx hb dX8_run_44 rfl (lv_at hl 1 rfl) ?_
                            refine va_get (D := (dC, dI)) (ci := 7) (v := .ref oP) (C := RX8) (T := TX8) (N := 2) hx hb hts (by decide +kernel) hown hK hP 0 rfl rfl 1 (by decide) (hts (.fieldLink RX8 21 "UnibusMachine" "processor" "LUnibusMachine$Processor;") (by decide +kernel)) (fun _ h9 => h9) rfl dX8_run_45 ?_
                            have hPc := hP.sub (ws' := [(oP, .inr (5, [.ref ar, .ref oB, .ref oS, .int 0, .int 0, .int 0, .int 4, .int 0, .int 0])), (oB, .inr (0, [.ref am, .ref oM, .ref oS, .ref oK, .ref oL, .ref oD])), (oS, .inr (6, [.int 224, .int (-1)])), (oM, .inr (3, [.ref ad, .ref ab, .int 0])), (am, .inl (tm, 512, .inl u24.1)), (ar, .inl (tr, 8, .inl u24.2)), (oL, .inr (4, [.int 128, .int 0, .ref ap, .int 0, .int 0, .int 0, .int 0])), (oD, .inr (1, [.int 128, .int 0, .ref aw, .int 0, .int 0, .int 0, .int 0, .int 0, .int 0, .int 0]))]) [4, 5, 6, 1, 2, 3, 9, 7] rfl
                            have hDc := hD.sub (ws' := [(oP, .inr (5, [.ref ar, .ref oB, .ref oS, .int 0, .int 0, .int 0, .int 4, .int 0, .int 0])), (oB, .inr (0, [.ref am, .ref oM, .ref oS, .ref oK, .ref oL, .ref oD])), (oS, .inr (6, [.int 224, .int (-1)])), (oM, .inr (3, [.ref ad, .ref ab, .int 0])), (am, .inl (tm, 512, .inl u24.1)), (ar, .inl (tr, 8, .inl u24.2)), (oL, .inr (4, [.int 128, .int 0, .ref ap, .int 0, .int 0, .int 0, .int 0])), (oD, .inr (1, [.int 128, .int 0, .ref aw, .int 0, .int 0, .int 0, .int 0, .int 0, .int 0, .int 0]))]) [4, 5, 6, 1, 2, 3, 9, 7] (by decide) rfl
                            have hKc := hK.sub (tys' := [(tm, .int), (tr, .int)]) [0, 1] rfl
                            have hFc := va_free (wc := [(oP, .inr (5, [.ref ar, .ref oB, .ref oS, .int 0, .int 0, .int 0, .int 4, .int 0, .int 0])), (oB, .inr (0, [.ref am, .ref oM, .ref oS, .ref oK, .ref oL, .ref oD])), (oS, .inr (6, [.int 224, .int (-1)])), (oM, .inr (3, [.ref ad, .ref ab, .int 0])), (am, .inl (tm, 512, .inl u24.1)), (ar, .inl (tr, 8, .inl u24.2)), (oL, .inr (4, [.int 128, .int 0, .ref ap, .int 0, .int 0, .int 0, .int 0])), (oD, .inr (1, [.int 128, .int 0, .ref aw, .int 0, .int 0, .int 0, .int 0, .int 0, .int 0, .int 0]))]) hD hS hA [4, 5, 6, 1, 2, 3, 9, 7] rfl
                            have hSz := hS.1
                            refine va_callv (vx_runVW (As := []) (rest := []) ⟨hx, hb, hml, hown, hts⟩ (c_perform l dC dI oP ar oB oS 4 am oM oK oL oD ad ab tm u24.1 tr u24.2 (((z - 4) - 4) - 4) ap aw H.size hlt (by first | assumption | omega) (by first | assumption | omega) (by first | assumption | omega) (by first | assumption | omega) (by first | assumption | omega) (by first | assumption | omega) (by first | assumption | omega)) (vx_cwVW 0 hts gX8_run_X6_perform rfl rfl rfl (by decide +kernel) ⟨Nat.le_of_ble_eq_true rfl, Nat.le_of_ble_eq_true rfl⟩) ⟨fun a U g mk q => by obtain ⟨q0, q1, qP, qK, qD, e0, e1, e2, e3, e4, e5⟩ := q; exact ⟨q0, q1, qP, va_K.moved (u := U) (U := U.calling g mk a) (Vm.Alike.refl U.vm) qK, qD, vx_Zq.moved (u := U) (U := U.calling g mk a) (Vm.Alike.refl U.vm) e0, vx_Zq.moved (u := U) (U := U.calling g mk a) (Vm.Alike.refl U.vm) e1, va_Nw.same (U := U.calling g mk a) rfl rfl e2, va_Nw.same (U := U.calling g mk a) rfl rfl e3, va_Nw.same (U := U.calling g mk a) rfl rfl e4, va_Nw.same (U := U.calling g mk a) rfl rfl e5⟩, va_recv hKc hPc (ci := 5) (q0 := 0) rfl rfl, fun U hU hW => ⟨rfl, by rw [hU], by rw [hU]; exact hPc, va_K.moved hW.alike hKc, hDc.weaken (fun _ _ _ _ => trivial), by rw [hU]; exact vx_Zq.moved hW.alike (vx_Zq.narrow (vx_Zq.kept hZU hS.2.1) hFc), by rw [hU]; exact vx_Zq.moved hW.alike (vx_Zq.narrow (vx_Zq.kept hZN hS.2.1) hFc), va_Nw.warmD hW hd1, va_Nw.warmD hW hd2, va_Nw.warmD hW hd3, va_Nw.warmC hW hcU⟩⟩ rfl rfl hl.1 rfl (lv_room (Nat.le_of_ble_eq_true rfl)) dX8_run_48 ⟨Nat.le_of_ble_eq_true rfl, Nat.le_of_ble_eq_true rfl⟩) hS (fun q _ h => hFc q h) hFc (fun u33 t H1 locs ht hvm hw hB hz1 hk1 hS => ?_)
                            obtain ⟨hP1, hK1, hD1, hg1⟩ := hB
                            rw [ht] at hP1 hg1
                            have hK1 := va_K.moved hvm.symm hK1
                            try dsimp only at hw
                            obtain ⟨hP, hD⟩ := va_join (wr := [(h0, .inr (7, [.ref oB, .ref oP])), (oK, .inr (2, [.int 0, .int 0, .int 0]))]) (w1 := [(oP, .inr (5, [.ref ar, .ref oB, .ref oS, .int 0, .int 0, .int 0, .int 4, .int 0, .int 0])), (oB, .inr (0, [.ref am, .ref oM, .ref oS, .ref oK, .ref oL, .ref oD])), (oS, .inr (6, [.int 224, .int (-1)])), (oM, .inr (3, [.ref ad, .ref ab, .int 0])), (am, .inl (tm, 512, .inl u33.1)), (ar, .inl (tr, 8, .inl u33.2)), (oL, .inr (4, [.int 128, .int 0, .ref ap, .int 0, .int 0, .int 0, .int 0])), (oD, .inr (1, [.int 128, .int 0, .ref aw, .int 0, .int 0, .int 0, .int 0, .int 0, .int 0, .int 0]))]) hP hD [4, 5, 6, 1, 2, 3, 9, 7] [0, 8] rfl rfl (by decide) (by decide) hk1 hFc hP1 hD1
                            have hK := (hK.sub (tys' := []) [] rfl).app hK1
                            have hgr : sz + 4 ≤ H1.size := by omega
                            generalize H1 = H at hP hS hgr ⊢
                            have hP : va_P (dC, dI) vwCl [(h0, .inr (7, [.ref oB, .ref oP])), (oK, .inr (2, [.int 0, .int 0, .int 0])), (oP, .inr (5, [.ref ar, .ref oB, .ref oS, .int 0, .int 0, .int 0, .int 4, .int 0, .int 0])), (oB, .inr (0, [.ref am, .ref oM, .ref oS, .ref oK, .ref oL, .ref oD])), (oS, .inr (6, [.int 224, .int (-1)])), (oM, .inr (3, [.ref ad, .ref ab, .int 0])), (am, .inl (tm, 512, .inl u33.1)), (ar, .inl (tr, 8, .inl u33.2)), (oL, .inr (4, [.int 128, .int 0, .ref ap, .int 0, .int 0, .int 0, .int 0])), (oD, .inr (1, [.int 128, .int 0, .ref aw, .int 0, .int 0, .int 0, .int 0, .int 0, .int 0, .int 0]))] H := hP
                            have hD : va_D A [(h0, .inr (7, [.ref oB, .ref oP])), (oK, .inr (2, [.int 0, .int 0, .int 0])), (oP, .inr (5, [.ref ar, .ref oB, .ref oS, .int 0, .int 0, .int 0, .int 4, .int 0, .int 0])), (oB, .inr (0, [.ref am, .ref oM, .ref oS, .ref oK, .ref oL, .ref oD])), (oS, .inr (6, [.int 224, .int (-1)])), (oM, .inr (3, [.ref ad, .ref ab, .int 0])), (am, .inl (tm, 512, .inl u33.1)), (ar, .inl (tr, 8, .inl u33.2)), (oL, .inr (4, [.int 128, .int 0, .ref ap, .int 0, .int 0, .int 0, .int 0])), (oD, .inr (1, [.int 128, .int 0, .ref aw, .int 0, .int 0, .int 0, .int 0, .int 0, .int 0, .int 0]))] := hD
                            have hK : va_K (dC, dI) vwCl [(tm, .int), (tr, .int)] s := hK
                            refine W.widen (k := 4) (n := 24) (Nat.le_of_ble_eq_true rfl) (Nat.le_of_ble_eq_true rfl) ?_
                            obtain ⟨_, _, _, _⟩ := hw
                            refine lv_aload_n hx hb dX8_run_51 rfl (lv_at hl 1 rfl) ?_
                            refine va_get (D := (dC, dI)) (ci := 7) (v := .ref oP) (C := RX8) (T := TX8) (N := 2) hx hb hts (by decide +kernel) hown hK hP 0 rfl rfl 1 (by decide) (hts (.fieldLink RX8 21 "UnibusMachine" "processor" "LUnibusMachine$Processor;") (by decide +kernel)) (fun _ h9 => h9) rfl dX8_run_52 ?_
                            refine va_get (D := (dC, dI)) (ci := 5) (v := .int 0) (C := RX6) (T := TX6) (N := 9) hx hb hts (by decide +kernel) hown hK hP 2 rfl rfl 4 (by decide) (hts (.fieldLink RX8 63 "UnibusMachine$Processor" "halted" "I") (by decide +kernel)) (fun _ h9 => h9) rfl dX8_run_55 ?_
                            refine lv_if_ne (tgt := 75) hx hb dX8_run_58 (by decide) (fun c34 => ?_) (fun c34 => ?_)
                            · exact absurd c34 (by decide)
                            · skip
                              refine lv_aload_n hx hb dX8_run_61 rfl (lv_at hl 1 rfl) ?_
                              refine va_get (D := (dC, dI)) (ci := 7) (v := .ref oB) (C := RX8) (T := TX8) (N := 2) hx hb hts (by decide +kernel) hown hK hP 0 rfl rfl 0 (by decide) (hts (.fieldLink RX8 10 "UnibusMachine" "bus" "LUnibusMachine$Bus;") (by decide +kernel)) (fun _ h9 => h9) rfl dX8_run_62 ?_
                              have hPc := hP.sub (ws' := [(oB, .inr (0, [.ref am, .ref oM, .ref oS, .ref oK, .ref oL, .ref oD])), (oL, .inr (4, [.int 128, .int 0, .ref ap, .int 0, .int 0, .int 0, .int 0])), (oD, .inr (1, [.int 128, .int 0, .ref aw, .int 0, .int 0, .int 0, .int 0, .int 0, .int 0, .int 0]))]) [3, 8, 9] rfl
                              have hDc := hD.sub (ws' := [(oB, .inr (0, [.ref am, .ref oM, .ref oS, .ref oK, .ref oL, .ref oD])), (oL, .inr (4, [.int 128, .int 0, .ref ap, .int 0, .int 0, .int 0, .int 0])), (oD, .inr (1, [.int 128, .int 0, .ref aw, .int 0, .int 0, .int 0, .int 0, .int 0, .int 0, .int 0]))]) [3, 8, 9] (by decide) rfl
                              have hKc := hK.sub (tys' := []) [] rfl
                              have hFc := va_free (wc := [(oB, .inr (0, [.ref am, .ref oM, .ref oS, .ref oK, .ref oL, .ref oD])), (oL, .inr (4, [.int 128, .int 0, .ref ap, .int 0, .int 0, .int 0, .int 0])), (oD, .inr (1, [.int 128, .int 0, .ref aw, .int 0, .int 0, .int 0, .int 0, .int 0, .int 0, .int 0]))]) hD hS hA [3, 8, 9] rfl
                              have hSz := hS.1
                              refine va_callv (va_runV (As := []) (rest := []) ⟨hx, hb, hml, hown, hts⟩ (c_goOn l dC dI oB am oM oS oK oL oD ap aw H.size) (cwV 0 hts gX8_run_X0_goOn rfl rfl rfl (by decide +kernel) ⟨Nat.le_of_ble_eq_true rfl, Nat.le_of_ble_eq_true rfl⟩) ⟨fun a U g mk q => by obtain ⟨q0, q1, qP, qK, qD⟩ := q; exact ⟨q0, q1, qP, va_K.moved (u := U) (U := U.calling g mk a) (Vm.Alike.refl U.vm) qK, qD⟩, va_recv hKc hPc (ci := 0) (q0 := 0) rfl rfl, fun U hU hW => ⟨rfl, by rw [hU], by rw [hU]; exact hPc, va_K.moved hW.alike hKc, hDc.weaken (fun _ _ _ _ => trivial)⟩⟩ rfl rfl hl.1 rfl (lv_room (Nat.le_of_ble_eq_true rfl)) dX8_run_65 ⟨Nat.le_of_ble_eq_true rfl, Nat.le_of_ble_eq_true rfl⟩) hS (fun q _ h => hFc q h) hFc (fun u36 t H1 locs ht hvm hw hB hz1 hk1 hS => ?_)
                              obtain ⟨hP1, hK1, hD1⟩ := hB
                              rw [ht] at hP1
                              have hK1 := va_K.moved hvm.symm hK1
                              try dsimp only at hw
                              obtain ⟨hP, hD⟩ := va_join (wr := [(h0, .inr (7, [.ref oB, .ref oP])), (oK, .inr (2, [.int 0, .int 0, .int 0])), (oP, .inr (5, [.ref ar, .ref oB, .ref oS, .int 0, .int 0, .int 0, .int 4, .int 0, .int 0])), (oS, .inr (6, [.int 224, .int (-1)])), (oM, .inr (3, [.ref ad, .ref ab, .int 0])), (am, .inl (tm, 512, .inl u33.1)), (ar, .inl (tr, 8, .inl u33.2))]) (w1 := [(oB, .inr (0, [.ref am, .ref oM, .ref oS, .ref oK, .ref oL, .ref oD])), (oL, .inr (4, [.int 128, .int 0, .ref ap, .int 0, .int 0, .int 0, .int 0])), (oD, .inr (1, [.int 128, .int 0, .ref aw, .int 0, .int 0, .int 0, .int 0, .int 0, .int 0, .int 0]))]) hP hD [3, 8, 9] [0, 1, 2, 4, 5, 6, 7] rfl rfl (by decide) (by decide) hk1 hFc hP1 hD1
                              have hK := (hK.sub (tys' := [(tm, .int), (tr, .int)]) [0, 1] rfl).app hK1
                              have hgr : sz + 4 ≤ H1.size := by omega
                              generalize H1 = H at hP hS hgr ⊢
                              have hP : va_P (dC, dI) vwCl [(h0, .inr (7, [.ref oB, .ref oP])), (oK, .inr (2, [.int 0, .int 0, .int 0])), (oP, .inr (5, [.ref ar, .ref oB, .ref oS, .int 0, .int 0, .int 0, .int 4, .int 0, .int 0])), (oS, .inr (6, [.int 224, .int (-1)])), (oM, .inr (3, [.ref ad, .ref ab, .int 0])), (am, .inl (tm, 512, .inl u33.1)), (ar, .inl (tr, 8, .inl u33.2)), (oB, .inr (0, [.ref am, .ref oM, .ref oS, .ref oK, .ref oL, .ref oD])), (oL, .inr (4, [.int 128, .int 0, .ref ap, .int 0, .int 0, .int 0, .int 0])), (oD, .inr (1, [.int 128, .int 0, .ref aw, .int 0, .int 0, .int 0, .int 0, .int 0, .int 0, .int 0]))] H := hP
                              have hD : va_D A [(h0, .inr (7, [.ref oB, .ref oP])), (oK, .inr (2, [.int 0, .int 0, .int 0])), (oP, .inr (5, [.ref ar, .ref oB, .ref oS, .int 0, .int 0, .int 0, .int 4, .int 0, .int 0])), (oS, .inr (6, [.int 224, .int (-1)])), (oM, .inr (3, [.ref ad, .ref ab, .int 0])), (am, .inl (tm, 512, .inl u33.1)), (ar, .inl (tr, 8, .inl u33.2)), (oB, .inr (0, [.ref am, .ref oM, .ref oS, .ref oK, .ref oL, .ref oD])), (oL, .inr (4, [.int 128, .int 0, .ref ap, .int 0, .int 0, .int 0, .int 0])), (oD, .inr (1, [.int 128, .int 0, .ref aw, .int 0, .int 0, .int 0, .int 0, .int 0, .int 0, .int 0]))] := hD
                              have hK : va_K (dC, dI) vwCl [(tm, .int), (tr, .int)] s := hK
                              refine W.widen (k := 4) (n := 24) (Nat.le_of_ble_eq_true rfl) (Nat.le_of_ble_eq_true rfl) ?_
                              refine lv_aload_n hx hb dX8_run_68 rfl (lv_at hl 1 rfl) ?_
                              refine va_get (D := (dC, dI)) (ci := 7) (v := .ref oP) (C := RX8) (T := TX8) (N := 2) hx hb hts (by decide +kernel) hown hK hP 0 rfl rfl 1 (by decide) (hts (.fieldLink RX8 21 "UnibusMachine" "processor" "LUnibusMachine$Processor;") (by decide +kernel)) (fun _ h9 => h9) rfl dX8_run_69 ?_
                              have hPc := hP.sub (ws' := [(oP, .inr (5, [.ref ar, .ref oB, .ref oS, .int 0, .int 0, .int 0, .int 4, .int 0, .int 0])), (oB, .inr (0, [.ref am, .ref oM, .ref oS, .ref oK, .ref oL, .ref oD])), (oS, .inr (6, [.int 224, .int (-1)])), (oD, .inr (1, [.int 128, .int 0, .ref aw, .int 0, .int 0, .int 0, .int 0, .int 0, .int 0, .int 0])), (oK, .inr (2, [.int 0, .int 0, .int 0])), (oL, .inr (4, [.int 128, .int 0, .ref ap, .int 0, .int 0, .int 0, .int 0]))]) [2, 7, 3, 9, 1, 8] rfl
                              have hDc := hD.sub (ws' := [(oP, .inr (5, [.ref ar, .ref oB, .ref oS, .int 0, .int 0, .int 0, .int 4, .int 0, .int 0])), (oB, .inr (0, [.ref am, .ref oM, .ref oS, .ref oK, .ref oL, .ref oD])), (oS, .inr (6, [.int 224, .int (-1)])), (oD, .inr (1, [.int 128, .int 0, .ref aw, .int 0, .int 0, .int 0, .int 0, .int 0, .int 0, .int 0])), (oK, .inr (2, [.int 0, .int 0, .int 0])), (oL, .inr (4, [.int 128, .int 0, .ref ap, .int 0, .int 0, .int 0, .int 0]))]) [2, 7, 3, 9, 1, 8] (by decide) rfl
                              have hKc := hK.sub (tys' := []) [] rfl
                              have hFc := va_free (wc := [(oP, .inr (5, [.ref ar, .ref oB, .ref oS, .int 0, .int 0, .int 0, .int 4, .int 0, .int 0])), (oB, .inr (0, [.ref am, .ref oM, .ref oS, .ref oK, .ref oL, .ref oD])), (oS, .inr (6, [.int 224, .int (-1)])), (oD, .inr (1, [.int 128, .int 0, .ref aw, .int 0, .int 0, .int 0, .int 0, .int 0, .int 0, .int 0])), (oK, .inr (2, [.int 0, .int 0, .int 0])), (oL, .inr (4, [.int 128, .int 0, .ref ap, .int 0, .int 0, .int 0, .int 0]))]) hD hS hA [2, 7, 3, 9, 1, 8] rfl
                              have hSz := hS.1
                              refine va_callv (va_runV (As := []) (rest := []) ⟨hx, hb, hml, hown, hts⟩ (c_look l dC dI oP ar oB oS 4 am oM oK oL oD ap aw H.size) (cwV 0 hts gX8_run_X6_lookForInterrupt rfl rfl rfl (by decide +kernel) ⟨Nat.le_of_ble_eq_true rfl, Nat.le_of_ble_eq_true rfl⟩) ⟨fun a U g mk q => by obtain ⟨q0, q1, qP, qK, qD⟩ := q; exact ⟨q0, q1, qP, va_K.moved (u := U) (U := U.calling g mk a) (Vm.Alike.refl U.vm) qK, qD⟩, va_recv hKc hPc (ci := 5) (q0 := 0) rfl rfl, fun U hU hW => ⟨rfl, by rw [hU], by rw [hU]; exact hPc, va_K.moved hW.alike hKc, hDc.weaken (fun _ _ _ _ => trivial)⟩⟩ rfl rfl hl.1 rfl (lv_room (Nat.le_of_ble_eq_true rfl)) dX8_run_72 ⟨Nat.le_of_ble_eq_true rfl, Nat.le_of_ble_eq_true rfl⟩) hS (fun q _ h => hFc q h) hFc (fun u38 t H1 locs ht hvm hw hB hz1 hk1 hS => ?_)
                              obtain ⟨hP1, hK1, hD1⟩ := hB
                              rw [ht] at hP1
                              have hK1 := va_K.moved hvm.symm hK1
                              try dsimp only at hw
                              obtain ⟨hP, hD⟩ := va_join (wr := [(h0, .inr (7, [.ref oB, .ref oP])), (oM, .inr (3, [.ref ad, .ref ab, .int 0])), (am, .inl (tm, 512, .inl u33.1)), (ar, .inl (tr, 8, .inl u33.2))]) (w1 := [(oP, .inr (5, [.ref ar, .ref oB, .ref oS, .int 0, .int 0, .int 0, .int 4, .int 0, .int 0])), (oB, .inr (0, [.ref am, .ref oM, .ref oS, .ref oK, .ref oL, .ref oD])), (oS, .inr (6, [.int 224, .int (-1)])), (oD, .inr (1, [.int 128, .int 0, .ref aw, .int 0, .int 0, .int 0, .int 0, .int 0, .int 0, .int 0])), (oK, .inr (2, [.int 0, .int 0, .int 0])), (oL, .inr (4, [.int 128, .int 0, .ref ap, .int 0, .int 0, .int 0, .int 0]))]) hP hD [2, 7, 3, 9, 1, 8] [0, 4, 5, 6] rfl rfl (by decide) (by decide) hk1 hFc hP1 hD1
                              have hK := (hK.sub (tys' := [(tm, .int), (tr, .int)]) [0, 1] rfl).app hK1
                              have hgr : sz + 4 ≤ H1.size := by omega
                              generalize H1 = H at hP hS hgr ⊢
                              have hP : va_P (dC, dI) vwCl [(h0, .inr (7, [.ref oB, .ref oP])), (oM, .inr (3, [.ref ad, .ref ab, .int 0])), (am, .inl (tm, 512, .inl u33.1)), (ar, .inl (tr, 8, .inl u33.2)), (oP, .inr (5, [.ref ar, .ref oB, .ref oS, .int 0, .int 0, .int 0, .int 4, .int 0, .int 0])), (oB, .inr (0, [.ref am, .ref oM, .ref oS, .ref oK, .ref oL, .ref oD])), (oS, .inr (6, [.int 224, .int (-1)])), (oD, .inr (1, [.int 128, .int 0, .ref aw, .int 0, .int 0, .int 0, .int 0, .int 0, .int 0, .int 0])), (oK, .inr (2, [.int 0, .int 0, .int 0])), (oL, .inr (4, [.int 128, .int 0, .ref ap, .int 0, .int 0, .int 0, .int 0]))] H := hP
                              have hD : va_D A [(h0, .inr (7, [.ref oB, .ref oP])), (oM, .inr (3, [.ref ad, .ref ab, .int 0])), (am, .inl (tm, 512, .inl u33.1)), (ar, .inl (tr, 8, .inl u33.2)), (oP, .inr (5, [.ref ar, .ref oB, .ref oS, .int 0, .int 0, .int 0, .int 4, .int 0, .int 0])), (oB, .inr (0, [.ref am, .ref oM, .ref oS, .ref oK, .ref oL, .ref oD])), (oS, .inr (6, [.int 224, .int (-1)])), (oD, .inr (1, [.int 128, .int 0, .ref aw, .int 0, .int 0, .int 0, .int 0, .int 0, .int 0, .int 0])), (oK, .inr (2, [.int 0, .int 0, .int 0])), (oL, .inr (4, [.int 128, .int 0, .ref ap, .int 0, .int 0, .int 0, .int 0]))] := hD
                              have hK : va_K (dC, dI) vwCl [(tm, .int), (tr, .int)] s := hK
                              refine W.widen (k := 4) (n := 24) (Nat.le_of_ble_eq_true rfl) (Nat.le_of_ble_eq_true rfl) ?_
                              refine lv_aload_n hx hb dX8_run_75 rfl (lv_at hl 1 rfl) ?_
                              refine va_get (D := (dC, dI)) (ci := 7) (v := .ref oP) (C := RX8) (T := TX8) (N := 2) hx hb hts (by decide +kernel) hown hK hP 0 rfl rfl 1 (by decide) (hts (.fieldLink RX8 21 "UnibusMachine" "processor" "LUnibusMachine$Processor;") (by decide +kernel)) (fun _ h9 => h9) rfl dX8_run_76 ?_
                              refine va_get (D := (dC, dI)) (ci := 5) (v := .int 0) (C := RX6) (T := TX6) (N := 9) hx hb hts (by decide +kernel) hown hK hP 4 rfl rfl 4 (by decide) (hts (.fieldLink RX8 63 "UnibusMachine$Processor" "halted" "I") (by decide +kernel)) (fun _ h9 => h9) rfl dX8_run_79 ?_
                              refine lv_if_eq (tgt := 87) hx hb dX8_run_82 (by decide) (fun c39 => ?_) (fun c39 => ?_)
                              · skip
                                refine lv_iinc (v := 5) (lv' := [(2, .int 5), (0, .ref h0), (1, .int 4)]) hx hb dX8_run_87 hl (k := 0) rfl (by decide) (by decide) rfl (fun ls hl => ?_)
                                refine lv_goto (tgt := 39) hx hb dX8_run_90 (by decide) ?_
                                refine lv_iload_n hx hb dX8_run_39 rfl (lv_at hl 0 rfl) ?_
                                refine lv_iload_n hx hb dX8_run_40 rfl (lv_at hl 2 rfl) ?_
                                refine lv_icmp_gt (tgt := 93) hx hb dX8_run_41 (by decide) (fun c40 => ?_) (fun c40 => ?_)
                                · skip
                                  refine lv_iload_n hx hb dX8_run_93 rfl (lv_at hl 2 rfl) ?_
                                  have hx41 : u33.1 (2 : Int32).toNatClampNeg = 1 := by first | assumption | omega
                                  have hx42 : u33.1 (3 : Int32).toNatClampNeg = 224 := by first | assumption | omega
                                  have hx43 : u33.2 (7 : Int32).toNatClampNeg = 1 := by first | assumption | omega
                                  have hx44 : (u33.2 (6 : Int32).toNatClampNeg).toInt = z - 16 := by first | assumption | omega
                                  have hP9 := hP.sub (ws' := [(h0, .inr (7, [.ref oB, .ref oP])), (oP, .inr (5, [.ref ar, .ref oB, .ref oS, .int 0, .int 0, .int 0, .int 4, .int 0, .int 0])), (oB, .inr (0, [.ref am, .ref oM, .ref oS, .ref oK, .ref oL, .ref oD])), (oS, .inr (6, [.int 224, .int (-1)])), (oM, .inr (3, [.ref ad, .ref ab, .int 0])), (am, .inl (tm, 512, .inl u33.1)), (ar, .inl (tr, 8, .inl u33.2)), (oL, .inr (4, [.int 128, .int 0, .ref ap, .int 0, .int 0, .int 0, .int 0])), (oD, .inr (1, [.int 128, .int 0, .ref aw, .int 0, .int 0, .int 0, .int 0, .int 0, .int 0, .int 0])), (oK, .inr (2, [.int 0, .int 0, .int 0]))]) [0, 4, 5, 6, 1, 2, 3, 9, 7, 8] rfl
                                  have hD9 := hD.sub (ws' := [(h0, .inr (7, [.ref oB, .ref oP])), (oP, .inr (5, [.ref ar, .ref oB, .ref oS, .int 0, .int 0, .int 0, .int 4, .int 0, .int 0])), (oB, .inr (0, [.ref am, .ref oM, .ref oS, .ref oK, .ref oL, .ref oD])), (oS, .inr (6, [.int 224, .int (-1)])), (oM, .inr (3, [.ref ad, .ref ab, .int 0])), (am, .inl (tm, 512, .inl u33.1)), (ar, .inl (tr, 8, .inl u33.2)), (oL, .inr (4, [.int 128, .int 0, .ref ap, .int 0, .int 0, .int 0, .int 0])), (oD, .inr (1, [.int 128, .int 0, .ref aw, .int 0, .int 0, .int 0, .int 0, .int 0, .int 0, .int 0])), (oK, .inr (2, [.int 0, .int 0, .int 0]))]) [0, 4, 5, 6, 1, 2, 3, 9, 7, 8] (by decide) rfl
                                  have hK9 := hK.sub (tys' := [(tm, .int), (tr, .int)]) [0, 1] rfl
                                  exact W.iret (v := 4) hx hb hr (fun t ht hW => ⟨⟨4, (u33.1, u33.2), rfl, ⟨rfl, hx41, hx42, hx43, hx44⟩, by rw [ht]; exact hP9, va_K.moved hW.alike hK9, hD9, by rw [ht]; omega⟩, hS.F ht⟩) hS.2.2 dX8_run_94
                                · exact absurd c40 (by decide)
                              · exact absurd c39 (by decide)
                        · exact absurd c30 (by decide)
                  · exact absurd c21 (by decide)
            · exact absurd c12 (by decide)
      · exact absurd c3 (by decide)
    · exact absurd c2 (by decide)
end
