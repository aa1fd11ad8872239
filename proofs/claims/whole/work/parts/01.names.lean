/-- a private method of a class that the tables say can be made, by its rows of tables_1 -/
def lw_okq (q : MethodName × Nat) : Prop := (q.1.cls ≠ "java/lang/invoke/MethodHandle" ∧ q.1.cls ≠ "java/lang/invoke/VarHandle") ∧ Cond.instantiable q.1.cls q.2 ∈ tables_1 ∧ Cond.privateMethod q.1 ∈ tables_1 ∧ Cond.instanceMethod q.1 ∈ tables_1
theorem lw_p0 : lw_okq (⟨"LosslessFabric$Tape", "scanWord", "()V"⟩, 7) := ⟨⟨by decide +kernel, by decide +kernel⟩, List.mem_of_getElem? (i := 30) (by decide +kernel), List.mem_of_getElem? (i := 314) (by decide +kernel), List.mem_of_getElem? (i := 315) (by decide +kernel)⟩
theorem lw_p1 : lw_okq (⟨"LosslessFabric$Tape", "scanNumber", "()V"⟩, 7) := ⟨⟨by decide +kernel, by decide +kernel⟩, List.mem_of_getElem? (i := 30) (by decide +kernel), List.mem_of_getElem? (i := 330) (by decide +kernel), List.mem_of_getElem? (i := 331) (by decide +kernel)⟩
theorem lw_p2 : lw_okq (⟨"LosslessFabric$Reader", "failed", "(LLosslessFabric$Tape;I)Z"⟩, 3) := ⟨⟨by decide +kernel, by decide +kernel⟩, List.mem_of_getElem? (i := 64) (by decide +kernel), List.mem_of_getElem? (i := 339) (by decide +kernel), List.mem_of_getElem? (i := 340) (by decide +kernel)⟩
theorem lw_p3 : lw_okq (⟨"LosslessFabric$Reader", "readLink", "(LLosslessFabric$Tape;LLosslessFabric$Plan;[I)Z"⟩, 3) := ⟨⟨by decide +kernel, by decide +kernel⟩, List.mem_of_getElem? (i := 64) (by decide +kernel), List.mem_of_getElem? (i := 343) (by decide +kernel), List.mem_of_getElem? (i := 344) (by decide +kernel)⟩
theorem lw_p4 : lw_okq (⟨"LosslessFabric$Reader", "readName", "(LLosslessFabric$Tape;)Z"⟩, 3) := ⟨⟨by decide +kernel, by decide +kernel⟩, List.mem_of_getElem? (i := 64) (by decide +kernel), List.mem_of_getElem? (i := 347) (by decide +kernel), List.mem_of_getElem? (i := 348) (by decide +kernel)⟩
theorem lw_p5 : lw_okq (⟨"LosslessFabric$Reader", "readNumber", "(LLosslessFabric$Tape;II[II)Z"⟩, 3) := ⟨⟨by decide +kernel, by decide +kernel⟩, List.mem_of_getElem? (i := 64) (by decide +kernel), List.mem_of_getElem? (i := 356) (by decide +kernel), List.mem_of_getElem? (i := 357) (by decide +kernel)⟩
theorem lw_p6 : lw_okq (⟨"LosslessFabric$Reader", "readSemicolon", "(LLosslessFabric$Tape;)Z"⟩, 3) := ⟨⟨by decide +kernel, by decide +kernel⟩, List.mem_of_getElem? (i := 64) (by decide +kernel), List.mem_of_getElem? (i := 361) (by decide +kernel), List.mem_of_getElem? (i := 362) (by decide +kernel)⟩
theorem lw_p7 : lw_okq (⟨"LosslessFabric$Reader", "readFlow", "(LLosslessFabric$Tape;LLosslessFabric$Plan;[I)Z"⟩, 3) := ⟨⟨by decide +kernel, by decide +kernel⟩, List.mem_of_getElem? (i := 64) (by decide +kernel), List.mem_of_getElem? (i := 365) (by decide +kernel), List.mem_of_getElem? (i := 366) (by decide +kernel)⟩
theorem lw_p8 : lw_okq (⟨"LosslessFabric$Reader", "readPath", "(LLosslessFabric$Tape;LLosslessFabric$Plan;I)Z"⟩, 3) := ⟨⟨by decide +kernel, by decide +kernel⟩, List.mem_of_getElem? (i := 64) (by decide +kernel), List.mem_of_getElem? (i := 373) (by decide +kernel), List.mem_of_getElem? (i := 374) (by decide +kernel)⟩
theorem lw_p9 : lw_okq (⟨"LosslessFabric$Reader", "readSample", "(LLosslessFabric$Tape;[I)Z"⟩, 3) := ⟨⟨by decide +kernel, by decide +kernel⟩, List.mem_of_getElem? (i := 64) (by decide +kernel), List.mem_of_getElem? (i := 381) (by decide +kernel), List.mem_of_getElem? (i := 382) (by decide +kernel)⟩
theorem lw_p10 : lw_okq (⟨"LosslessFabric$Reader", "isFirst", "(LLosslessFabric$Tape;I)Z"⟩, 3) := ⟨⟨by decide +kernel, by decide +kernel⟩, List.mem_of_getElem? (i := 64) (by decide +kernel), List.mem_of_getElem? (i := 385) (by decide +kernel), List.mem_of_getElem? (i := 386) (by decide +kernel)⟩
theorem lw_p11 : lw_okq (⟨"LosslessFabric$Reader", "readStage", "(LLosslessFabric$Tape;[I)Z"⟩, 3) := ⟨⟨by decide +kernel, by decide +kernel⟩, List.mem_of_getElem? (i := 64) (by decide +kernel), List.mem_of_getElem? (i := 389) (by decide +kernel), List.mem_of_getElem? (i := 390) (by decide +kernel)⟩
theorem lw_p12 : lw_okq (⟨"LosslessFabric$Reader", "readOff", "(LLosslessFabric$Tape;LLosslessFabric$Plan;[I)Z"⟩, 3) := ⟨⟨by decide +kernel, by decide +kernel⟩, List.mem_of_getElem? (i := 64) (by decide +kernel), List.mem_of_getElem? (i := 393) (by decide +kernel), List.mem_of_getElem? (i := 394) (by decide +kernel)⟩
theorem lw_p13 : lw_okq (⟨"LosslessFabric$Reader", "readSeed", "(LLosslessFabric$Tape;[I)Z"⟩, 3) := ⟨⟨by decide +kernel, by decide +kernel⟩, List.mem_of_getElem? (i := 64) (by decide +kernel), List.mem_of_getElem? (i := 397) (by decide +kernel), List.mem_of_getElem? (i := 398) (by decide +kernel)⟩
theorem lw_p14 : lw_okq (⟨"LosslessFabric", "takeWhatWasRead", "()V"⟩, 12) := ⟨⟨by decide +kernel, by decide +kernel⟩, List.mem_of_getElem? (i := 22) (by decide +kernel), List.mem_of_getElem? (i := 402) (by decide +kernel), List.mem_of_getElem? (i := 403) (by decide +kernel)⟩
theorem lw_p15 : lw_okq (⟨"LosslessFabric", "run", "([II)V"⟩, 12) := ⟨⟨by decide +kernel, by decide +kernel⟩, List.mem_of_getElem? (i := 22) (by decide +kernel), List.mem_of_getElem? (i := 433) (by decide +kernel), List.mem_of_getElem? (i := 434) (by decide +kernel)⟩
def lw_privs_1 : List (MethodName × Nat) := [(⟨"LosslessFabric$Tape", "scanWord", "()V"⟩, 7), (⟨"LosslessFabric$Tape", "scanNumber", "()V"⟩, 7), (⟨"LosslessFabric$Reader", "failed", "(LLosslessFabric$Tape;I)Z"⟩, 3), (⟨"LosslessFabric$Reader", "readLink", "(LLosslessFabric$Tape;LLosslessFabric$Plan;[I)Z"⟩, 3), (⟨"LosslessFabric$Reader", "readName", "(LLosslessFabric$Tape;)Z"⟩, 3), (⟨"LosslessFabric$Reader", "readNumber", "(LLosslessFabric$Tape;II[II)Z"⟩, 3), (⟨"LosslessFabric$Reader", "readSemicolon", "(LLosslessFabric$Tape;)Z"⟩, 3), (⟨"LosslessFabric$Reader", "readFlow", "(LLosslessFabric$Tape;LLosslessFabric$Plan;[I)Z"⟩, 3), (⟨"LosslessFabric$Reader", "readPath", "(LLosslessFabric$Tape;LLosslessFabric$Plan;I)Z"⟩, 3), (⟨"LosslessFabric$Reader", "readSample", "(LLosslessFabric$Tape;[I)Z"⟩, 3), (⟨"LosslessFabric$Reader", "isFirst", "(LLosslessFabric$Tape;I)Z"⟩, 3), (⟨"LosslessFabric$Reader", "readStage", "(LLosslessFabric$Tape;[I)Z"⟩, 3), (⟨"LosslessFabric$Reader", "readOff", "(LLosslessFabric$Tape;LLosslessFabric$Plan;[I)Z"⟩, 3), (⟨"LosslessFabric$Reader", "readSeed", "(LLosslessFabric$Tape;[I)Z"⟩, 3), (⟨"LosslessFabric", "takeWhatWasRead", "()V"⟩, 12), (⟨"LosslessFabric", "run", "([II)V"⟩, 12)]
theorem lw_r1 : ∀ q ∈ lw_privs_1, lw_okq q := List.forall_mem_cons.mpr ⟨lw_p0, List.forall_mem_cons.mpr ⟨lw_p1, List.forall_mem_cons.mpr ⟨lw_p2, List.forall_mem_cons.mpr ⟨lw_p3, List.forall_mem_cons.mpr ⟨lw_p4, List.forall_mem_cons.mpr ⟨lw_p5, List.forall_mem_cons.mpr ⟨lw_p6, List.forall_mem_cons.mpr ⟨lw_p7, List.forall_mem_cons.mpr ⟨lw_p8, List.forall_mem_cons.mpr ⟨lw_p9, List.forall_mem_cons.mpr ⟨lw_p10, List.forall_mem_cons.mpr ⟨lw_p11, List.forall_mem_cons.mpr ⟨lw_p12, List.forall_mem_cons.mpr ⟨lw_p13, List.forall_mem_cons.mpr ⟨lw_p14, List.forall_mem_cons.mpr ⟨lw_p15, fun _ h => absurd h List.not_mem_nil⟩⟩⟩⟩⟩⟩⟩⟩⟩⟩⟩⟩⟩⟩⟩⟩
theorem lw_p16 : lw_okq (⟨"LosslessFabric$Ticker", "carry", "(LLosslessFabric$Plan;[II)V"⟩, 3) := ⟨⟨by decide +kernel, by decide +kernel⟩, List.mem_of_getElem? (i := 82) (by decide +kernel), List.mem_of_getElem? (i := 442) (by decide +kernel), List.mem_of_getElem? (i := 443) (by decide +kernel)⟩
theorem lw_p17 : lw_okq (⟨"LosslessFabric$Ticker", "takeTurns", "(III)V"⟩, 3) := ⟨⟨by decide +kernel, by decide +kernel⟩, List.mem_of_getElem? (i := 82) (by decide +kernel), List.mem_of_getElem? (i := 453) (by decide +kernel), List.mem_of_getElem? (i := 454) (by decide +kernel)⟩
theorem lw_p18 : lw_okq (⟨"LosslessFabric$Ticker", "giveEach", "(IIII)I"⟩, 3) := ⟨⟨by decide +kernel, by decide +kernel⟩, List.mem_of_getElem? (i := 82) (by decide +kernel), List.mem_of_getElem? (i := 457) (by decide +kernel), List.mem_of_getElem? (i := 458) (by decide +kernel)⟩
theorem lw_p19 : lw_okq (⟨"LosslessFabric$Ticker", "takeOff", "([IIII)V"⟩, 3) := ⟨⟨by decide +kernel, by decide +kernel⟩, List.mem_of_getElem? (i := 82) (by decide +kernel), List.mem_of_getElem? (i := 461) (by decide +kernel), List.mem_of_getElem? (i := 462) (by decide +kernel)⟩
theorem lw_p20 : lw_okq (⟨"LosslessFabric$Ticker", "arrive", "(LLosslessFabric$Plan;[II)V"⟩, 3) := ⟨⟨by decide +kernel, by decide +kernel⟩, List.mem_of_getElem? (i := 82) (by decide +kernel), List.mem_of_getElem? (i := 465) (by decide +kernel), List.mem_of_getElem? (i := 466) (by decide +kernel)⟩
theorem lw_p21 : lw_okq (⟨"LosslessFabric$Ticker", "sample", "(LLosslessFabric$Plan;[II)V"⟩, 3) := ⟨⟨by decide +kernel, by decide +kernel⟩, List.mem_of_getElem? (i := 82) (by decide +kernel), List.mem_of_getElem? (i := 475) (by decide +kernel), List.mem_of_getElem? (i := 476) (by decide +kernel)⟩
theorem lw_p22 : lw_okq (⟨"LosslessFabric$Ticker", "recover", "(LLosslessFabric$Plan;[II)V"⟩, 3) := ⟨⟨by decide +kernel, by decide +kernel⟩, List.mem_of_getElem? (i := 82) (by decide +kernel), List.mem_of_getElem? (i := 492) (by decide +kernel), List.mem_of_getElem? (i := 493) (by decide +kernel)⟩
theorem lw_p23 : lw_okq (⟨"LosslessFabric", "isFlow", "(I)Z"⟩, 12) := ⟨⟨by decide +kernel, by decide +kernel⟩, List.mem_of_getElem? (i := 22) (by decide +kernel), List.mem_of_getElem? (i := 503) (by decide +kernel), List.mem_of_getElem? (i := 504) (by decide +kernel)⟩
theorem lw_p24 : lw_okq (⟨"LosslessFabric", "isLink", "(I)Z"⟩, 12) := ⟨⟨by decide +kernel, by decide +kernel⟩, List.mem_of_getElem? (i := 22) (by decide +kernel), List.mem_of_getElem? (i := 515) (by decide +kernel), List.mem_of_getElem? (i := 516) (by decide +kernel)⟩
theorem lw_p25 : lw_okq (⟨"LosslessFabric$Waits", "inCyclesOf", "(I)I"⟩, 5) := ⟨⟨by decide +kernel, by decide +kernel⟩, List.mem_of_getElem? (i := 99) (by decide +kernel), List.mem_of_getElem? (i := 579) (by decide +kernel), List.mem_of_getElem? (i := 580) (by decide +kernel)⟩
theorem lw_p26 : lw_okq (⟨"LosslessFabric$Waits", "measure", "(II)V"⟩, 5) := ⟨⟨by decide +kernel, by decide +kernel⟩, List.mem_of_getElem? (i := 99) (by decide +kernel), List.mem_of_getElem? (i := 586) (by decide +kernel), List.mem_of_getElem? (i := 587) (by decide +kernel)⟩
theorem lw_p27 : lw_okq (⟨"LosslessFabric$Waits", "nearestNext", "(II)I"⟩, 5) := ⟨⟨by decide +kernel, by decide +kernel⟩, List.mem_of_getElem? (i := 99) (by decide +kernel), List.mem_of_getElem? (i := 590) (by decide +kernel), List.mem_of_getElem? (i := 591) (by decide +kernel)⟩
theorem lw_p28 : lw_okq (⟨"LosslessFabric$Shares", "firstToFill", "(LLosslessFabric$Plan;)I"⟩, 5) := ⟨⟨by decide +kernel, by decide +kernel⟩, List.mem_of_getElem? (i := 123) (by decide +kernel), List.mem_of_getElem? (i := 620) (by decide +kernel), List.mem_of_getElem? (i := 621) (by decide +kernel)⟩
theorem lw_p29 : lw_okq (⟨"LosslessFabric$Shares", "lookAt", "(LLosslessFabric$Plan;I)V"⟩, 5) := ⟨⟨by decide +kernel, by decide +kernel⟩, List.mem_of_getElem? (i := 123) (by decide +kernel), List.mem_of_getElem? (i := 624) (by decide +kernel), List.mem_of_getElem? (i := 625) (by decide +kernel)⟩
theorem lw_p30 : lw_okq (⟨"LosslessFabric$Shares", "hold", "(LLosslessFabric$Plan;I)V"⟩, 5) := ⟨⟨by decide +kernel, by decide +kernel⟩, List.mem_of_getElem? (i := 123) (by decide +kernel), List.mem_of_getElem? (i := 628) (by decide +kernel), List.mem_of_getElem? (i := 629) (by decide +kernel)⟩
theorem lw_p31 : lw_okq (⟨"LosslessFabric$Shares", "common", "(I)I"⟩, 5) := ⟨⟨by decide +kernel, by decide +kernel⟩, List.mem_of_getElem? (i := 123) (by decide +kernel), List.mem_of_getElem? (i := 636) (by decide +kernel), List.mem_of_getElem? (i := 637) (by decide +kernel)⟩
def lw_privs_2 : List (MethodName × Nat) := [(⟨"LosslessFabric$Ticker", "carry", "(LLosslessFabric$Plan;[II)V"⟩, 3), (⟨"LosslessFabric$Ticker", "takeTurns", "(III)V"⟩, 3), (⟨"LosslessFabric$Ticker", "giveEach", "(IIII)I"⟩, 3), (⟨"LosslessFabric$Ticker", "takeOff", "([IIII)V"⟩, 3), (⟨"LosslessFabric$Ticker", "arrive", "(LLosslessFabric$Plan;[II)V"⟩, 3), (⟨"LosslessFabric$Ticker", "sample", "(LLosslessFabric$Plan;[II)V"⟩, 3), (⟨"LosslessFabric$Ticker", "recover", "(LLosslessFabric$Plan;[II)V"⟩, 3), (⟨"LosslessFabric", "isFlow", "(I)Z"⟩, 12), (⟨"LosslessFabric", "isLink", "(I)Z"⟩, 12), (⟨"LosslessFabric$Waits", "inCyclesOf", "(I)I"⟩, 5), (⟨"LosslessFabric$Waits", "measure", "(II)V"⟩, 5), (⟨"LosslessFabric$Waits", "nearestNext", "(II)I"⟩, 5), (⟨"LosslessFabric$Shares", "firstToFill", "(LLosslessFabric$Plan;)I"⟩, 5), (⟨"LosslessFabric$Shares", "lookAt", "(LLosslessFabric$Plan;I)V"⟩, 5), (⟨"LosslessFabric$Shares", "hold", "(LLosslessFabric$Plan;I)V"⟩, 5), (⟨"LosslessFabric$Shares", "common", "(I)I"⟩, 5)]
theorem lw_r2 : ∀ q ∈ lw_privs_2, lw_okq q := List.forall_mem_cons.mpr ⟨lw_p16, List.forall_mem_cons.mpr ⟨lw_p17, List.forall_mem_cons.mpr ⟨lw_p18, List.forall_mem_cons.mpr ⟨lw_p19, List.forall_mem_cons.mpr ⟨lw_p20, List.forall_mem_cons.mpr ⟨lw_p21, List.forall_mem_cons.mpr ⟨lw_p22, List.forall_mem_cons.mpr ⟨lw_p23, List.forall_mem_cons.mpr ⟨lw_p24, List.forall_mem_cons.mpr ⟨lw_p25, List.forall_mem_cons.mpr ⟨lw_p26, List.forall_mem_cons.mpr ⟨lw_p27, List.forall_mem_cons.mpr ⟨lw_p28, List.forall_mem_cons.mpr ⟨lw_p29, List.forall_mem_cons.mpr ⟨lw_p30, List.forall_mem_cons.mpr ⟨lw_p31, fun _ h => absurd h List.not_mem_nil⟩⟩⟩⟩⟩⟩⟩⟩⟩⟩⟩⟩⟩⟩⟩⟩
theorem lw_p32 : lw_okq (⟨"LosslessFabric", "startTrial", "()V"⟩, 12) := ⟨⟨by decide +kernel, by decide +kernel⟩, List.mem_of_getElem? (i := 22) (by decide +kernel), List.mem_of_getElem? (i := 657) (by decide +kernel), List.mem_of_getElem? (i := 658) (by decide +kernel)⟩
theorem lw_p33 : lw_okq (⟨"LosslessFabric", "deliveredWithout", "(II)I"⟩, 12) := ⟨⟨by decide +kernel, by decide +kernel⟩, List.mem_of_getElem? (i := 22) (by decide +kernel), List.mem_of_getElem? (i := 681) (by decide +kernel), List.mem_of_getElem? (i := 682) (by decide +kernel)⟩
theorem lw_p34 : lw_okq (⟨"LosslessFabric", "grown", "(II)I"⟩, 12) := ⟨⟨by decide +kernel, by decide +kernel⟩, List.mem_of_getElem? (i := 22) (by decide +kernel), List.mem_of_getElem? (i := 685) (by decide +kernel), List.mem_of_getElem? (i := 686) (by decide +kernel)⟩
theorem lw_p35 : lw_okq (⟨"LosslessFabric", "runByChance", "(III)I"⟩, 12) := ⟨⟨by decide +kernel, by decide +kernel⟩, List.mem_of_getElem? (i := 22) (by decide +kernel), List.mem_of_getElem? (i := 706) (by decide +kernel), List.mem_of_getElem? (i := 707) (by decide +kernel)⟩
theorem lw_p36 : lw_okq (⟨"LosslessFabric", "askedPause", "()I"⟩, 12) := ⟨⟨by decide +kernel, by decide +kernel⟩, List.mem_of_getElem? (i := 22) (by decide +kernel), List.mem_of_getElem? (i := 736) (by decide +kernel), List.mem_of_getElem? (i := 737) (by decide +kernel)⟩
theorem lw_p37 : lw_okq (⟨"java/lang/Throwable", "fillInStackTrace", "(I)Ljava/lang/Throwable;"⟩, 6) := ⟨⟨by decide +kernel, by decide +kernel⟩, List.mem_of_getElem? (i := 786) (by decide +kernel), List.mem_of_getElem? (i := 784) (by decide +kernel), List.mem_of_getElem? (i := 785) (by decide +kernel)⟩
theorem lw_p38 : lw_okq (⟨"LosslessFabricModel", "freshText", "()V"⟩, 49) := ⟨⟨by decide +kernel, by decide +kernel⟩, List.mem_of_getElem? (i := 832) (by decide +kernel), List.mem_of_getElem? (i := 838) (by decide +kernel), List.mem_of_getElem? (i := 839) (by decide +kernel)⟩
theorem lw_p39 : lw_okq (⟨"LosslessFabricModel", "reads", "(II)V"⟩, 49) := ⟨⟨by decide +kernel, by decide +kernel⟩, List.mem_of_getElem? (i := 832) (by decide +kernel), List.mem_of_getElem? (i := 842) (by decide +kernel), List.mem_of_getElem? (i := 843) (by decide +kernel)⟩
theorem lw_p40 : lw_okq (⟨"LosslessFabricModel", "takeText", "()V"⟩, 49) := ⟨⟨by decide +kernel, by decide +kernel⟩, List.mem_of_getElem? (i := 832) (by decide +kernel), List.mem_of_getElem? (i := 846) (by decide +kernel), List.mem_of_getElem? (i := 847) (by decide +kernel)⟩
theorem lw_p41 : lw_okq (⟨"LosslessFabricModel", "reading", "(I)I"⟩, 49) := ⟨⟨by decide +kernel, by decide +kernel⟩, List.mem_of_getElem? (i := 832) (by decide +kernel), List.mem_of_getElem? (i := 850) (by decide +kernel), List.mem_of_getElem? (i := 851) (by decide +kernel)⟩
theorem lw_p42 : lw_okq (⟨"LosslessFabricModel", "begins", "()V"⟩, 49) := ⟨⟨by decide +kernel, by decide +kernel⟩, List.mem_of_getElem? (i := 832) (by decide +kernel), List.mem_of_getElem? (i := 854) (by decide +kernel), List.mem_of_getElem? (i := 855) (by decide +kernel)⟩
theorem lw_p43 : lw_okq (⟨"LosslessFabricModel", "links", "()I"⟩, 49) := ⟨⟨by decide +kernel, by decide +kernel⟩, List.mem_of_getElem? (i := 832) (by decide +kernel), List.mem_of_getElem? (i := 858) (by decide +kernel), List.mem_of_getElem? (i := 859) (by decide +kernel)⟩
theorem lw_p44 : lw_okq (⟨"LosslessFabricModel", "flows", "()I"⟩, 49) := ⟨⟨by decide +kernel, by decide +kernel⟩, List.mem_of_getElem? (i := 832) (by decide +kernel), List.mem_of_getElem? (i := 862) (by decide +kernel), List.mem_of_getElem? (i := 863) (by decide +kernel)⟩
theorem lw_p45 : lw_okq (⟨"LosslessFabricModel", "readText", "(I)V"⟩, 49) := ⟨⟨by decide +kernel, by decide +kernel⟩, List.mem_of_getElem? (i := 832) (by decide +kernel), List.mem_of_getElem? (i := 1027) (by decide +kernel), List.mem_of_getElem? (i := 1028) (by decide +kernel)⟩
theorem lw_p46 : lw_okq (⟨"LosslessFabricModel", "token", "()V"⟩, 49) := ⟨⟨by decide +kernel, by decide +kernel⟩, List.mem_of_getElem? (i := 832) (by decide +kernel), List.mem_of_getElem? (i := 1031) (by decide +kernel), List.mem_of_getElem? (i := 1032) (by decide +kernel)⟩
theorem lw_p47 : lw_okq (⟨"LosslessFabricModel", "here", "()I"⟩, 49) := ⟨⟨by decide +kernel, by decide +kernel⟩, List.mem_of_getElem? (i := 832) (by decide +kernel), List.mem_of_getElem? (i := 1035) (by decide +kernel), List.mem_of_getElem? (i := 1036) (by decide +kernel)⟩
def lw_privs_3 : List (MethodName × Nat) := [(⟨"LosslessFabric", "startTrial", "()V"⟩, 12), (⟨"LosslessFabric", "deliveredWithout", "(II)I"⟩, 12), (⟨"LosslessFabric", "grown", "(II)I"⟩, 12), (⟨"LosslessFabric", "runByChance", "(III)I"⟩, 12), (⟨"LosslessFabric", "askedPause", "()I"⟩, 12), (⟨"java/lang/Throwable", "fillInStackTrace", "(I)Ljava/lang/Throwable;"⟩, 6), (⟨"LosslessFabricModel", "freshText", "()V"⟩, 49), (⟨"LosslessFabricModel", "reads", "(II)V"⟩, 49), (⟨"LosslessFabricModel", "takeText", "()V"⟩, 49), (⟨"LosslessFabricModel", "reading", "(I)I"⟩, 49), (⟨"LosslessFabricModel", "begins", "()V"⟩, 49), (⟨"LosslessFabricModel", "links", "()I"⟩, 49), (⟨"LosslessFabricModel", "flows", "()I"⟩, 49), (⟨"LosslessFabricModel", "readText", "(I)V"⟩, 49), (⟨"LosslessFabricModel", "token", "()V"⟩, 49), (⟨"LosslessFabricModel", "here", "()I"⟩, 49)]
theorem lw_r3 : ∀ q ∈ lw_privs_3, lw_okq q := List.forall_mem_cons.mpr ⟨lw_p32, List.forall_mem_cons.mpr ⟨lw_p33, List.forall_mem_cons.mpr ⟨lw_p34, List.forall_mem_cons.mpr ⟨lw_p35, List.forall_mem_cons.mpr ⟨lw_p36, List.forall_mem_cons.mpr ⟨lw_p37, List.forall_mem_cons.mpr ⟨lw_p38, List.forall_mem_cons.mpr ⟨lw_p39, List.forall_mem_cons.mpr ⟨lw_p40, List.forall_mem_cons.mpr ⟨lw_p41, List.forall_mem_cons.mpr ⟨lw_p42, List.forall_mem_cons.mpr ⟨lw_p43, List.forall_mem_cons.mpr ⟨lw_p44, List.forall_mem_cons.mpr ⟨lw_p45, List.forall_mem_cons.mpr ⟨lw_p46, List.forall_mem_cons.mpr ⟨lw_p47, fun _ h => absurd h List.not_mem_nil⟩⟩⟩⟩⟩⟩⟩⟩⟩⟩⟩⟩⟩⟩⟩⟩
theorem lw_p48 : lw_okq (⟨"LosslessFabricModel", "wordHere", "()I"⟩, 49) := ⟨⟨by decide +kernel, by decide +kernel⟩, List.mem_of_getElem? (i := 832) (by decide +kernel), List.mem_of_getElem? (i := 1042) (by decide +kernel), List.mem_of_getElem? (i := 1043) (by decide +kernel)⟩
theorem lw_p49 : lw_okq (⟨"LosslessFabricModel", "nameHere", "()V"⟩, 49) := ⟨⟨by decide +kernel, by decide +kernel⟩, List.mem_of_getElem? (i := 832) (by decide +kernel), List.mem_of_getElem? (i := 1095) (by decide +kernel), List.mem_of_getElem? (i := 1096) (by decide +kernel)⟩
theorem lw_p50 : lw_okq (⟨"LosslessFabricModel", "readLine", "()V"⟩, 49) := ⟨⟨by decide +kernel, by decide +kernel⟩, List.mem_of_getElem? (i := 832) (by decide +kernel), List.mem_of_getElem? (i := 1103) (by decide +kernel), List.mem_of_getElem? (i := 1104) (by decide +kernel)⟩
theorem lw_p51 : lw_okq (⟨"LosslessFabricModel", "wrong", "(I)V"⟩, 49) := ⟨⟨by decide +kernel, by decide +kernel⟩, List.mem_of_getElem? (i := 832) (by decide +kernel), List.mem_of_getElem? (i := 1107) (by decide +kernel), List.mem_of_getElem? (i := 1108) (by decide +kernel)⟩
theorem lw_p52 : lw_okq (⟨"LosslessFabricModel", "readLink", "()V"⟩, 49) := ⟨⟨by decide +kernel, by decide +kernel⟩, List.mem_of_getElem? (i := 832) (by decide +kernel), List.mem_of_getElem? (i := 1111) (by decide +kernel), List.mem_of_getElem? (i := 1112) (by decide +kernel)⟩
theorem lw_p53 : lw_okq (⟨"LosslessFabricModel", "newName", "([III)V"⟩, 49) := ⟨⟨by decide +kernel, by decide +kernel⟩, List.mem_of_getElem? (i := 832) (by decide +kernel), List.mem_of_getElem? (i := 1115) (by decide +kernel), List.mem_of_getElem? (i := 1116) (by decide +kernel)⟩
theorem lw_p54 : lw_okq (⟨"LosslessFabricModel", "goOn", "()V"⟩, 49) := ⟨⟨by decide +kernel, by decide +kernel⟩, List.mem_of_getElem? (i := 832) (by decide +kernel), List.mem_of_getElem? (i := 1119) (by decide +kernel), List.mem_of_getElem? (i := 1120) (by decide +kernel)⟩
theorem lw_p55 : lw_okq (⟨"LosslessFabricModel", "numeral", "(II)I"⟩, 49) := ⟨⟨by decide +kernel, by decide +kernel⟩, List.mem_of_getElem? (i := 832) (by decide +kernel), List.mem_of_getElem? (i := 1126) (by decide +kernel), List.mem_of_getElem? (i := 1127) (by decide +kernel)⟩
theorem lw_p56 : lw_okq (⟨"LosslessFabricModel", "readFlow", "()V"⟩, 49) := ⟨⟨by decide +kernel, by decide +kernel⟩, List.mem_of_getElem? (i := 832) (by decide +kernel), List.mem_of_getElem? (i := 1130) (by decide +kernel), List.mem_of_getElem? (i := 1131) (by decide +kernel)⟩
theorem lw_p57 : lw_okq (⟨"LosslessFabricModel", "readHop", "(I)V"⟩, 49) := ⟨⟨by decide +kernel, by decide +kernel⟩, List.mem_of_getElem? (i := 832) (by decide +kernel), List.mem_of_getElem? (i := 1134) (by decide +kernel), List.mem_of_getElem? (i := 1135) (by decide +kernel)⟩
theorem lw_p58 : lw_okq (⟨"LosslessFabricModel", "isOnPath", "(II)Z"⟩, 49) := ⟨⟨by decide +kernel, by decide +kernel⟩, List.mem_of_getElem? (i := 832) (by decide +kernel), List.mem_of_getElem? (i := 1138) (by decide +kernel), List.mem_of_getElem? (i := 1139) (by decide +kernel)⟩
theorem lw_p59 : lw_okq (⟨"LosslessFabricModel", "readSample", "()V"⟩, 49) := ⟨⟨by decide +kernel, by decide +kernel⟩, List.mem_of_getElem? (i := 832) (by decide +kernel), List.mem_of_getElem? (i := 1142) (by decide +kernel), List.mem_of_getElem? (i := 1143) (by decide +kernel)⟩
theorem lw_p60 : lw_okq (⟨"LosslessFabricModel", "once", "(I)V"⟩, 49) := ⟨⟨by decide +kernel, by decide +kernel⟩, List.mem_of_getElem? (i := 832) (by decide +kernel), List.mem_of_getElem? (i := 1146) (by decide +kernel), List.mem_of_getElem? (i := 1147) (by decide +kernel)⟩
theorem lw_p61 : lw_okq (⟨"LosslessFabricModel", "readStage", "()V"⟩, 49) := ⟨⟨by decide +kernel, by decide +kernel⟩, List.mem_of_getElem? (i := 832) (by decide +kernel), List.mem_of_getElem? (i := 1150) (by decide +kernel), List.mem_of_getElem? (i := 1151) (by decide +kernel)⟩
theorem lw_p62 : lw_okq (⟨"LosslessFabricModel", "readOff", "()V"⟩, 49) := ⟨⟨by decide +kernel, by decide +kernel⟩, List.mem_of_getElem? (i := 832) (by decide +kernel), List.mem_of_getElem? (i := 1154) (by decide +kernel), List.mem_of_getElem? (i := 1155) (by decide +kernel)⟩
theorem lw_p63 : lw_okq (⟨"LosslessFabricModel", "readSeed", "()V"⟩, 49) := ⟨⟨by decide +kernel, by decide +kernel⟩, List.mem_of_getElem? (i := 832) (by decide +kernel), List.mem_of_getElem? (i := 1158) (by decide +kernel), List.mem_of_getElem? (i := 1159) (by decide +kernel)⟩
def lw_privs_4 : List (MethodName × Nat) := [(⟨"LosslessFabricModel", "wordHere", "()I"⟩, 49), (⟨"LosslessFabricModel", "nameHere", "()V"⟩, 49), (⟨"LosslessFabricModel", "readLine", "()V"⟩, 49), (⟨"LosslessFabricModel", "wrong", "(I)V"⟩, 49), (⟨"LosslessFabricModel", "readLink", "()V"⟩, 49), (⟨"LosslessFabricModel", "newName", "([III)V"⟩, 49), (⟨"LosslessFabricModel", "goOn", "()V"⟩, 49), (⟨"LosslessFabricModel", "numeral", "(II)I"⟩, 49), (⟨"LosslessFabricModel", "readFlow", "()V"⟩, 49), (⟨"LosslessFabricModel", "readHop", "(I)V"⟩, 49), (⟨"LosslessFabricModel", "isOnPath", "(II)Z"⟩, 49), (⟨"LosslessFabricModel", "readSample", "()V"⟩, 49), (⟨"LosslessFabricModel", "once", "(I)V"⟩, 49), (⟨"LosslessFabricModel", "readStage", "()V"⟩, 49), (⟨"LosslessFabricModel", "readOff", "()V"⟩, 49), (⟨"LosslessFabricModel", "readSeed", "()V"⟩, 49)]
theorem lw_r4 : ∀ q ∈ lw_privs_4, lw_okq q := List.forall_mem_cons.mpr ⟨lw_p48, List.forall_mem_cons.mpr ⟨lw_p49, List.forall_mem_cons.mpr ⟨lw_p50, List.forall_mem_cons.mpr ⟨lw_p51, List.forall_mem_cons.mpr ⟨lw_p52, List.forall_mem_cons.mpr ⟨lw_p53, List.forall_mem_cons.mpr ⟨lw_p54, List.forall_mem_cons.mpr ⟨lw_p55, List.forall_mem_cons.mpr ⟨lw_p56, List.forall_mem_cons.mpr ⟨lw_p57, List.forall_mem_cons.mpr ⟨lw_p58, List.forall_mem_cons.mpr ⟨lw_p59, List.forall_mem_cons.mpr ⟨lw_p60, List.forall_mem_cons.mpr ⟨lw_p61, List.forall_mem_cons.mpr ⟨lw_p62, List.forall_mem_cons.mpr ⟨lw_p63, fun _ h => absurd h List.not_mem_nil⟩⟩⟩⟩⟩⟩⟩⟩⟩⟩⟩⟩⟩⟩⟩⟩
theorem lw_p64 : lw_okq (⟨"LosslessFabricModel", "remembers", "()V"⟩, 49) := ⟨⟨by decide +kernel, by decide +kernel⟩, List.mem_of_getElem? (i := 832) (by decide +kernel), List.mem_of_getElem? (i := 1189) (by decide +kernel), List.mem_of_getElem? (i := 1190) (by decide +kernel)⟩
theorem lw_p65 : lw_okq (⟨"LosslessFabricModel", "tickGoes", "()V"⟩, 49) := ⟨⟨by decide +kernel, by decide +kernel⟩, List.mem_of_getElem? (i := 832) (by decide +kernel), List.mem_of_getElem? (i := 1193) (by decide +kernel), List.mem_of_getElem? (i := 1194) (by decide +kernel)⟩
theorem lw_p66 : lw_okq (⟨"LosslessFabricModel", "isOn", "(I)Z"⟩, 49) := ⟨⟨by decide +kernel, by decide +kernel⟩, List.mem_of_getElem? (i := 832) (by decide +kernel), List.mem_of_getElem? (i := 1200) (by decide +kernel), List.mem_of_getElem? (i := 1201) (by decide +kernel)⟩
theorem lw_p67 : lw_okq (⟨"LosslessFabricModel", "laysCan", "()V"⟩, 49) := ⟨⟨by decide +kernel, by decide +kernel⟩, List.mem_of_getElem? (i := 832) (by decide +kernel), List.mem_of_getElem? (i := 1207) (by decide +kernel), List.mem_of_getElem? (i := 1208) (by decide +kernel)⟩
theorem lw_p68 : lw_okq (⟨"LosslessFabricModel", "hopOf", "(II)I"⟩, 49) := ⟨⟨by decide +kernel, by decide +kernel⟩, List.mem_of_getElem? (i := 832) (by decide +kernel), List.mem_of_getElem? (i := 1211) (by decide +kernel), List.mem_of_getElem? (i := 1212) (by decide +kernel)⟩
theorem lw_p69 : lw_okq (⟨"LosslessFabricModel", "carriesOf", "(I)V"⟩, 49) := ⟨⟨by decide +kernel, by decide +kernel⟩, List.mem_of_getElem? (i := 832) (by decide +kernel), List.mem_of_getElem? (i := 1215) (by decide +kernel), List.mem_of_getElem? (i := 1216) (by decide +kernel)⟩
theorem lw_p70 : lw_okq (⟨"LosslessFabricModel", "takesOff", "()V"⟩, 49) := ⟨⟨by decide +kernel, by decide +kernel⟩, List.mem_of_getElem? (i := 832) (by decide +kernel), List.mem_of_getElem? (i := 1219) (by decide +kernel), List.mem_of_getElem? (i := 1220) (by decide +kernel)⟩
theorem lw_p71 : lw_okq (⟨"LosslessFabricModel", "comesTo", "(I)V"⟩, 49) := ⟨⟨by decide +kernel, by decide +kernel⟩, List.mem_of_getElem? (i := 832) (by decide +kernel), List.mem_of_getElem? (i := 1223) (by decide +kernel), List.mem_of_getElem? (i := 1224) (by decide +kernel)⟩
theorem lw_p72 : lw_okq (⟨"LosslessFabricModel", "queueOf", "(I)I"⟩, 49) := ⟨⟨by decide +kernel, by decide +kernel⟩, List.mem_of_getElem? (i := 832) (by decide +kernel), List.mem_of_getElem? (i := 1227) (by decide +kernel), List.mem_of_getElem? (i := 1228) (by decide +kernel)⟩
theorem lw_p73 : lw_okq (⟨"LosslessFabricModel", "asks", "(I)V"⟩, 49) := ⟨⟨by decide +kernel, by decide +kernel⟩, List.mem_of_getElem? (i := 832) (by decide +kernel), List.mem_of_getElem? (i := 1231) (by decide +kernel), List.mem_of_getElem? (i := 1232) (by decide +kernel)⟩
theorem lw_p74 : lw_okq (⟨"LosslessFabricModel", "samples", "(I)V"⟩, 49) := ⟨⟨by decide +kernel, by decide +kernel⟩, List.mem_of_getElem? (i := 832) (by decide +kernel), List.mem_of_getElem? (i := 1235) (by decide +kernel), List.mem_of_getElem? (i := 1236) (by decide +kernel)⟩
theorem lw_p75 : lw_okq (⟨"LosslessFabricModel", "feedbackOf", "(I)I"⟩, 49) := ⟨⟨by decide +kernel, by decide +kernel⟩, List.mem_of_getElem? (i := 832) (by decide +kernel), List.mem_of_getElem? (i := 1239) (by decide +kernel), List.mem_of_getElem? (i := 1240) (by decide +kernel)⟩
theorem lw_p76 : lw_okq (⟨"LosslessFabricModel", "noticeOf", "(I)I"⟩, 49) := ⟨⟨by decide +kernel, by decide +kernel⟩, List.mem_of_getElem? (i := 832) (by decide +kernel), List.mem_of_getElem? (i := 1243) (by decide +kernel), List.mem_of_getElem? (i := 1244) (by decide +kernel)⟩
theorem lw_p77 : lw_okq (⟨"LosslessFabricModel", "takesNotices", "()V"⟩, 49) := ⟨⟨by decide +kernel, by decide +kernel⟩, List.mem_of_getElem? (i := 832) (by decide +kernel), List.mem_of_getElem? (i := 1247) (by decide +kernel), List.mem_of_getElem? (i := 1248) (by decide +kernel)⟩
theorem lw_p78 : lw_okq (⟨"LosslessFabricModel", "recovers", "(I)V"⟩, 49) := ⟨⟨by decide +kernel, by decide +kernel⟩, List.mem_of_getElem? (i := 832) (by decide +kernel), List.mem_of_getElem? (i := 1251) (by decide +kernel), List.mem_of_getElem? (i := 1252) (by decide +kernel)⟩
theorem lw_p79 : lw_okq (⟨"LosslessFabricModel", "climbs", "(I)V"⟩, 49) := ⟨⟨by decide +kernel, by decide +kernel⟩, List.mem_of_getElem? (i := 832) (by decide +kernel), List.mem_of_getElem? (i := 1255) (by decide +kernel), List.mem_of_getElem? (i := 1256) (by decide +kernel)⟩
def lw_privs_5 : List (MethodName × Nat) := [(⟨"LosslessFabricModel", "remembers", "()V"⟩, 49), (⟨"LosslessFabricModel", "tickGoes", "()V"⟩, 49), (⟨"LosslessFabricModel", "isOn", "(I)Z"⟩, 49), (⟨"LosslessFabricModel", "laysCan", "()V"⟩, 49), (⟨"LosslessFabricModel", "hopOf", "(II)I"⟩, 49), (⟨"LosslessFabricModel", "carriesOf", "(I)V"⟩, 49), (⟨"LosslessFabricModel", "takesOff", "()V"⟩, 49), (⟨"LosslessFabricModel", "comesTo", "(I)V"⟩, 49), (⟨"LosslessFabricModel", "queueOf", "(I)I"⟩, 49), (⟨"LosslessFabricModel", "asks", "(I)V"⟩, 49), (⟨"LosslessFabricModel", "samples", "(I)V"⟩, 49), (⟨"LosslessFabricModel", "feedbackOf", "(I)I"⟩, 49), (⟨"LosslessFabricModel", "noticeOf", "(I)I"⟩, 49), (⟨"LosslessFabricModel", "takesNotices", "()V"⟩, 49), (⟨"LosslessFabricModel", "recovers", "(I)V"⟩, 49), (⟨"LosslessFabricModel", "climbs", "(I)V"⟩, 49)]
theorem lw_r5 : ∀ q ∈ lw_privs_5, lw_okq q := List.forall_mem_cons.mpr ⟨lw_p64, List.forall_mem_cons.mpr ⟨lw_p65, List.forall_mem_cons.mpr ⟨lw_p66, List.forall_mem_cons.mpr ⟨lw_p67, List.forall_mem_cons.mpr ⟨lw_p68, List.forall_mem_cons.mpr ⟨lw_p69, List.forall_mem_cons.mpr ⟨lw_p70, List.forall_mem_cons.mpr ⟨lw_p71, List.forall_mem_cons.mpr ⟨lw_p72, List.forall_mem_cons.mpr ⟨lw_p73, List.forall_mem_cons.mpr ⟨lw_p74, List.forall_mem_cons.mpr ⟨lw_p75, List.forall_mem_cons.mpr ⟨lw_p76, List.forall_mem_cons.mpr ⟨lw_p77, List.forall_mem_cons.mpr ⟨lw_p78, List.forall_mem_cons.mpr ⟨lw_p79, fun _ h => absurd h List.not_mem_nil⟩⟩⟩⟩⟩⟩⟩⟩⟩⟩⟩⟩⟩⟩⟩⟩
theorem lw_p80 : lw_okq (⟨"LosslessFabricModel", "isFlow", "(I)Z"⟩, 49) := ⟨⟨by decide +kernel, by decide +kernel⟩, List.mem_of_getElem? (i := 832) (by decide +kernel), List.mem_of_getElem? (i := 1263) (by decide +kernel), List.mem_of_getElem? (i := 1264) (by decide +kernel)⟩
theorem lw_p81 : lw_okq (⟨"LosslessFabricModel", "isLink", "(I)Z"⟩, 49) := ⟨⟨by decide +kernel, by decide +kernel⟩, List.mem_of_getElem? (i := 832) (by decide +kernel), List.mem_of_getElem? (i := 1275) (by decide +kernel), List.mem_of_getElem? (i := 1276) (by decide +kernel)⟩
theorem lw_p82 : lw_okq (⟨"LosslessFabricModel", "headroomOf", "(I)I"⟩, 49) := ⟨⟨by decide +kernel, by decide +kernel⟩, List.mem_of_getElem? (i := 832) (by decide +kernel), List.mem_of_getElem? (i := 1312) (by decide +kernel), List.mem_of_getElem? (i := 1313) (by decide +kernel)⟩
theorem lw_p83 : lw_okq (⟨"LosslessFabricModel", "laysWaits", "(Z)V"⟩, 49) := ⟨⟨by decide +kernel, by decide +kernel⟩, List.mem_of_getElem? (i := 832) (by decide +kernel), List.mem_of_getElem? (i := 1328) (by decide +kernel), List.mem_of_getElem? (i := 1329) (by decide +kernel)⟩
theorem lw_p84 : lw_okq (⟨"LosslessFabricModel", "nextOf", "(II)I"⟩, 49) := ⟨⟨by decide +kernel, by decide +kernel⟩, List.mem_of_getElem? (i := 832) (by decide +kernel), List.mem_of_getElem? (i := 1332) (by decide +kernel), List.mem_of_getElem? (i := 1333) (by decide +kernel)⟩
theorem lw_p85 : lw_okq (⟨"LosslessFabricModel", "isWaiting", "(III)Z"⟩, 49) := ⟨⟨by decide +kernel, by decide +kernel⟩, List.mem_of_getElem? (i := 832) (by decide +kernel), List.mem_of_getElem? (i := 1336) (by decide +kernel), List.mem_of_getElem? (i := 1337) (by decide +kernel)⟩
theorem lw_p86 : lw_okq (⟨"LosslessFabricModel", "asked", "(I)Z"⟩, 49) := ⟨⟨by decide +kernel, by decide +kernel⟩, List.mem_of_getElem? (i := 832) (by decide +kernel), List.mem_of_getElem? (i := 1340) (by decide +kernel), List.mem_of_getElem? (i := 1341) (by decide +kernel)⟩
theorem lw_p87 : lw_okq (⟨"LosslessFabricModel", "inCyclesNow", "()I"⟩, 49) := ⟨⟨by decide +kernel, by decide +kernel⟩, List.mem_of_getElem? (i := 832) (by decide +kernel), List.mem_of_getElem? (i := 1348) (by decide +kernel), List.mem_of_getElem? (i := 1349) (by decide +kernel)⟩
theorem lw_p88 : lw_okq (⟨"LosslessFabricModel", "laysSteps", "(I)V"⟩, 49) := ⟨⟨by decide +kernel, by decide +kernel⟩, List.mem_of_getElem? (i := 832) (by decide +kernel), List.mem_of_getElem? (i := 1352) (by decide +kernel), List.mem_of_getElem? (i := 1353) (by decide +kernel)⟩
theorem lw_p89 : lw_okq (⟨"LosslessFabricModel", "laysCycle", "()V"⟩, 49) := ⟨⟨by decide +kernel, by decide +kernel⟩, List.mem_of_getElem? (i := 832) (by decide +kernel), List.mem_of_getElem? (i := 1360) (by decide +kernel), List.mem_of_getElem? (i := 1361) (by decide +kernel)⟩
theorem lw_p90 : lw_okq (⟨"LosslessFabricModel", "laysFair", "()V"⟩, 49) := ⟨⟨by decide +kernel, by decide +kernel⟩, List.mem_of_getElem? (i := 832) (by decide +kernel), List.mem_of_getElem? (i := 1373) (by decide +kernel), List.mem_of_getElem? (i := 1374) (by decide +kernel)⟩
theorem lw_p91 : lw_okq (⟨"LosslessFabricModel", "leftOf", "(I)I"⟩, 49) := ⟨⟨by decide +kernel, by decide +kernel⟩, List.mem_of_getElem? (i := 832) (by decide +kernel), List.mem_of_getElem? (i := 1377) (by decide +kernel), List.mem_of_getElem? (i := 1378) (by decide +kernel)⟩
theorem lw_p92 : lw_okq (⟨"LosslessFabricModel", "tells", "(JJ)V"⟩, 49) := ⟨⟨by decide +kernel, by decide +kernel⟩, List.mem_of_getElem? (i := 832) (by decide +kernel), List.mem_of_getElem? (i := 1381) (by decide +kernel), List.mem_of_getElem? (i := 1382) (by decide +kernel)⟩
theorem lw_p93 : lw_okq (⟨"LosslessFabricModel", "stops", "(JJ)V"⟩, 49) := ⟨⟨by decide +kernel, by decide +kernel⟩, List.mem_of_getElem? (i := 832) (by decide +kernel), List.mem_of_getElem? (i := 1388) (by decide +kernel), List.mem_of_getElem? (i := 1389) (by decide +kernel)⟩
theorem lw_p94 : lw_okq (⟨"LosslessFabricModel", "isStalled", "()Z"⟩, 49) := ⟨⟨by decide +kernel, by decide +kernel⟩, List.mem_of_getElem? (i := 832) (by decide +kernel), List.mem_of_getElem? (i := 1411) (by decide +kernel), List.mem_of_getElem? (i := 1412) (by decide +kernel)⟩
theorem lw_p95 : lw_okq (⟨"LosslessFabricModel", "isEmpty", "()Z"⟩, 49) := ⟨⟨by decide +kernel, by decide +kernel⟩, List.mem_of_getElem? (i := 832) (by decide +kernel), List.mem_of_getElem? (i := 1419) (by decide +kernel), List.mem_of_getElem? (i := 1420) (by decide +kernel)⟩
def lw_privs_6 : List (MethodName × Nat) := [(⟨"LosslessFabricModel", "isFlow", "(I)Z"⟩, 49), (⟨"LosslessFabricModel", "isLink", "(I)Z"⟩, 49), (⟨"LosslessFabricModel", "headroomOf", "(I)I"⟩, 49), (⟨"LosslessFabricModel", "laysWaits", "(Z)V"⟩, 49), (⟨"LosslessFabricModel", "nextOf", "(II)I"⟩, 49), (⟨"LosslessFabricModel", "isWaiting", "(III)Z"⟩, 49), (⟨"LosslessFabricModel", "asked", "(I)Z"⟩, 49), (⟨"LosslessFabricModel", "inCyclesNow", "()I"⟩, 49), (⟨"LosslessFabricModel", "laysSteps", "(I)V"⟩, 49), (⟨"LosslessFabricModel", "laysCycle", "()V"⟩, 49), (⟨"LosslessFabricModel", "laysFair", "()V"⟩, 49), (⟨"LosslessFabricModel", "leftOf", "(I)I"⟩, 49), (⟨"LosslessFabricModel", "tells", "(JJ)V"⟩, 49), (⟨"LosslessFabricModel", "stops", "(JJ)V"⟩, 49), (⟨"LosslessFabricModel", "isStalled", "()Z"⟩, 49), (⟨"LosslessFabricModel", "isEmpty", "()Z"⟩, 49)]
theorem lw_r6 : ∀ q ∈ lw_privs_6, lw_okq q := List.forall_mem_cons.mpr ⟨lw_p80, List.forall_mem_cons.mpr ⟨lw_p81, List.forall_mem_cons.mpr ⟨lw_p82, List.forall_mem_cons.mpr ⟨lw_p83, List.forall_mem_cons.mpr ⟨lw_p84, List.forall_mem_cons.mpr ⟨lw_p85, List.forall_mem_cons.mpr ⟨lw_p86, List.forall_mem_cons.mpr ⟨lw_p87, List.forall_mem_cons.mpr ⟨lw_p88, List.forall_mem_cons.mpr ⟨lw_p89, List.forall_mem_cons.mpr ⟨lw_p90, List.forall_mem_cons.mpr ⟨lw_p91, List.forall_mem_cons.mpr ⟨lw_p92, List.forall_mem_cons.mpr ⟨lw_p93, List.forall_mem_cons.mpr ⟨lw_p94, List.forall_mem_cons.mpr ⟨lw_p95, fun _ h => absurd h List.not_mem_nil⟩⟩⟩⟩⟩⟩⟩⟩⟩⟩⟩⟩⟩⟩⟩⟩
theorem lw_p96 : lw_okq (⟨"LosslessFabricModel", "sumOf", "(I)I"⟩, 49) := ⟨⟨by decide +kernel, by decide +kernel⟩, List.mem_of_getElem? (i := 832) (by decide +kernel), List.mem_of_getElem? (i := 1427) (by decide +kernel), List.mem_of_getElem? (i := 1428) (by decide +kernel)⟩
theorem lw_p97 : lw_okq (⟨"LosslessFabricModel", "lostAll", "()I"⟩, 49) := ⟨⟨by decide +kernel, by decide +kernel⟩, List.mem_of_getElem? (i := 832) (by decide +kernel), List.mem_of_getElem? (i := 1439) (by decide +kernel), List.mem_of_getElem? (i := 1440) (by decide +kernel)⟩
theorem lw_p98 : lw_okq (⟨"LosslessFabricModel", "draw", "(I)I"⟩, 49) := ⟨⟨by decide +kernel, by decide +kernel⟩, List.mem_of_getElem? (i := 832) (by decide +kernel), List.mem_of_getElem? (i := 1443) (by decide +kernel), List.mem_of_getElem? (i := 1444) (by decide +kernel)⟩
theorem lw_p99 : lw_okq (⟨"LosslessFabricModel", "askedMany", "()I"⟩, 49) := ⟨⟨by decide +kernel, by decide +kernel⟩, List.mem_of_getElem? (i := 832) (by decide +kernel), List.mem_of_getElem? (i := 1453) (by decide +kernel), List.mem_of_getElem? (i := 1454) (by decide +kernel)⟩
def lw_privs_7 : List (MethodName × Nat) := [(⟨"LosslessFabricModel", "sumOf", "(I)I"⟩, 49), (⟨"LosslessFabricModel", "lostAll", "()I"⟩, 49), (⟨"LosslessFabricModel", "draw", "(I)I"⟩, 49), (⟨"LosslessFabricModel", "askedMany", "()I"⟩, 49)]
theorem lw_r7 : ∀ q ∈ lw_privs_7, lw_okq q := List.forall_mem_cons.mpr ⟨lw_p96, List.forall_mem_cons.mpr ⟨lw_p97, List.forall_mem_cons.mpr ⟨lw_p98, List.forall_mem_cons.mpr ⟨lw_p99, fun _ h => absurd h List.not_mem_nil⟩⟩⟩⟩
def lw_privs : List (MethodName × Nat) := lw_privs_1 ++ (lw_privs_2 ++ (lw_privs_3 ++ (lw_privs_4 ++ (lw_privs_5 ++ (lw_privs_6 ++ (lw_privs_7))))))
def lw_tbl : List Cond := k2_sels lw_privs ++ tables_1
theorem lw_privs_ok : ∀ q ∈ lw_privs, lw_okq q := by
  show ∀ q ∈ lw_privs_1 ++ (lw_privs_2 ++ (lw_privs_3 ++ (lw_privs_4 ++ (lw_privs_5 ++ (lw_privs_6 ++ (lw_privs_7)))))), lw_okq q
  exact List.forall_mem_append.mpr ⟨lw_r1, List.forall_mem_append.mpr ⟨lw_r2, List.forall_mem_append.mpr ⟨lw_r3, List.forall_mem_append.mpr ⟨lw_r4, List.forall_mem_append.mpr ⟨lw_r5, List.forall_mem_append.mpr ⟨lw_r6, lw_r7⟩⟩⟩⟩⟩⟩
def gw : List Cond := lw_tbl.filter goodWord
theorem gmem {w : Cond} (i : Nat) (h : tables_1[i]? = some w) (hg : goodWord w = true) : w ∈ gw := List.mem_filter.mpr ⟨List.mem_append_right _ (List.mem_of_getElem? h), hg⟩
theorem gmemS {w : Cond} (i : Nat) (h : (k2_sels lw_privs)[i]? = some w) (hg : goodWord w = true) : w ∈ gw := List.mem_filter.mpr ⟨List.mem_append_left _ (List.mem_of_getElem? h), hg⟩
abbrev RX0 : String := "LosslessFabric$Past"
def TX0 : u_T := fun k => match k with
  | 0 => ("LosslessFabric$Past", "rows", "[I", true)
  | 1 => ("LosslessFabric$Past", "image", "[I", true)
  | 2 => ("LosslessFabric$Past", "hasImage", "Z", false)
  | 3 => ("LosslessFabric$Past", "steps", "I", false)
  | _ => ("LosslessFabric$Past", "top", "I", false)
def tyX0 : Nat → FieldType := fun k => match k with
  | 0 => .array .int
  | 1 => .array .int
  | 2 => .boolean
  | 3 => .int
  | _ => .int
theorem nmX0 : ∀ a, a < 5 → ∀ b, b < 5 → a ≠ b → (TX0 a).2.1 ≠ (TX0 b).2.1 := by decide +kernel
theorem tyX0_ok : ∀ k, k < 5 → parseFieldDescriptor (TX0 k).2.2.1 = some (tyX0 k) := by decide +kernel
theorem inX0 : ∀ w ∈ u_ws RX0 TX0 5, w ∈ gw := by
  have h : u_ws RX0 TX0 5 = [.laysFinal RX0 RX0 "rows" "[I", .laysFinal RX0 RX0 "image" "[I", .lays RX0 RX0 "hasImage" "Z", .lays RX0 RX0 "steps" "I", .lays RX0 RX0 "top" "I"] := by decide +kernel
  rw [h]
  exact List.forall_mem_cons.mpr ⟨gmem 159 (by decide +kernel) rfl, List.forall_mem_cons.mpr ⟨gmem 161 (by decide +kernel) rfl, List.forall_mem_cons.mpr ⟨gmem 163 (by decide +kernel) rfl, List.forall_mem_cons.mpr ⟨gmem 165 (by decide +kernel) rfl, List.forall_mem_cons.mpr ⟨gmem 167 (by decide +kernel) rfl, fun _ h => absurd h List.not_mem_nil⟩⟩⟩⟩⟩
abbrev RX1 : String := "LosslessFabric$Plan"
def TX1 : u_T := fun k => match k with
  | 0 => ("LosslessFabric$Plan", "linkNames", "[I", true)
  | 1 => ("LosslessFabric$Plan", "caps", "[I", true)
  | 2 => ("LosslessFabric$Plan", "delays", "[I", true)
  | 3 => ("LosslessFabric$Plan", "flowNames", "[I", true)
  | 4 => ("LosslessFabric$Plan", "hops", "[I", true)
  | 5 => ("LosslessFabric$Plan", "paths", "[I", true)
  | 6 => ("LosslessFabric$Plan", "linkAhead", "[I", true)
  | 7 => ("LosslessFabric$Plan", "linkBehind", "[I", true)
  | 8 => ("LosslessFabric$Plan", "settings", "[I", true)
  | 9 => ("LosslessFabric$Plan", "linkCount", "I", false)
  | _ => ("LosslessFabric$Plan", "flowCount", "I", false)
def tyX1 : Nat → FieldType := fun k => match k with
  | 0 => .array .int
  | 1 => .array .int
  | 2 => .array .int
  | 3 => .array .int
  | 4 => .array .int
  | 5 => .array .int
  | 6 => .array .int
  | 7 => .array .int
  | 8 => .array .int
  | 9 => .int
  | _ => .int
theorem nmX1 : ∀ a, a < 11 → ∀ b, b < 11 → a ≠ b → (TX1 a).2.1 ≠ (TX1 b).2.1 := by decide +kernel
theorem tyX1_ok : ∀ k, k < 11 → parseFieldDescriptor (TX1 k).2.2.1 = some (tyX1 k) := by decide +kernel
theorem inX1 : ∀ w ∈ u_ws RX1 TX1 11, w ∈ gw := by
  have h : u_ws RX1 TX1 11 = [.laysFinal RX1 RX1 "linkNames" "[I", .laysFinal RX1 RX1 "caps" "[I", .laysFinal RX1 RX1 "delays" "[I", .laysFinal RX1 RX1 "flowNames" "[I", .laysFinal RX1 RX1 "hops" "[I", .laysFinal RX1 RX1 "paths" "[I", .laysFinal RX1 RX1 "linkAhead" "[I", .laysFinal RX1 RX1 "linkBehind" "[I", .laysFinal RX1 RX1 "settings" "[I", .lays RX1 RX1 "linkCount" "I", .lays RX1 RX1 "flowCount" "I"] := by decide +kernel
  rw [h]
  exact List.forall_mem_cons.mpr ⟨gmem 219 (by decide +kernel) rfl, List.forall_mem_cons.mpr ⟨gmem 221 (by decide +kernel) rfl, List.forall_mem_cons.mpr ⟨gmem 223 (by decide +kernel) rfl, List.forall_mem_cons.mpr ⟨gmem 225 (by decide +kernel) rfl, List.forall_mem_cons.mpr ⟨gmem 227 (by decide +kernel) rfl, List.forall_mem_cons.mpr ⟨gmem 229 (by decide +kernel) rfl, List.forall_mem_cons.mpr ⟨gmem 231 (by decide +kernel) rfl, List.forall_mem_cons.mpr ⟨gmem 233 (by decide +kernel) rfl, List.forall_mem_cons.mpr ⟨gmem 235 (by decide +kernel) rfl, List.forall_mem_cons.mpr ⟨gmem 237 (by decide +kernel) rfl, List.forall_mem_cons.mpr ⟨gmem 239 (by decide +kernel) rfl, fun _ h => absurd h List.not_mem_nil⟩⟩⟩⟩⟩⟩⟩⟩⟩⟩⟩
abbrev RX2 : String := "LosslessFabric$Reader"
def TX2 : u_T := fun k => match k with
  | 0 => ("LosslessFabric$Reader", "code", "I", false)
  | 1 => ("LosslessFabric$Reader", "place", "I", false)
  | _ => ("LosslessFabric$Reader", "told", "I", false)
def tyX2 : Nat → FieldType := fun k => match k with
  | 0 => .int
  | 1 => .int
  | _ => .int
theorem nmX2 : ∀ a, a < 3 → ∀ b, b < 3 → a ≠ b → (TX2 a).2.1 ≠ (TX2 b).2.1 := by decide +kernel
theorem tyX2_ok : ∀ k, k < 3 → parseFieldDescriptor (TX2 k).2.2.1 = some (tyX2 k) := by decide +kernel
theorem inX2 : ∀ w ∈ u_ws RX2 TX2 3, w ∈ gw := by
  have h : u_ws RX2 TX2 3 = [.lays RX2 RX2 "code" "I", .lays RX2 RX2 "place" "I", .lays RX2 RX2 "told" "I"] := by decide +kernel
  rw [h]
  exact List.forall_mem_cons.mpr ⟨gmem 74 (by decide +kernel) rfl, List.forall_mem_cons.mpr ⟨gmem 76 (by decide +kernel) rfl, List.forall_mem_cons.mpr ⟨gmem 78 (by decide +kernel) rfl, fun _ h => absurd h List.not_mem_nil⟩⟩⟩
abbrev RX3 : String := "LosslessFabric$Shares"
def TX3 : u_T := fun k => match k with
  | 0 => ("LosslessFabric$Shares", "parts", "[I", true)
  | 1 => ("LosslessFabric$Shares", "held", "[Z", true)
  | 2 => ("LosslessFabric$Shares", "lowerNumber", "I", false)
  | 3 => ("LosslessFabric$Shares", "free", "I", false)
  | _ => ("LosslessFabric$Shares", "growing", "I", false)
def tyX3 : Nat → FieldType := fun k => match k with
  | 0 => .array .int
  | 1 => .array .boolean
  | 2 => .int
  | 3 => .int
  | _ => .int
theorem nmX3 : ∀ a, a < 5 → ∀ b, b < 5 → a ≠ b → (TX3 a).2.1 ≠ (TX3 b).2.1 := by decide +kernel
theorem tyX3_ok : ∀ k, k < 5 → parseFieldDescriptor (TX3 k).2.2.1 = some (tyX3 k) := by decide +kernel
theorem inX3 : ∀ w ∈ u_ws RX3 TX3 5, w ∈ gw := by
  have h : u_ws RX3 TX3 5 = [.laysFinal RX3 RX3 "parts" "[I", .laysFinal RX3 RX3 "held" "[Z", .lays RX3 RX3 "lowerNumber" "I", .lays RX3 RX3 "free" "I", .lays RX3 RX3 "growing" "I"] := by decide +kernel
  rw [h]
  exact List.forall_mem_cons.mpr ⟨gmem 133 (by decide +kernel) rfl, List.forall_mem_cons.mpr ⟨gmem 135 (by decide +kernel) rfl, List.forall_mem_cons.mpr ⟨gmem 137 (by decide +kernel) rfl, List.forall_mem_cons.mpr ⟨gmem 139 (by decide +kernel) rfl, List.forall_mem_cons.mpr ⟨gmem 141 (by decide +kernel) rfl, fun _ h => absurd h List.not_mem_nil⟩⟩⟩⟩⟩
abbrev RX4 : String := "LosslessFabric$Tape"
def TX4 : u_T := fun k => match k with
  | 0 => ("LosslessFabric$Tape", "bytes", "[B", true)
  | 1 => ("LosslessFabric$Tape", "length", "I", false)
  | 2 => ("LosslessFabric$Tape", "end", "I", false)
  | 3 => ("LosslessFabric$Tape", "at", "I", false)
  | 4 => ("LosslessFabric$Tape", "kind", "I", false)
  | 5 => ("LosslessFabric$Tape", "place", "I", false)
  | _ => ("LosslessFabric$Tape", "value", "I", false)
def tyX4 : Nat → FieldType := fun k => match k with
  | 0 => .array .byte
  | 1 => .int
  | 2 => .int
  | 3 => .int
  | 4 => .int
  | 5 => .int
  | _ => .int
theorem nmX4 : ∀ a, a < 7 → ∀ b, b < 7 → a ≠ b → (TX4 a).2.1 ≠ (TX4 b).2.1 := by decide +kernel
theorem tyX4_ok : ∀ k, k < 7 → parseFieldDescriptor (TX4 k).2.2.1 = some (tyX4 k) := by decide +kernel
theorem inX4 : ∀ w ∈ u_ws RX4 TX4 7, w ∈ gw := by
  have h : u_ws RX4 TX4 7 = [.laysFinal RX4 RX4 "bytes" "[B", .lays RX4 RX4 "length" "I", .lays RX4 RX4 "end" "I", .lays RX4 RX4 "at" "I", .lays RX4 RX4 "kind" "I", .lays RX4 RX4 "place" "I", .lays RX4 RX4 "value" "I"] := by decide +kernel
  rw [h]
  exact List.forall_mem_cons.mpr ⟨gmem 47 (by decide +kernel) rfl, List.forall_mem_cons.mpr ⟨gmem 49 (by decide +kernel) rfl, List.forall_mem_cons.mpr ⟨gmem 51 (by decide +kernel) rfl, List.forall_mem_cons.mpr ⟨gmem 53 (by decide +kernel) rfl, List.forall_mem_cons.mpr ⟨gmem 55 (by decide +kernel) rfl, List.forall_mem_cons.mpr ⟨gmem 57 (by decide +kernel) rfl, List.forall_mem_cons.mpr ⟨gmem 59 (by decide +kernel) rfl, fun _ h => absurd h List.not_mem_nil⟩⟩⟩⟩⟩⟩⟩
abbrev RX5 : String := "LosslessFabric$Ticker"
def TX5 : u_T := fun k => match k with
  | 0 => ("LosslessFabric$Ticker", "moved", "[I", true)
  | 1 => ("LosslessFabric$Ticker", "left", "[I", true)
  | _ => ("LosslessFabric$Ticker", "sent", "[I", true)
def tyX5 : Nat → FieldType := fun k => match k with
  | 0 => .array .int
  | 1 => .array .int
  | _ => .array .int
theorem nmX5 : ∀ a, a < 3 → ∀ b, b < 3 → a ≠ b → (TX5 a).2.1 ≠ (TX5 b).2.1 := by decide +kernel
theorem tyX5_ok : ∀ k, k < 3 → parseFieldDescriptor (TX5 k).2.2.1 = some (tyX5 k) := by decide +kernel
theorem inX5 : ∀ w ∈ u_ws RX5 TX5 3, w ∈ gw := by
  have h : u_ws RX5 TX5 3 = [.laysFinal RX5 RX5 "moved" "[I", .laysFinal RX5 RX5 "left" "[I", .laysFinal RX5 RX5 "sent" "[I"] := by decide +kernel
  rw [h]
  exact List.forall_mem_cons.mpr ⟨gmem 90 (by decide +kernel) rfl, List.forall_mem_cons.mpr ⟨gmem 92 (by decide +kernel) rfl, List.forall_mem_cons.mpr ⟨gmem 94 (by decide +kernel) rfl, fun _ h => absurd h List.not_mem_nil⟩⟩⟩
abbrev RX6 : String := "LosslessFabric$Waits"
def TX6 : u_T := fun k => match k with
  | 0 => ("LosslessFabric$Waits", "nexts", "[I", true)
  | 1 => ("LosslessFabric$Waits", "reached", "[I", true)
  | 2 => ("LosslessFabric$Waits", "far", "[I", true)
  | 3 => ("LosslessFabric$Waits", "ring", "[I", true)
  | _ => ("LosslessFabric$Waits", "ringLength", "I", false)
def tyX6 : Nat → FieldType := fun k => match k with
  | 0 => .array .int
  | 1 => .array .int
  | 2 => .array .int
  | 3 => .array .int
  | _ => .int
theorem nmX6 : ∀ a, a < 5 → ∀ b, b < 5 → a ≠ b → (TX6 a).2.1 ≠ (TX6 b).2.1 := by decide +kernel
theorem tyX6_ok : ∀ k, k < 5 → parseFieldDescriptor (TX6 k).2.2.1 = some (tyX6 k) := by decide +kernel
theorem inX6 : ∀ w ∈ u_ws RX6 TX6 5, w ∈ gw := by
  have h : u_ws RX6 TX6 5 = [.laysFinal RX6 RX6 "nexts" "[I", .laysFinal RX6 RX6 "reached" "[I", .laysFinal RX6 RX6 "far" "[I", .laysFinal RX6 RX6 "ring" "[I", .lays RX6 RX6 "ringLength" "I"] := by decide +kernel
  rw [h]
  exact List.forall_mem_cons.mpr ⟨gmem 111 (by decide +kernel) rfl, List.forall_mem_cons.mpr ⟨gmem 113 (by decide +kernel) rfl, List.forall_mem_cons.mpr ⟨gmem 115 (by decide +kernel) rfl, List.forall_mem_cons.mpr ⟨gmem 117 (by decide +kernel) rfl, List.forall_mem_cons.mpr ⟨gmem 119 (by decide +kernel) rfl, fun _ h => absurd h List.not_mem_nil⟩⟩⟩⟩⟩
abbrev RX7 : String := "LosslessFabric"
def TX7 : u_T := fun k => match k with
  | 0 => ("LosslessFabric", "tape", "LLosslessFabric$Tape;", true)
  | 1 => ("LosslessFabric", "reader", "LLosslessFabric$Reader;", true)
  | 2 => ("LosslessFabric", "ticker", "LLosslessFabric$Ticker;", true)
  | 3 => ("LosslessFabric", "knots", "LLosslessFabric$Waits;", true)
  | 4 => ("LosslessFabric", "shares", "LLosslessFabric$Shares;", true)
  | 5 => ("LosslessFabric", "past", "LLosslessFabric$Past;", true)
  | 6 => ("LosslessFabric", "now", "[I", true)
  | 7 => ("LosslessFabric", "trial", "[I", true)
  | 8 => ("LosslessFabric", "plan", "LLosslessFabric$Plan;", false)
  | 9 => ("LosslessFabric", "spare", "LLosslessFabric$Plan;", false)
  | 10 => ("LosslessFabric", "faultCode", "I", false)
  | _ => ("LosslessFabric", "faultPlace", "I", false)
def tyX7 : Nat → FieldType := fun k => match k with
  | 0 => .object "LosslessFabric$Tape"
  | 1 => .object "LosslessFabric$Reader"
  | 2 => .object "LosslessFabric$Ticker"
  | 3 => .object "LosslessFabric$Waits"
  | 4 => .object "LosslessFabric$Shares"
  | 5 => .object "LosslessFabric$Past"
  | 6 => .array .int
  | 7 => .array .int
  | 8 => .object "LosslessFabric$Plan"
  | 9 => .object "LosslessFabric$Plan"
  | 10 => .int
  | _ => .int
theorem nmX7 : ∀ a, a < 12 → ∀ b, b < 12 → a ≠ b → (TX7 a).2.1 ≠ (TX7 b).2.1 := by decide +kernel
theorem tyX7_ok : ∀ k, k < 12 → parseFieldDescriptor (TX7 k).2.2.1 = some (tyX7 k) := by decide +kernel
theorem inX7 : ∀ w ∈ u_ws RX7 TX7 12, w ∈ gw := by
  have h : u_ws RX7 TX7 12 = [.laysFinal RX7 RX7 "tape" "LLosslessFabric$Tape;", .laysFinal RX7 RX7 "reader" "LLosslessFabric$Reader;", .laysFinal RX7 RX7 "ticker" "LLosslessFabric$Ticker;", .laysFinal RX7 RX7 "knots" "LLosslessFabric$Waits;", .laysFinal RX7 RX7 "shares" "LLosslessFabric$Shares;", .laysFinal RX7 RX7 "past" "LLosslessFabric$Past;", .laysFinal RX7 RX7 "now" "[I", .laysFinal RX7 RX7 "trial" "[I", .lays RX7 RX7 "plan" "LLosslessFabric$Plan;", .lays RX7 RX7 "spare" "LLosslessFabric$Plan;", .lays RX7 RX7 "faultCode" "I", .lays RX7 RX7 "faultPlace" "I"] := by decide +kernel
  rw [h]
  exact List.forall_mem_cons.mpr ⟨gmem 254 (by decide +kernel) rfl, List.forall_mem_cons.mpr ⟨gmem 256 (by decide +kernel) rfl, List.forall_mem_cons.mpr ⟨gmem 258 (by decide +kernel) rfl, List.forall_mem_cons.mpr ⟨gmem 260 (by decide +kernel) rfl, List.forall_mem_cons.mpr ⟨gmem 262 (by decide +kernel) rfl, List.forall_mem_cons.mpr ⟨gmem 264 (by decide +kernel) rfl, List.forall_mem_cons.mpr ⟨gmem 266 (by decide +kernel) rfl, List.forall_mem_cons.mpr ⟨gmem 268 (by decide +kernel) rfl, List.forall_mem_cons.mpr ⟨gmem 270 (by decide +kernel) rfl, List.forall_mem_cons.mpr ⟨gmem 272 (by decide +kernel) rfl, List.forall_mem_cons.mpr ⟨gmem 274 (by decide +kernel) rfl, List.forall_mem_cons.mpr ⟨gmem 276 (by decide +kernel) rfl, fun _ h => absurd h List.not_mem_nil⟩⟩⟩⟩⟩⟩⟩⟩⟩⟩⟩⟩
abbrev RX8 : String := "LosslessFabricModel"
def TX8 : u_T := fun k => match k with
  | 0 => ("LosslessFabricModel", "thrown", "I", false)
  | 1 => ("LosslessFabricModel", "tape", "[I", true)
  | 2 => ("LosslessFabricModel", "taped", "I", false)
  | 3 => ("LosslessFabricModel", "number", "[I", true)
  | 4 => ("LosslessFabricModel", "isTold", "[Z", true)
  | 5 => ("LosslessFabricModel", "linkName", "[I", true)
  | 6 => ("LosslessFabricModel", "cap", "[I", true)
  | 7 => ("LosslessFabricModel", "delay", "[I", true)
  | 8 => ("LosslessFabricModel", "xoffTold", "[I", true)
  | 9 => ("LosslessFabricModel", "xonTold", "[I", true)
  | 10 => ("LosslessFabricModel", "sizeTold", "[I", true)
  | 11 => ("LosslessFabricModel", "flowName", "[I", true)
  | 12 => ("LosslessFabricModel", "rateTold", "[I", true)
  | 13 => ("LosslessFabricModel", "isOff", "[Z", true)
  | 14 => ("LosslessFabricModel", "hops", "[I", true)
  | 15 => ("LosslessFabricModel", "path", "[I", true)
  | 16 => ("LosslessFabricModel", "lines", "I", false)
  | 17 => ("LosslessFabricModel", "size", "I", false)
  | 18 => ("LosslessFabricModel", "at", "I", false)
  | 19 => ("LosslessFabricModel", "place", "I", false)
  | 20 => ("LosslessFabricModel", "sort", "I", false)
  | 21 => ("LosslessFabricModel", "value", "I", false)
  | 22 => ("LosslessFabricModel", "fault", "I", false)
  | 23 => ("LosslessFabricModel", "faultPlace", "I", false)
  | 24 => ("LosslessFabricModel", "lastFault", "I", false)
  | 25 => ("LosslessFabricModel", "lastPlace", "I", false)
  | 26 => ("LosslessFabricModel", "s", "[I", true)
  | 27 => ("LosslessFabricModel", "aside", "[I", true)
  | 28 => ("LosslessFabricModel", "further", "[I", true)
  | 29 => ("LosslessFabricModel", "image", "[I", true)
  | 30 => ("LosslessFabricModel", "pasts", "[I", true)
  | 31 => ("LosslessFabricModel", "undoable", "I", false)
  | 32 => ("LosslessFabricModel", "hasImage", "Z", false)
  | 33 => ("LosslessFabricModel", "can", "[I", true)
  | 34 => ("LosslessFabricModel", "carries", "[I", true)
  | 35 => ("LosslessFabricModel", "comes", "[I", true)
  | 36 => ("LosslessFabricModel", "noteFlow", "[I", true)
  | 37 => ("LosslessFabricModel", "note", "[I", true)
  | 38 => ("LosslessFabricModel", "notes", "I", false)
  | 39 => ("LosslessFabricModel", "after", "[I", true)
  | 40 => ("LosslessFabricModel", "steps", "[I", true)
  | 41 => ("LosslessFabricModel", "cycle", "[I", true)
  | 42 => ("LosslessFabricModel", "cycleLong", "I", false)
  | 43 => ("LosslessFabricModel", "upper", "[J", true)
  | 44 => ("LosslessFabricModel", "lower", "[J", true)
  | 45 => ("LosslessFabricModel", "isDone", "[Z", true)
  | 46 => ("LosslessFabricModel", "topNow", "J", false)
  | 47 => ("LosslessFabricModel", "underNow", "J", false)
  | _ => ("LosslessFabricModel", "drawn", "I", false)
def tyX8 : Nat → FieldType := fun k => match k with
  | 0 => .int
  | 1 => .array .int
  | 2 => .int
  | 3 => .array .int
  | 4 => .array .boolean
  | 5 => .array .int
  | 6 => .array .int
  | 7 => .array .int
  | 8 => .array .int
  | 9 => .array .int
  | 10 => .array .int
  | 11 => .array .int
  | 12 => .array .int
  | 13 => .array .boolean
  | 14 => .array .int
  | 15 => .array .int
  | 16 => .int
  | 17 => .int
  | 18 => .int
  | 19 => .int
  | 20 => .int
  | 21 => .int
  | 22 => .int
  | 23 => .int
  | 24 => .int
  | 25 => .int
  | 26 => .array .int
  | 27 => .array .int
  | 28 => .array .int
  | 29 => .array .int
  | 30 => .array .int
  | 31 => .int
  | 32 => .boolean
  | 33 => .array .int
  | 34 => .array .int
  | 35 => .array .int
  | 36 => .array .int
  | 37 => .array .int
  | 38 => .int
  | 39 => .array .int
  | 40 => .array .int
  | 41 => .array .int
  | 42 => .int
  | 43 => .array .long
  | 44 => .array .long
  | 45 => .array .boolean
  | 46 => .long
  | 47 => .long
  | _ => .int
theorem nmX8 : ∀ a, a < 49 → ∀ b, b < 49 → a ≠ b → (TX8 a).2.1 ≠ (TX8 b).2.1 := by decide +kernel
theorem tyX8_ok : ∀ k, k < 49 → parseFieldDescriptor (TX8 k).2.2.1 = some (tyX8 k) := by decide +kernel
theorem inX8 : ∀ w ∈ u_ws RX8 TX8 49, w ∈ gw := by
  have h : u_ws RX8 TX8 49 = [.lays RX8 RX8 "thrown" "I", .laysFinal RX8 RX8 "tape" "[I", .lays RX8 RX8 "taped" "I", .laysFinal RX8 RX8 "number" "[I", .laysFinal RX8 RX8 "isTold" "[Z", .laysFinal RX8 RX8 "linkName" "[I", .laysFinal RX8 RX8 "cap" "[I", .laysFinal RX8 RX8 "delay" "[I", .laysFinal RX8 RX8 "xoffTold" "[I", .laysFinal RX8 RX8 "xonTold" "[I", .laysFinal RX8 RX8 "sizeTold" "[I", .laysFinal RX8 RX8 "flowName" "[I", .laysFinal RX8 RX8 "rateTold" "[I", .laysFinal RX8 RX8 "isOff" "[Z", .laysFinal RX8 RX8 "hops" "[I", .laysFinal RX8 RX8 "path" "[I", .lays RX8 RX8 "lines" "I", .lays RX8 RX8 "size" "I", .lays RX8 RX8 "at" "I", .lays RX8 RX8 "place" "I", .lays RX8 RX8 "sort" "I", .lays RX8 RX8 "value" "I", .lays RX8 RX8 "fault" "I", .lays RX8 RX8 "faultPlace" "I", .lays RX8 RX8 "lastFault" "I", .lays RX8 RX8 "lastPlace" "I", .laysFinal RX8 RX8 "s" "[I", .laysFinal RX8 RX8 "aside" "[I", .laysFinal RX8 RX8 "further" "[I", .laysFinal RX8 RX8 "image" "[I", .laysFinal RX8 RX8 "pasts" "[I", .lays RX8 RX8 "undoable" "I", .lays RX8 RX8 "hasImage" "Z", .laysFinal RX8 RX8 "can" "[I", .laysFinal RX8 RX8 "carries" "[I", .laysFinal RX8 RX8 "comes" "[I", .laysFinal RX8 RX8 "noteFlow" "[I", .laysFinal RX8 RX8 "note" "[I", .lays RX8 RX8 "notes" "I", .laysFinal RX8 RX8 "after" "[I", .laysFinal RX8 RX8 "steps" "[I", .laysFinal RX8 RX8 "cycle" "[I", .lays RX8 RX8 "cycleLong" "I", .laysFinal RX8 RX8 "upper" "[J", .laysFinal RX8 RX8 "lower" "[J", .laysFinal RX8 RX8 "isDone" "[Z", .lays RX8 RX8 "topNow" "J", .lays RX8 RX8 "underNow" "J", .lays RX8 RX8 "drawn" "I"] := by decide +kernel
  rw [h]
  exact List.forall_mem_cons.mpr ⟨gmem 914 (by decide +kernel) rfl, List.forall_mem_cons.mpr ⟨gmem 916 (by decide +kernel) rfl, List.forall_mem_cons.mpr ⟨gmem 918 (by decide +kernel) rfl, List.forall_mem_cons.mpr ⟨gmem 920 (by decide +kernel) rfl, List.forall_mem_cons.mpr ⟨gmem 922 (by decide +kernel) rfl, List.forall_mem_cons.mpr ⟨gmem 924 (by decide +kernel) rfl, List.forall_mem_cons.mpr ⟨gmem 926 (by decide +kernel) rfl, List.forall_mem_cons.mpr ⟨gmem 928 (by decide +kernel) rfl, List.forall_mem_cons.mpr ⟨gmem 930 (by decide +kernel) rfl, List.forall_mem_cons.mpr ⟨gmem 932 (by decide +kernel) rfl, List.forall_mem_cons.mpr ⟨gmem 934 (by decide +kernel) rfl, List.forall_mem_cons.mpr ⟨gmem 936 (by decide +kernel) rfl, List.forall_mem_cons.mpr ⟨gmem 938 (by decide +kernel) rfl, List.forall_mem_cons.mpr ⟨gmem 940 (by decide +kernel) rfl, List.forall_mem_cons.mpr ⟨gmem 942 (by decide +kernel) rfl, List.forall_mem_cons.mpr ⟨gmem 944 (by decide +kernel) rfl, List.forall_mem_cons.mpr ⟨gmem 946 (by decide +kernel) rfl, List.forall_mem_cons.mpr ⟨gmem 948 (by decide +kernel) rfl, List.forall_mem_cons.mpr ⟨gmem 950 (by decide +kernel) rfl, List.forall_mem_cons.mpr ⟨gmem 952 (by decide +kernel) rfl, List.forall_mem_cons.mpr ⟨gmem 954 (by decide +kernel) rfl, List.forall_mem_cons.mpr ⟨gmem 956 (by decide +kernel) rfl, List.forall_mem_cons.mpr ⟨gmem 958 (by decide +kernel) rfl, List.forall_mem_cons.mpr ⟨gmem 960 (by decide +kernel) rfl, List.forall_mem_cons.mpr ⟨gmem 962 (by decide +kernel) rfl, List.forall_mem_cons.mpr ⟨gmem 964 (by decide +kernel) rfl, List.forall_mem_cons.mpr ⟨gmem 966 (by decide +kernel) rfl, List.forall_mem_cons.mpr ⟨gmem 968 (by decide +kernel) rfl, List.forall_mem_cons.mpr ⟨gmem 970 (by decide +kernel) rfl, List.forall_mem_cons.mpr ⟨gmem 972 (by decide +kernel) rfl, List.forall_mem_cons.mpr ⟨gmem 974 (by decide +kernel) rfl, List.forall_mem_cons.mpr ⟨gmem 976 (by decide +kernel) rfl, List.forall_mem_cons.mpr ⟨gmem 978 (by decide +kernel) rfl, List.forall_mem_cons.mpr ⟨gmem 980 (by decide +kernel) rfl, List.forall_mem_cons.mpr ⟨gmem 982 (by decide +kernel) rfl, List.forall_mem_cons.mpr ⟨gmem 984 (by decide +kernel) rfl, List.forall_mem_cons.mpr ⟨gmem 986 (by decide +kernel) rfl, List.forall_mem_cons.mpr ⟨gmem 988 (by decide +kernel) rfl, List.forall_mem_cons.mpr ⟨gmem 990 (by decide +kernel) rfl, List.forall_mem_cons.mpr ⟨gmem 992 (by decide +kernel) rfl, List.forall_mem_cons.mpr ⟨gmem 994 (by decide +kernel) rfl, List.forall_mem_cons.mpr ⟨gmem 996 (by decide +kernel) rfl, List.forall_mem_cons.mpr ⟨gmem 998 (by decide +kernel) rfl, List.forall_mem_cons.mpr ⟨gmem 1000 (by decide +kernel) rfl, List.forall_mem_cons.mpr ⟨gmem 1002 (by decide +kernel) rfl, List.forall_mem_cons.mpr ⟨gmem 1004 (by decide +kernel) rfl, List.forall_mem_cons.mpr ⟨gmem 1006 (by decide +kernel) rfl, List.forall_mem_cons.mpr ⟨gmem 1008 (by decide +kernel) rfl, List.forall_mem_cons.mpr ⟨gmem 1010 (by decide +kernel) rfl, fun _ h => absurd h List.not_mem_nil⟩⟩⟩⟩⟩⟩⟩⟩⟩⟩⟩⟩⟩⟩⟩⟩⟩⟩⟩⟩⟩⟩⟩⟩⟩⟩⟩⟩⟩⟩⟩⟩⟩⟩⟩⟩⟩⟩⟩⟩⟩⟩⟩⟩⟩⟩⟩⟩⟩
abbrev RL : String := "LosslessFabricLaw"
abbrev cX0_init : ByteArray := prog_2_method_1_code
def yX0_init : MethodName := ⟨RX0, "<init>", "()V"⟩
abbrev cX0_push : ByteArray := prog_2_method_2_code
def yX0_push : MethodName := ⟨RX0, "push", "([I)V"⟩
abbrev cX0_pop : ByteArray := prog_2_method_3_code
def yX0_pop : MethodName := ⟨RX0, "pop", "([I)V"⟩
abbrev cX0_forgetSteps : ByteArray := prog_2_method_4_code
def yX0_forgetSteps : MethodName := ⟨RX0, "forgetSteps", "()V"⟩
abbrev cX1_init : ByteArray := prog_3_method_1_code
def yX1_init : MethodName := ⟨RX1, "<init>", "()V"⟩
abbrev cX1_clear : ByteArray := prog_3_method_2_code
def yX1_clear : MethodName := ⟨RX1, "clear", "()V"⟩
abbrev cX1_linkOf : ByteArray := prog_3_method_3_code
def yX1_linkOf : MethodName := ⟨RX1, "linkOf", "(I)I"⟩
abbrev cX1_flowOf : ByteArray := prog_3_method_4_code
def yX1_flowOf : MethodName := ⟨RX1, "flowOf", "(I)I"⟩
abbrev cX1_goOn : ByteArray := prog_3_method_5_code
def yX1_goOn : MethodName := ⟨RX1, "goOn", "(III)V"⟩
abbrev cX1_isPaused : ByteArray := prog_3_method_6_code
def yX1_isPaused : MethodName := ⟨RX1, "isPaused", "([II)Z"⟩
abbrev cX1_feedbackOf : ByteArray := prog_3_method_7_code
def yX1_feedbackOf : MethodName := ⟨RX1, "feedbackOf", "([II)I"⟩
abbrev cX1_noticeOf : ByteArray := prog_3_method_8_code
def yX1_noticeOf : MethodName := ⟨RX1, "noticeOf", "(I)I"⟩
abbrev cX1_headroomOf : ByteArray := prog_3_method_9_code
def yX1_headroomOf : MethodName := ⟨RX1, "headroomOf", "([II)I"⟩
abbrev cX2_init : ByteArray := prog_4_method_1_code
def yX2_init : MethodName := ⟨RX2, "<init>", "()V"⟩
abbrev cX2_begin : ByteArray := prog_4_method_2_code
def yX2_begin : MethodName := ⟨RX2, "begin", "(LLosslessFabric$Plan;[I)V"⟩
abbrev cX2_readLine : ByteArray := prog_4_method_3_code
def yX2_readLine : MethodName := ⟨RX2, "readLine", "(LLosslessFabric$Tape;LLosslessFabric$Plan;[I)Z"⟩
abbrev cX2_readLink : ByteArray := prog_4_method_4_code
def yX2_readLink : MethodName := ⟨RX2, "readLink", "(LLosslessFabric$Tape;LLosslessFabric$Plan;[I)Z"⟩
abbrev cX2_readFlow : ByteArray := prog_4_method_5_code
def yX2_readFlow : MethodName := ⟨RX2, "readFlow", "(LLosslessFabric$Tape;LLosslessFabric$Plan;[I)Z"⟩
abbrev cX2_readPath : ByteArray := prog_4_method_6_code
def yX2_readPath : MethodName := ⟨RX2, "readPath", "(LLosslessFabric$Tape;LLosslessFabric$Plan;I)Z"⟩
abbrev cX2_readSample : ByteArray := prog_4_method_7_code
def yX2_readSample : MethodName := ⟨RX2, "readSample", "(LLosslessFabric$Tape;[I)Z"⟩
abbrev cX2_readStage : ByteArray := prog_4_method_8_code
def yX2_readStage : MethodName := ⟨RX2, "readStage", "(LLosslessFabric$Tape;[I)Z"⟩
abbrev cX2_readSeed : ByteArray := prog_4_method_9_code
def yX2_readSeed : MethodName := ⟨RX2, "readSeed", "(LLosslessFabric$Tape;[I)Z"⟩
abbrev cX2_readOff : ByteArray := prog_4_method_10_code
def yX2_readOff : MethodName := ⟨RX2, "readOff", "(LLosslessFabric$Tape;LLosslessFabric$Plan;[I)Z"⟩
abbrev cX2_isFirst : ByteArray := prog_4_method_11_code
def yX2_isFirst : MethodName := ⟨RX2, "isFirst", "(LLosslessFabric$Tape;I)Z"⟩
abbrev cX2_readName : ByteArray := prog_4_method_12_code
def yX2_readName : MethodName := ⟨RX2, "readName", "(LLosslessFabric$Tape;)Z"⟩
abbrev cX2_readNumber : ByteArray := prog_4_method_13_code
def yX2_readNumber : MethodName := ⟨RX2, "readNumber", "(LLosslessFabric$Tape;II[II)Z"⟩
abbrev cX2_readSemicolon : ByteArray := prog_4_method_14_code
def yX2_readSemicolon : MethodName := ⟨RX2, "readSemicolon", "(LLosslessFabric$Tape;)Z"⟩
abbrev cX2_failed : ByteArray := prog_4_method_15_code
def yX2_failed : MethodName := ⟨RX2, "failed", "(LLosslessFabric$Tape;I)Z"⟩
abbrev cX3_init : ByteArray := prog_5_method_1_code
def yX3_init : MethodName := ⟨RX3, "<init>", "()V"⟩
abbrev cX3_share : ByteArray := prog_5_method_2_code
def yX3_share : MethodName := ⟨RX3, "share", "(LLosslessFabric$Plan;[I)V"⟩
abbrev cX3_firstToFill : ByteArray := prog_5_method_3_code
def yX3_firstToFill : MethodName := ⟨RX3, "firstToFill", "(LLosslessFabric$Plan;)I"⟩
abbrev cX3_lookAt : ByteArray := prog_5_method_4_code
def yX3_lookAt : MethodName := ⟨RX3, "lookAt", "(LLosslessFabric$Plan;I)V"⟩
abbrev cX3_hold : ByteArray := prog_5_method_5_code
def yX3_hold : MethodName := ⟨RX3, "hold", "(LLosslessFabric$Plan;I)V"⟩
abbrev cX3_fills : ByteArray := prog_5_method_6_code
def yX3_fills : MethodName := ⟨RX3, "fills", "(LLosslessFabric$Plan;I)Z"⟩
abbrev cX3_upper : ByteArray := prog_5_method_7_code
def yX3_upper : MethodName := ⟨RX3, "upper", "(I)I"⟩
abbrev cX3_lower : ByteArray := prog_5_method_8_code
def yX3_lower : MethodName := ⟨RX3, "lower", "(I)I"⟩
abbrev cX3_common : ByteArray := prog_5_method_9_code
def yX3_common : MethodName := ⟨RX3, "common", "(I)I"⟩
abbrev cX4_init : ByteArray := prog_6_method_1_code
def yX4_init : MethodName := ⟨RX4, "<init>", "()V"⟩
abbrev cX4_append : ByteArray := prog_6_method_2_code
def yX4_append : MethodName := ⟨RX4, "append", "(I)V"⟩
abbrev cX4_rewind : ByteArray := prog_6_method_3_code
def yX4_rewind : MethodName := ⟨RX4, "rewind", "(I)V"⟩
abbrev cX4_next : ByteArray := prog_6_method_4_code
def yX4_next : MethodName := ⟨RX4, "next", "()V"⟩
abbrev cX4_scanWord : ByteArray := prog_6_method_5_code
def yX4_scanWord : MethodName := ⟨RX4, "scanWord", "()V"⟩
abbrev cX4_scanNumber : ByteArray := prog_6_method_6_code
def yX4_scanNumber : MethodName := ⟨RX4, "scanNumber", "()V"⟩
abbrev cX4_isBlank : ByteArray := prog_6_method_7_code
def yX4_isBlank : MethodName := ⟨RX4, "isBlank", "(I)Z"⟩
abbrev cX4_isLetter : ByteArray := prog_6_method_8_code
def yX4_isLetter : MethodName := ⟨RX4, "isLetter", "(I)Z"⟩
abbrev cX4_isDigit : ByteArray := prog_6_method_9_code
def yX4_isDigit : MethodName := ⟨RX4, "isDigit", "(I)Z"⟩
abbrev cX4_isKeyword : ByteArray := prog_6_method_10_code
def yX4_isKeyword : MethodName := ⟨RX4, "isKeyword", "(I)Z"⟩
abbrev cX5_init : ByteArray := prog_7_method_1_code
def yX5_init : MethodName := ⟨RX5, "<init>", "()V"⟩
abbrev cX5_step : ByteArray := prog_7_method_2_code
def yX5_step : MethodName := ⟨RX5, "step", "(LLosslessFabric$Plan;[I)V"⟩
abbrev cX5_cameTo : ByteArray := prog_7_method_3_code
def yX5_cameTo : MethodName := ⟨RX5, "cameTo", "(LLosslessFabric$Plan;I)I"⟩
abbrev cX5_carry : ByteArray := prog_7_method_4_code
def yX5_carry : MethodName := ⟨RX5, "carry", "(LLosslessFabric$Plan;[II)V"⟩
abbrev cX5_ready : ByteArray := prog_7_method_5_code
def yX5_ready : MethodName := ⟨RX5, "ready", "([III)I"⟩
abbrev cX5_takeTurns : ByteArray := prog_7_method_6_code
def yX5_takeTurns : MethodName := ⟨RX5, "takeTurns", "(III)V"⟩
abbrev cX5_giveEach : ByteArray := prog_7_method_7_code
def yX5_giveEach : MethodName := ⟨RX5, "giveEach", "(IIII)I"⟩
abbrev cX5_takeOff : ByteArray := prog_7_method_8_code
def yX5_takeOff : MethodName := ⟨RX5, "takeOff", "([IIII)V"⟩
abbrev cX5_arrive : ByteArray := prog_7_method_9_code
def yX5_arrive : MethodName := ⟨RX5, "arrive", "(LLosslessFabric$Plan;[II)V"⟩
abbrev cX5_ask : ByteArray := prog_7_method_10_code
def yX5_ask : MethodName := ⟨RX5, "ask", "([II)V"⟩
abbrev cX5_sample : ByteArray := prog_7_method_11_code
def yX5_sample : MethodName := ⟨RX5, "sample", "(LLosslessFabric$Plan;[II)V"⟩
abbrev cX5_obey : ByteArray := prog_7_method_12_code
def yX5_obey : MethodName := ⟨RX5, "obey", "([III)V"⟩
abbrev cX5_recover : ByteArray := prog_7_method_13_code
def yX5_recover : MethodName := ⟨RX5, "recover", "(LLosslessFabric$Plan;[II)V"⟩
abbrev cX5_climb : ByteArray := prog_7_method_14_code
def yX5_climb : MethodName := ⟨RX5, "climb", "(LLosslessFabric$Plan;[II)V"⟩
abbrev cX6_init : ByteArray := prog_8_method_1_code
def yX6_init : MethodName := ⟨RX6, "<init>", "()V"⟩
abbrev cX6_waitsOf : ByteArray := prog_8_method_2_code
def yX6_waitsOf : MethodName := ⟨RX6, "waitsOf", "(LLosslessFabric$Plan;[II)I"⟩
abbrev cX6_inPauseCycles : ByteArray := prog_8_method_3_code
def yX6_inPauseCycles : MethodName := ⟨RX6, "inPauseCycles", "(LLosslessFabric$Plan;[I)I"⟩
abbrev cX6_inPossibleCycles : ByteArray := prog_8_method_4_code
def yX6_inPossibleCycles : MethodName := ⟨RX6, "inPossibleCycles", "(LLosslessFabric$Plan;)I"⟩
abbrev cX6_inCyclesOf : ByteArray := prog_8_method_5_code
def yX6_inCyclesOf : MethodName := ⟨RX6, "inCyclesOf", "(I)I"⟩
abbrev cX6_findFirst : ByteArray := prog_8_method_6_code
def yX6_findFirst : MethodName := ⟨RX6, "findFirst", "(LLosslessFabric$Plan;[I)V"⟩
abbrev cX6_leastOf : ByteArray := prog_8_method_7_code
def yX6_leastOf : MethodName := ⟨RX6, "leastOf", "(I)I"⟩
abbrev cX6_measure : ByteArray := prog_8_method_8_code
def yX6_measure : MethodName := ⟨RX6, "measure", "(II)V"⟩
abbrev cX6_nearestNext : ByteArray := prog_8_method_9_code
def yX6_nearestNext : MethodName := ⟨RX6, "nearestNext", "(II)I"⟩
abbrev cX6_witnessOf : ByteArray := prog_8_method_10_code
def yX6_witnessOf : MethodName := ⟨RX6, "witnessOf", "(LLosslessFabric$Plan;[II)I"⟩
abbrev cX7_init : ByteArray := prog_1_method_1_code
def yX7_init : MethodName := ⟨RX7, "<init>", "()V"⟩
abbrev cX7_feed : ByteArray := prog_1_method_2_code
def yX7_feed : MethodName := ⟨RX7, "feed", "(IIIII)I"⟩
abbrev cX7_text : ByteArray := prog_1_method_3_code
def yX7_text : MethodName := ⟨RX7, "text", "(I)I"⟩
abbrev cX7_takeWhatWasRead : ByteArray := prog_1_method_4_code
def yX7_takeWhatWasRead : MethodName := ⟨RX7, "takeWhatWasRead", "()V"⟩
abbrev cX7_fault : ByteArray := prog_1_method_5_code
def yX7_fault : MethodName := ⟨RX7, "fault", "(I)I"⟩
abbrev cX7_named : ByteArray := prog_1_method_6_code
def yX7_named : MethodName := ⟨RX7, "named", "(II)I"⟩
abbrev cX7_tick : ByteArray := prog_1_method_7_code
def yX7_tick : MethodName := ⟨RX7, "tick", "(I)I"⟩
abbrev cX7_rate : ByteArray := prog_1_method_8_code
def yX7_rate : MethodName := ⟨RX7, "rate", "(II)I"⟩
abbrev cX7_turn : ByteArray := prog_1_method_9_code
def yX7_turn : MethodName := ⟨RX7, "turn", "(I)I"⟩
abbrev cX7_bounds : ByteArray := prog_1_method_10_code
def yX7_bounds : MethodName := ⟨RX7, "bounds", "(III)Z"⟩
abbrev cX7_size : ByteArray := prog_1_method_11_code
def yX7_size : MethodName := ⟨RX7, "size", "(II)I"⟩
abbrev cX7_link : ByteArray := prog_1_method_12_code
def yX7_link : MethodName := ⟨RX7, "link", "(II)I"⟩
abbrev cX7_queue : ByteArray := prog_1_method_13_code
def yX7_queue : MethodName := ⟨RX7, "queue", "(II)I"⟩
abbrev cX7_flow : ByteArray := prog_1_method_14_code
def yX7_flow : MethodName := ⟨RX7, "flow", "(II)I"⟩
abbrev cX7_path : ByteArray := prog_1_method_15_code
def yX7_path : MethodName := ⟨RX7, "path", "(II)I"⟩
abbrev cX7_feedback : ByteArray := prog_1_method_16_code
def yX7_feedback : MethodName := ⟨RX7, "feedback", "(I)I"⟩
abbrev cX7_notice : ByteArray := prog_1_method_17_code
def yX7_notice : MethodName := ⟨RX7, "notice", "(I)I"⟩
abbrev cX7_headroom : ByteArray := prog_1_method_18_code
def yX7_headroom : MethodName := ⟨RX7, "headroom", "(I)I"⟩
abbrev cX7_safe : ByteArray := prog_1_method_19_code
def yX7_safe : MethodName := ⟨RX7, "safe", "()I"⟩
abbrev cX7_waits : ByteArray := prog_1_method_20_code
def yX7_waits : MethodName := ⟨RX7, "waits", "(I)I"⟩
abbrev cX7_cycle : ByteArray := prog_1_method_21_code
def yX7_cycle : MethodName := ⟨RX7, "cycle", "(I)I"⟩
abbrev cX7_witness : ByteArray := prog_1_method_22_code
def yX7_witness : MethodName := ⟨RX7, "witness", "(I)I"⟩
abbrev cX7_inCycles : ByteArray := prog_1_method_23_code
def yX7_inCycles : MethodName := ⟨RX7, "inCycles", "(I)I"⟩
abbrev cX7_fair : ByteArray := prog_1_method_24_code
def yX7_fair : MethodName := ⟨RX7, "fair", "(IZ)J"⟩
abbrev cX7_full : ByteArray := prog_1_method_25_code
def yX7_full : MethodName := ⟨RX7, "full", "()I"⟩
abbrev cX7_ahead : ByteArray := prog_1_method_26_code
def yX7_ahead : MethodName := ⟨RX7, "ahead", "(III)I"⟩
abbrev cX7_flows : ByteArray := prog_1_method_27_code
def yX7_flows : MethodName := ⟨RX7, "flows", "(III)I"⟩
abbrev cX7_stalls : ByteArray := prog_1_method_28_code
def yX7_stalls : MethodName := ⟨RX7, "stalls", "()I"⟩
abbrev cX7_quiet : ByteArray := prog_1_method_29_code
def yX7_quiet : MethodName := ⟨RX7, "quiet", "()I"⟩
abbrev cX7_worst : ByteArray := prog_1_method_30_code
def yX7_worst : MethodName := ⟨RX7, "worst", "(I)I"⟩
abbrev cX7_deliveredWithout : ByteArray := prog_1_method_31_code
def yX7_deliveredWithout : MethodName := ⟨RX7, "deliveredWithout", "(II)I"⟩
abbrev cX7_leastSize : ByteArray := prog_1_method_32_code
def yX7_leastSize : MethodName := ⟨RX7, "leastSize", "(II)I"⟩
abbrev cX7_onWay : ByteArray := prog_1_method_33_code
def yX7_onWay : MethodName := ⟨RX7, "onWay", "(I)I"⟩
abbrev cX7_chance : ByteArray := prog_1_method_34_code
def yX7_chance : MethodName := ⟨RX7, "chance", "(IIII)I"⟩
abbrev cX7_runByChance : ByteArray := prog_1_method_35_code
def yX7_runByChance : MethodName := ⟨RX7, "runByChance", "(III)I"⟩
abbrev cX7_nextNumber : ByteArray := prog_1_method_36_code
def yX7_nextNumber : MethodName := ⟨RX7, "nextNumber", "(I)I"⟩
abbrev cX7_undo : ByteArray := prog_1_method_37_code
def yX7_undo : MethodName := ⟨RX7, "undo", "()I"⟩
abbrev cX7_keep : ByteArray := prog_1_method_38_code
def yX7_keep : MethodName := ⟨RX7, "keep", "()I"⟩
abbrev cX7_back : ByteArray := prog_1_method_39_code
def yX7_back : MethodName := ⟨RX7, "back", "()I"⟩
abbrev cX7_count : ByteArray := prog_1_method_40_code
def yX7_count : MethodName := ⟨RX7, "count", "(I)I"⟩
abbrev cX7_askedPause : ByteArray := prog_1_method_41_code
def yX7_askedPause : MethodName := ⟨RX7, "askedPause", "()I"⟩
abbrev cX7_isLink : ByteArray := prog_1_method_42_code
def yX7_isLink : MethodName := ⟨RX7, "isLink", "(I)Z"⟩
abbrev cX7_isFlow : ByteArray := prog_1_method_43_code
def yX7_isFlow : MethodName := ⟨RX7, "isFlow", "(I)Z"⟩
abbrev cX7_startTrial : ByteArray := prog_1_method_44_code
def yX7_startTrial : MethodName := ⟨RX7, "startTrial", "()V"⟩
abbrev cX7_run : ByteArray := prog_1_method_45_code
def yX7_run : MethodName := ⟨RX7, "run", "([II)V"⟩
abbrev cX7_grown : ByteArray := prog_1_method_46_code
def yX7_grown : MethodName := ⟨RX7, "grown", "(II)I"⟩
abbrev cX7_sum : ByteArray := prog_1_method_47_code
def yX7_sum : MethodName := ⟨RX7, "sum", "([III)I"⟩
abbrev cX8_init : ByteArray := prog_10_method_1_code
def yX8_init : MethodName := ⟨RX8, "<init>", "()V"⟩
abbrev cX8_thrown : ByteArray := prog_10_method_2_code
def yX8_thrown : MethodName := ⟨RX8, "thrown", "()I"⟩
abbrev cX8_feed : ByteArray := prog_10_method_3_code
def yX8_feed : MethodName := ⟨RX8, "feed", "(IIIII)I"⟩
abbrev cX8_here : ByteArray := prog_10_method_4_code
def yX8_here : MethodName := ⟨RX8, "here", "()I"⟩
abbrev cX8_isSmall : ByteArray := prog_10_method_5_code
def yX8_isSmall : MethodName := ⟨RX8, "isSmall", "(I)Z"⟩
abbrev cX8_isDigit : ByteArray := prog_10_method_6_code
def yX8_isDigit : MethodName := ⟨RX8, "isDigit", "(I)Z"⟩
abbrev cX8_token : ByteArray := prog_10_method_7_code
def yX8_token : MethodName := ⟨RX8, "token", "()V"⟩
abbrev cX8_wordHere : ByteArray := prog_10_method_8_code
def yX8_wordHere : MethodName := ⟨RX8, "wordHere", "()I"⟩
abbrev cX8_nameHere : ByteArray := prog_10_method_9_code
def yX8_nameHere : MethodName := ⟨RX8, "nameHere", "()V"⟩
abbrev cX8_wrong : ByteArray := prog_10_method_10_code
def yX8_wrong : MethodName := ⟨RX8, "wrong", "(I)V"⟩
abbrev cX8_goOn : ByteArray := prog_10_method_11_code
def yX8_goOn : MethodName := ⟨RX8, "goOn", "()V"⟩
abbrev cX8_numeral : ByteArray := prog_10_method_12_code
def yX8_numeral : MethodName := ⟨RX8, "numeral", "(II)I"⟩
abbrev cX8_reading : ByteArray := prog_10_method_13_code
def yX8_reading : MethodName := ⟨RX8, "reading", "(I)I"⟩
abbrev cX8_reads : ByteArray := prog_10_method_14_code
def yX8_reads : MethodName := ⟨RX8, "reads", "(II)V"⟩
abbrev cX8_once : ByteArray := prog_10_method_15_code
def yX8_once : MethodName := ⟨RX8, "once", "(I)V"⟩
abbrev cX8_foundIn : ByteArray := prog_10_method_16_code
def yX8_foundIn : MethodName := ⟨RX8, "foundIn", "([IIII)I"⟩
abbrev cX8_newName : ByteArray := prog_10_method_17_code
def yX8_newName : MethodName := ⟨RX8, "newName", "([III)V"⟩
abbrev cX8_readLink : ByteArray := prog_10_method_18_code
def yX8_readLink : MethodName := ⟨RX8, "readLink", "()V"⟩
abbrev cX8_isOnPath : ByteArray := prog_10_method_19_code
def yX8_isOnPath : MethodName := ⟨RX8, "isOnPath", "(II)Z"⟩
abbrev cX8_readHop : ByteArray := prog_10_method_20_code
def yX8_readHop : MethodName := ⟨RX8, "readHop", "(I)V"⟩
abbrev cX8_readFlow : ByteArray := prog_10_method_21_code
def yX8_readFlow : MethodName := ⟨RX8, "readFlow", "()V"⟩
abbrev cX8_readSample : ByteArray := prog_10_method_22_code
def yX8_readSample : MethodName := ⟨RX8, "readSample", "()V"⟩
abbrev cX8_readStage : ByteArray := prog_10_method_23_code
def yX8_readStage : MethodName := ⟨RX8, "readStage", "()V"⟩
abbrev cX8_readOff : ByteArray := prog_10_method_24_code
def yX8_readOff : MethodName := ⟨RX8, "readOff", "()V"⟩
abbrev cX8_readSeed : ByteArray := prog_10_method_25_code
def yX8_readSeed : MethodName := ⟨RX8, "readSeed", "()V"⟩
abbrev cX8_readLine : ByteArray := prog_10_method_26_code
def yX8_readLine : MethodName := ⟨RX8, "readLine", "()V"⟩
abbrev cX8_freshText : ByteArray := prog_10_method_27_code
def yX8_freshText : MethodName := ⟨RX8, "freshText", "()V"⟩
abbrev cX8_readText : ByteArray := prog_10_method_28_code
def yX8_readText : MethodName := ⟨RX8, "readText", "(I)V"⟩
abbrev cX8_takeText : ByteArray := prog_10_method_29_code
def yX8_takeText : MethodName := ⟨RX8, "takeText", "()V"⟩
abbrev cX8_text : ByteArray := prog_10_method_30_code
def yX8_text : MethodName := ⟨RX8, "text", "(I)I"⟩
abbrev cX8_fault : ByteArray := prog_10_method_31_code
def yX8_fault : MethodName := ⟨RX8, "fault", "(I)I"⟩
abbrev cX8_links : ByteArray := prog_10_method_32_code
def yX8_links : MethodName := ⟨RX8, "links", "()I"⟩
abbrev cX8_flows : ByteArray := prog_10_method_33_code
def yX8_flows : MethodName := ⟨RX8, "flows", "()I"⟩
abbrev cX8_named : ByteArray := prog_10_method_34_code
def yX8_named : MethodName := ⟨RX8, "named", "(II)I"⟩
abbrev cX8_copies : ByteArray := prog_10_method_35_code
def yX8_copies : MethodName := ⟨RX8, "copies", "([II[II)V"⟩
abbrev cX8_begins : ByteArray := prog_10_method_36_code
def yX8_begins : MethodName := ⟨RX8, "begins", "()V"⟩
abbrev cX8_remembers : ByteArray := prog_10_method_37_code
def yX8_remembers : MethodName := ⟨RX8, "remembers", "()V"⟩
abbrev cX8_undo : ByteArray := prog_10_method_38_code
def yX8_undo : MethodName := ⟨RX8, "undo", "()I"⟩
abbrev cX8_keep : ByteArray := prog_10_method_39_code
def yX8_keep : MethodName := ⟨RX8, "keep", "()I"⟩
abbrev cX8_back : ByteArray := prog_10_method_40_code
def yX8_back : MethodName := ⟨RX8, "back", "()I"⟩
abbrev cX8_flowAt : ByteArray := prog_10_method_41_code
def yX8_flowAt : MethodName := ⟨RX8, "flowAt", "(I)I"⟩
abbrev cX8_queueOf : ByteArray := prog_10_method_42_code
def yX8_queueOf : MethodName := ⟨RX8, "queueOf", "(I)I"⟩
abbrev cX8_isOn : ByteArray := prog_10_method_43_code
def yX8_isOn : MethodName := ⟨RX8, "isOn", "(I)Z"⟩
abbrev cX8_asked : ByteArray := prog_10_method_44_code
def yX8_asked : MethodName := ⟨RX8, "asked", "(I)Z"⟩
abbrev cX8_hopOf : ByteArray := prog_10_method_45_code
def yX8_hopOf : MethodName := ⟨RX8, "hopOf", "(II)I"⟩
abbrev cX8_within : ByteArray := prog_10_method_46_code
def yX8_within : MethodName := ⟨RX8, "within", "(III)I"⟩
abbrev cX8_laysCan : ByteArray := prog_10_method_47_code
def yX8_laysCan : MethodName := ⟨RX8, "laysCan", "()V"⟩
abbrev cX8_carriesOf : ByteArray := prog_10_method_48_code
def yX8_carriesOf : MethodName := ⟨RX8, "carriesOf", "(I)V"⟩
abbrev cX8_takesOff : ByteArray := prog_10_method_49_code
def yX8_takesOff : MethodName := ⟨RX8, "takesOff", "()V"⟩
abbrev cX8_comesTo : ByteArray := prog_10_method_50_code
def yX8_comesTo : MethodName := ⟨RX8, "comesTo", "(I)V"⟩
abbrev cX8_asks : ByteArray := prog_10_method_51_code
def yX8_asks : MethodName := ⟨RX8, "asks", "(I)V"⟩
abbrev cX8_feedbackOf : ByteArray := prog_10_method_52_code
def yX8_feedbackOf : MethodName := ⟨RX8, "feedbackOf", "(I)I"⟩
abbrev cX8_noticeOf : ByteArray := prog_10_method_53_code
def yX8_noticeOf : MethodName := ⟨RX8, "noticeOf", "(I)I"⟩
abbrev cX8_samples : ByteArray := prog_10_method_54_code
def yX8_samples : MethodName := ⟨RX8, "samples", "(I)V"⟩
abbrev cX8_takesNotices : ByteArray := prog_10_method_55_code
def yX8_takesNotices : MethodName := ⟨RX8, "takesNotices", "()V"⟩
abbrev cX8_climbs : ByteArray := prog_10_method_56_code
def yX8_climbs : MethodName := ⟨RX8, "climbs", "(I)V"⟩
abbrev cX8_recovers : ByteArray := prog_10_method_57_code
def yX8_recovers : MethodName := ⟨RX8, "recovers", "(I)V"⟩
abbrev cX8_tickGoes : ByteArray := prog_10_method_58_code
def yX8_tickGoes : MethodName := ⟨RX8, "tickGoes", "()V"⟩
abbrev cX8_tick : ByteArray := prog_10_method_59_code
def yX8_tick : MethodName := ⟨RX8, "tick", "(I)I"⟩
abbrev cX8_isLink : ByteArray := prog_10_method_60_code
def yX8_isLink : MethodName := ⟨RX8, "isLink", "(I)Z"⟩
abbrev cX8_isFlow : ByteArray := prog_10_method_61_code
def yX8_isFlow : MethodName := ⟨RX8, "isFlow", "(I)Z"⟩
abbrev cX8_rate : ByteArray := prog_10_method_62_code
def yX8_rate : MethodName := ⟨RX8, "rate", "(II)I"⟩
abbrev cX8_turn : ByteArray := prog_10_method_63_code
def yX8_turn : MethodName := ⟨RX8, "turn", "(I)I"⟩
abbrev cX8_bounds : ByteArray := prog_10_method_64_code
def yX8_bounds : MethodName := ⟨RX8, "bounds", "(III)Z"⟩
abbrev cX8_size : ByteArray := prog_10_method_65_code
def yX8_size : MethodName := ⟨RX8, "size", "(II)I"⟩
abbrev cX8_link : ByteArray := prog_10_method_66_code
def yX8_link : MethodName := ⟨RX8, "link", "(II)I"⟩
abbrev cX8_queue : ByteArray := prog_10_method_67_code
def yX8_queue : MethodName := ⟨RX8, "queue", "(II)I"⟩
abbrev cX8_flow : ByteArray := prog_10_method_68_code
def yX8_flow : MethodName := ⟨RX8, "flow", "(II)I"⟩
abbrev cX8_path : ByteArray := prog_10_method_69_code
def yX8_path : MethodName := ⟨RX8, "path", "(II)I"⟩
abbrev cX8_feedback : ByteArray := prog_10_method_70_code
def yX8_feedback : MethodName := ⟨RX8, "feedback", "(I)I"⟩
abbrev cX8_notice : ByteArray := prog_10_method_71_code
def yX8_notice : MethodName := ⟨RX8, "notice", "(I)I"⟩
abbrev cX8_headroomOf : ByteArray := prog_10_method_72_code
def yX8_headroomOf : MethodName := ⟨RX8, "headroomOf", "(I)I"⟩
abbrev cX8_headroom : ByteArray := prog_10_method_73_code
def yX8_headroom : MethodName := ⟨RX8, "headroom", "(I)I"⟩
abbrev cX8_safe : ByteArray := prog_10_method_74_code
def yX8_safe : MethodName := ⟨RX8, "safe", "()I"⟩
abbrev cX8_onWay : ByteArray := prog_10_method_75_code
def yX8_onWay : MethodName := ⟨RX8, "onWay", "(I)I"⟩
abbrev cX8_nextOf : ByteArray := prog_10_method_76_code
def yX8_nextOf : MethodName := ⟨RX8, "nextOf", "(II)I"⟩
abbrev cX8_isWaiting : ByteArray := prog_10_method_77_code
def yX8_isWaiting : MethodName := ⟨RX8, "isWaiting", "(III)Z"⟩
abbrev cX8_laysWaits : ByteArray := prog_10_method_78_code
def yX8_laysWaits : MethodName := ⟨RX8, "laysWaits", "(Z)V"⟩
abbrev cX8_waits : ByteArray := prog_10_method_79_code
def yX8_waits : MethodName := ⟨RX8, "waits", "(I)I"⟩
abbrev cX8_laysSteps : ByteArray := prog_10_method_80_code
def yX8_laysSteps : MethodName := ⟨RX8, "laysSteps", "(I)V"⟩
abbrev cX8_inCyclesNow : ByteArray := prog_10_method_81_code
def yX8_inCyclesNow : MethodName := ⟨RX8, "inCyclesNow", "()I"⟩
abbrev cX8_inCycles : ByteArray := prog_10_method_82_code
def yX8_inCycles : MethodName := ⟨RX8, "inCycles", "(I)I"⟩
abbrev cX8_laysCycle : ByteArray := prog_10_method_83_code
def yX8_laysCycle : MethodName := ⟨RX8, "laysCycle", "()V"⟩
abbrev cX8_cycle : ByteArray := prog_10_method_84_code
def yX8_cycle : MethodName := ⟨RX8, "cycle", "(I)I"⟩
abbrev cX8_witness : ByteArray := prog_10_method_85_code
def yX8_witness : MethodName := ⟨RX8, "witness", "(I)I"⟩
abbrev cX8_divisor : ByteArray := prog_10_method_86_code
def yX8_divisor : MethodName := ⟨RX8, "divisor", "(JJ)J"⟩
abbrev cX8_tells : ByteArray := prog_10_method_87_code
def yX8_tells : MethodName := ⟨RX8, "tells", "(JJ)V"⟩
abbrev cX8_leftOf : ByteArray := prog_10_method_88_code
def yX8_leftOf : MethodName := ⟨RX8, "leftOf", "(I)I"⟩
abbrev cX8_laysFair : ByteArray := prog_10_method_89_code
def yX8_laysFair : MethodName := ⟨RX8, "laysFair", "()V"⟩
abbrev cX8_stops : ByteArray := prog_10_method_90_code
def yX8_stops : MethodName := ⟨RX8, "stops", "(JJ)V"⟩
abbrev cX8_fair : ByteArray := prog_10_method_91_code
def yX8_fair : MethodName := ⟨RX8, "fair", "(IZ)J"⟩
abbrev cX8_full : ByteArray := prog_10_method_92_code
def yX8_full : MethodName := ⟨RX8, "full", "()I"⟩
abbrev cX8_isFar : ByteArray := prog_10_method_93_code
def yX8_isFar : MethodName := ⟨RX8, "isFar", "(I)Z"⟩
abbrev cX8_ahead : ByteArray := prog_10_method_94_code
def yX8_ahead : MethodName := ⟨RX8, "ahead", "(III)I"⟩
abbrev cX8_flows_ : ByteArray := prog_10_method_95_code
def yX8_flows_ : MethodName := ⟨RX8, "flows", "(III)I"⟩
abbrev cX8_isStalled : ByteArray := prog_10_method_96_code
def yX8_isStalled : MethodName := ⟨RX8, "isStalled", "()Z"⟩
abbrev cX8_stalls : ByteArray := prog_10_method_97_code
def yX8_stalls : MethodName := ⟨RX8, "stalls", "()I"⟩
abbrev cX8_isEmpty : ByteArray := prog_10_method_98_code
def yX8_isEmpty : MethodName := ⟨RX8, "isEmpty", "()Z"⟩
abbrev cX8_quiet : ByteArray := prog_10_method_99_code
def yX8_quiet : MethodName := ⟨RX8, "quiet", "()I"⟩
abbrev cX8_sumOf : ByteArray := prog_10_method_100_code
def yX8_sumOf : MethodName := ⟨RX8, "sumOf", "(I)I"⟩
abbrev cX8_worst : ByteArray := prog_10_method_101_code
def yX8_worst : MethodName := ⟨RX8, "worst", "(I)I"⟩
abbrev cX8_leastSize : ByteArray := prog_10_method_102_code
def yX8_leastSize : MethodName := ⟨RX8, "leastSize", "(II)I"⟩
abbrev cX8_draw : ByteArray := prog_10_method_103_code
def yX8_draw : MethodName := ⟨RX8, "draw", "(I)I"⟩
abbrev cX8_lostAll : ByteArray := prog_10_method_104_code
def yX8_lostAll : MethodName := ⟨RX8, "lostAll", "()I"⟩
abbrev cX8_chance : ByteArray := prog_10_method_105_code
def yX8_chance : MethodName := ⟨RX8, "chance", "(IIII)I"⟩
abbrev cX8_askedMany : ByteArray := prog_10_method_106_code
def yX8_askedMany : MethodName := ⟨RX8, "askedMany", "()I"⟩
abbrev cX8_count : ByteArray := prog_10_method_107_code
def yX8_count : MethodName := ⟨RX8, "count", "(I)I"⟩
abbrev cL_link : ByteArray := method_3_code
def yL_link : MethodName := ⟨RL, "link", "(LLosslessFabric;II[J)I"⟩
abbrev cL_law : ByteArray := code
def yL_law : MethodName := ⟨RL, "law", "([I)Z"⟩
abbrev gc : List vw_C := [(RX0, TX0, 5), (RX1, TX1, 11), (RX2, TX2, 3), (RX3, TX3, 5), (RX4, TX4, 7), (RX5, TX5, 3), (RX6, TX6, 5), (RX7, TX7, 12), (RX8, TX8, 49)]
