section
-- ===== PART A: goes FIRST, ahead of the names: the tables' words, and 'selects' of the private methods out of them =====
/-- a private method of a class that the tables say can be made, by its rows of tables_1 -/
def lw_okq (q : MethodName × Nat) : Prop := (q.1.cls ≠ "java/lang/invoke/MethodHandle" ∧ q.1.cls ≠ "java/lang/invoke/VarHandle") ∧ Cond.instantiable q.1.cls q.2 ∈ tables_1 ∧ Cond.privateMethod q.1 ∈ tables_1 ∧ Cond.instanceMethod q.1 ∈ tables_1
theorem lw_p0 : lw_okq (⟨"LineBuffers$LineText", "readItem", "(LLineBuffers$Line;)V"⟩, 4) := ⟨⟨by decide +kernel, by decide +kernel⟩, List.mem_of_getElem? (i := 96) (by decide +kernel), List.mem_of_getElem? (i := 206) (by decide +kernel), List.mem_of_getElem? (i := 207) (by decide +kernel)⟩
theorem lw_p1 : lw_okq (⟨"LineBuffers$LineText", "byteAt", "(I)I"⟩, 4) := ⟨⟨by decide +kernel, by decide +kernel⟩, List.mem_of_getElem? (i := 96) (by decide +kernel), List.mem_of_getElem? (i := 210) (by decide +kernel), List.mem_of_getElem? (i := 211) (by decide +kernel)⟩
theorem lw_p2 : lw_okq (⟨"LineBuffers$LineText", "readMachine", "(LLineBuffers$Line;)V"⟩, 4) := ⟨⟨by decide +kernel, by decide +kernel⟩, List.mem_of_getElem? (i := 96) (by decide +kernel), List.mem_of_getElem? (i := 214) (by decide +kernel), List.mem_of_getElem? (i := 215) (by decide +kernel)⟩
theorem lw_p3 : lw_okq (⟨"LineBuffers$LineText", "readNumber", "(IIC)I"⟩, 4) := ⟨⟨by decide +kernel, by decide +kernel⟩, List.mem_of_getElem? (i := 96) (by decide +kernel), List.mem_of_getElem? (i := 218) (by decide +kernel), List.mem_of_getElem? (i := 219) (by decide +kernel)⟩
theorem lw_p4 : lw_okq (⟨"LineBuffers$LineText", "readMarks", "(LLineBuffers$Line;)V"⟩, 4) := ⟨⟨by decide +kernel, by decide +kernel⟩, List.mem_of_getElem? (i := 96) (by decide +kernel), List.mem_of_getElem? (i := 232) (by decide +kernel), List.mem_of_getElem? (i := 233) (by decide +kernel)⟩
theorem lw_p5 : lw_okq (⟨"java/lang/Throwable", "fillInStackTrace", "(I)Ljava/lang/Throwable;"⟩, 6) := ⟨⟨by decide +kernel, by decide +kernel⟩, List.mem_of_getElem? (i := 313) (by decide +kernel), List.mem_of_getElem? (i := 311) (by decide +kernel), List.mem_of_getElem? (i := 312) (by decide +kernel)⟩
theorem lw_p6 : lw_okq (⟨"LineBuffers", "needMachine", "(I)V"⟩, 4) := ⟨⟨by decide +kernel, by decide +kernel⟩, List.mem_of_getElem? (i := 17) (by decide +kernel), List.mem_of_getElem? (i := 368) (by decide +kernel), List.mem_of_getElem? (i := 369) (by decide +kernel)⟩
theorem lw_p7 : lw_okq (⟨"LineBuffers", "needMachines", "(I)V"⟩, 4) := ⟨⟨by decide +kernel, by decide +kernel⟩, List.mem_of_getElem? (i := 17) (by decide +kernel), List.mem_of_getElem? (i := 457) (by decide +kernel), List.mem_of_getElem? (i := 458) (by decide +kernel)⟩
theorem lw_p8 : lw_okq (⟨"LineBuffers$Line", "takeTurn", "(I)V"⟩, 4) := ⟨⟨by decide +kernel, by decide +kernel⟩, List.mem_of_getElem? (i := 25) (by decide +kernel), List.mem_of_getElem? (i := 475) (by decide +kernel), List.mem_of_getElem? (i := 476) (by decide +kernel)⟩
theorem lw_p9 : lw_okq (⟨"LineBuffers$Line", "chooseSpeed", "(I)V"⟩, 4) := ⟨⟨by decide +kernel, by decide +kernel⟩, List.mem_of_getElem? (i := 25) (by decide +kernel), List.mem_of_getElem? (i := 479) (by decide +kernel), List.mem_of_getElem? (i := 480) (by decide +kernel)⟩
theorem lw_p10 : lw_okq (⟨"LineBuffers$Line", "release", "(I)V"⟩, 4) := ⟨⟨by decide +kernel, by decide +kernel⟩, List.mem_of_getElem? (i := 25) (by decide +kernel), List.mem_of_getElem? (i := 490) (by decide +kernel), List.mem_of_getElem? (i := 491) (by decide +kernel)⟩
theorem lw_p11 : lw_okq (⟨"LineBuffers$Line", "takeBottle", "(I)V"⟩, 4) := ⟨⟨by decide +kernel, by decide +kernel⟩, List.mem_of_getElem? (i := 25) (by decide +kernel), List.mem_of_getElem? (i := 497) (by decide +kernel), List.mem_of_getElem? (i := 498) (by decide +kernel)⟩
theorem lw_p12 : lw_okq (⟨"LineBuffers$Line", "countFills", "()V"⟩, 4) := ⟨⟨by decide +kernel, by decide +kernel⟩, List.mem_of_getElem? (i := 25) (by decide +kernel), List.mem_of_getElem? (i := 501) (by decide +kernel), List.mem_of_getElem? (i := 502) (by decide +kernel)⟩
theorem lw_p13 : lw_okq (⟨"LineBuffers$Line", "upTicks", "(II)I"⟩, 4) := ⟨⟨by decide +kernel, by decide +kernel⟩, List.mem_of_getElem? (i := 25) (by decide +kernel), List.mem_of_getElem? (i := 552) (by decide +kernel), List.mem_of_getElem? (i := 553) (by decide +kernel)⟩
theorem lw_p14 : lw_okq (⟨"LineBuffers", "tryCapacity", "(III)I"⟩, 4) := ⟨⟨by decide +kernel, by decide +kernel⟩, List.mem_of_getElem? (i := 17) (by decide +kernel), List.mem_of_getElem? (i := 583) (by decide +kernel), List.mem_of_getElem? (i := 584) (by decide +kernel)⟩
theorem lw_p15 : lw_okq (⟨"LineBuffersModel", "refused", "(I)Z"⟩, 12) := ⟨⟨by decide +kernel, by decide +kernel⟩, List.mem_of_getElem? (i := 629) (by decide +kernel), List.mem_of_getElem? (i := 680) (by decide +kernel), List.mem_of_getElem? (i := 681) (by decide +kernel)⟩
def lw_privs_1 : List (MethodName × Nat) := [(⟨"LineBuffers$LineText", "readItem", "(LLineBuffers$Line;)V"⟩, 4), (⟨"LineBuffers$LineText", "byteAt", "(I)I"⟩, 4), (⟨"LineBuffers$LineText", "readMachine", "(LLineBuffers$Line;)V"⟩, 4), (⟨"LineBuffers$LineText", "readNumber", "(IIC)I"⟩, 4), (⟨"LineBuffers$LineText", "readMarks", "(LLineBuffers$Line;)V"⟩, 4), (⟨"java/lang/Throwable", "fillInStackTrace", "(I)Ljava/lang/Throwable;"⟩, 6), (⟨"LineBuffers", "needMachine", "(I)V"⟩, 4), (⟨"LineBuffers", "needMachines", "(I)V"⟩, 4), (⟨"LineBuffers$Line", "takeTurn", "(I)V"⟩, 4), (⟨"LineBuffers$Line", "chooseSpeed", "(I)V"⟩, 4), (⟨"LineBuffers$Line", "release", "(I)V"⟩, 4), (⟨"LineBuffers$Line", "takeBottle", "(I)V"⟩, 4), (⟨"LineBuffers$Line", "countFills", "()V"⟩, 4), (⟨"LineBuffers$Line", "upTicks", "(II)I"⟩, 4), (⟨"LineBuffers", "tryCapacity", "(III)I"⟩, 4), (⟨"LineBuffersModel", "refused", "(I)Z"⟩, 12)]
theorem lw_r1 : ∀ q ∈ lw_privs_1, lw_okq q := List.forall_mem_cons.mpr ⟨lw_p0, List.forall_mem_cons.mpr ⟨lw_p1, List.forall_mem_cons.mpr ⟨lw_p2, List.forall_mem_cons.mpr ⟨lw_p3, List.forall_mem_cons.mpr ⟨lw_p4, List.forall_mem_cons.mpr ⟨lw_p5, List.forall_mem_cons.mpr ⟨lw_p6, List.forall_mem_cons.mpr ⟨lw_p7, List.forall_mem_cons.mpr ⟨lw_p8, List.forall_mem_cons.mpr ⟨lw_p9, List.forall_mem_cons.mpr ⟨lw_p10, List.forall_mem_cons.mpr ⟨lw_p11, List.forall_mem_cons.mpr ⟨lw_p12, List.forall_mem_cons.mpr ⟨lw_p13, List.forall_mem_cons.mpr ⟨lw_p14, List.forall_mem_cons.mpr ⟨lw_p15, fun _ h => absurd h List.not_mem_nil⟩⟩⟩⟩⟩⟩⟩⟩⟩⟩⟩⟩⟩⟩⟩⟩
theorem lw_p16 : lw_okq (⟨"LineBuffersModel", "saves", "()V"⟩, 12) := ⟨⟨by decide +kernel, by decide +kernel⟩, List.mem_of_getElem? (i := 629) (by decide +kernel), List.mem_of_getElem? (i := 697) (by decide +kernel), List.mem_of_getElem? (i := 698) (by decide +kernel)⟩
theorem lw_p17 : lw_okq (⟨"LineBuffersModel", "adds", "(III)V"⟩, 12) := ⟨⟨by decide +kernel, by decide +kernel⟩, List.mem_of_getElem? (i := 629) (by decide +kernel), List.mem_of_getElem? (i := 701) (by decide +kernel), List.mem_of_getElem? (i := 702) (by decide +kernel)⟩
theorem lw_p18 : lw_okq (⟨"LineBuffersModel", "isMachine", "(I)Z"⟩, 12) := ⟨⟨by decide +kernel, by decide +kernel⟩, List.mem_of_getElem? (i := 629) (by decide +kernel), List.mem_of_getElem? (i := 712) (by decide +kernel), List.mem_of_getElem? (i := 713) (by decide +kernel)⟩
theorem lw_p19 : lw_okq (⟨"LineBuffersModel", "plans", "(III)V"⟩, 12) := ⟨⟨by decide +kernel, by decide +kernel⟩, List.mem_of_getElem? (i := 629) (by decide +kernel), List.mem_of_getElem? (i := 727) (by decide +kernel), List.mem_of_getElem? (i := 728) (by decide +kernel)⟩
theorem lw_p20 : lw_okq (⟨"LineBuffersModel", "draws", "()I"⟩, 12) := ⟨⟨by decide +kernel, by decide +kernel⟩, List.mem_of_getElem? (i := 629) (by decide +kernel), List.mem_of_getElem? (i := 736) (by decide +kernel), List.mem_of_getElem? (i := 737) (by decide +kernel)⟩
theorem lw_p21 : lw_okq (⟨"LineBuffersModel", "goes", "(I)I"⟩, 12) := ⟨⟨by decide +kernel, by decide +kernel⟩, List.mem_of_getElem? (i := 629) (by decide +kernel), List.mem_of_getElem? (i := 760) (by decide +kernel), List.mem_of_getElem? (i := 761) (by decide +kernel)⟩
theorem lw_p22 : lw_okq (⟨"LineBuffersModel", "made", "()I"⟩, 12) := ⟨⟨by decide +kernel, by decide +kernel⟩, List.mem_of_getElem? (i := 629) (by decide +kernel), List.mem_of_getElem? (i := 764) (by decide +kernel), List.mem_of_getElem? (i := 765) (by decide +kernel)⟩
theorem lw_p23 : lw_okq (⟨"LineBuffersModel", "laysDown", "(II)V"⟩, 12) := ⟨⟨by decide +kernel, by decide +kernel⟩, List.mem_of_getElem? (i := 629) (by decide +kernel), List.mem_of_getElem? (i := 768) (by decide +kernel), List.mem_of_getElem? (i := 769) (by decide +kernel)⟩
theorem lw_p24 : lw_okq (⟨"LineBuffersModel", "passes", "()V"⟩, 12) := ⟨⟨by decide +kernel, by decide +kernel⟩, List.mem_of_getElem? (i := 629) (by decide +kernel), List.mem_of_getElem? (i := 772) (by decide +kernel), List.mem_of_getElem? (i := 773) (by decide +kernel)⟩
theorem lw_p25 : lw_okq (⟨"LineBuffersModel", "turns", "(II)I"⟩, 12) := ⟨⟨by decide +kernel, by decide +kernel⟩, List.mem_of_getElem? (i := 629) (by decide +kernel), List.mem_of_getElem? (i := 776) (by decide +kernel), List.mem_of_getElem? (i := 777) (by decide +kernel)⟩
theorem lw_p26 : lw_okq (⟨"LineBuffersModel", "speeds", "(I)V"⟩, 12) := ⟨⟨by decide +kernel, by decide +kernel⟩, List.mem_of_getElem? (i := 629) (by decide +kernel), List.mem_of_getElem? (i := 780) (by decide +kernel), List.mem_of_getElem? (i := 781) (by decide +kernel)⟩
theorem lw_p27 : lw_okq (⟨"LineBuffersModel", "isDown", "(II)Z"⟩, 12) := ⟨⟨by decide +kernel, by decide +kernel⟩, List.mem_of_getElem? (i := 629) (by decide +kernel), List.mem_of_getElem? (i := 784) (by decide +kernel), List.mem_of_getElem? (i := 785) (by decide +kernel)⟩
theorem lw_p28 : lw_okq (⟨"LineBuffersModel", "leaves", "(II)V"⟩, 12) := ⟨⟨by decide +kernel, by decide +kernel⟩, List.mem_of_getElem? (i := 629) (by decide +kernel), List.mem_of_getElem? (i := 788) (by decide +kernel), List.mem_of_getElem? (i := 789) (by decide +kernel)⟩
theorem lw_p29 : lw_okq (⟨"LineBuffersModel", "cycle", "(I)I"⟩, 12) := ⟨⟨by decide +kernel, by decide +kernel⟩, List.mem_of_getElem? (i := 629) (by decide +kernel), List.mem_of_getElem? (i := 792) (by decide +kernel), List.mem_of_getElem? (i := 793) (by decide +kernel)⟩
theorem lw_p30 : lw_okq (⟨"LineBuffersModel", "takes", "(I)V"⟩, 12) := ⟨⟨by decide +kernel, by decide +kernel⟩, List.mem_of_getElem? (i := 629) (by decide +kernel), List.mem_of_getElem? (i := 796) (by decide +kernel), List.mem_of_getElem? (i := 797) (by decide +kernel)⟩
theorem lw_p31 : lw_okq (⟨"LineBuffersModel", "empties", "()V"⟩, 12) := ⟨⟨by decide +kernel, by decide +kernel⟩, List.mem_of_getElem? (i := 629) (by decide +kernel), List.mem_of_getElem? (i := 804) (by decide +kernel), List.mem_of_getElem? (i := 805) (by decide +kernel)⟩
def lw_privs_2 : List (MethodName × Nat) := [(⟨"LineBuffersModel", "saves", "()V"⟩, 12), (⟨"LineBuffersModel", "adds", "(III)V"⟩, 12), (⟨"LineBuffersModel", "isMachine", "(I)Z"⟩, 12), (⟨"LineBuffersModel", "plans", "(III)V"⟩, 12), (⟨"LineBuffersModel", "draws", "()I"⟩, 12), (⟨"LineBuffersModel", "goes", "(I)I"⟩, 12), (⟨"LineBuffersModel", "made", "()I"⟩, 12), (⟨"LineBuffersModel", "laysDown", "(II)V"⟩, 12), (⟨"LineBuffersModel", "passes", "()V"⟩, 12), (⟨"LineBuffersModel", "turns", "(II)I"⟩, 12), (⟨"LineBuffersModel", "speeds", "(I)V"⟩, 12), (⟨"LineBuffersModel", "isDown", "(II)Z"⟩, 12), (⟨"LineBuffersModel", "leaves", "(II)V"⟩, 12), (⟨"LineBuffersModel", "cycle", "(I)I"⟩, 12), (⟨"LineBuffersModel", "takes", "(I)V"⟩, 12), (⟨"LineBuffersModel", "empties", "()V"⟩, 12)]
theorem lw_r2 : ∀ q ∈ lw_privs_2, lw_okq q := List.forall_mem_cons.mpr ⟨lw_p16, List.forall_mem_cons.mpr ⟨lw_p17, List.forall_mem_cons.mpr ⟨lw_p18, List.forall_mem_cons.mpr ⟨lw_p19, List.forall_mem_cons.mpr ⟨lw_p20, List.forall_mem_cons.mpr ⟨lw_p21, List.forall_mem_cons.mpr ⟨lw_p22, List.forall_mem_cons.mpr ⟨lw_p23, List.forall_mem_cons.mpr ⟨lw_p24, List.forall_mem_cons.mpr ⟨lw_p25, List.forall_mem_cons.mpr ⟨lw_p26, List.forall_mem_cons.mpr ⟨lw_p27, List.forall_mem_cons.mpr ⟨lw_p28, List.forall_mem_cons.mpr ⟨lw_p29, List.forall_mem_cons.mpr ⟨lw_p30, List.forall_mem_cons.mpr ⟨lw_p31, fun _ h => absurd h List.not_mem_nil⟩⟩⟩⟩⟩⟩⟩⟩⟩⟩⟩⟩⟩⟩⟩⟩
theorem lw_p32 : lw_okq (⟨"LineBuffersModel", "tellMachine", "(II)I"⟩, 12) := ⟨⟨by decide +kernel, by decide +kernel⟩, List.mem_of_getElem? (i := 629) (by decide +kernel), List.mem_of_getElem? (i := 824) (by decide +kernel), List.mem_of_getElem? (i := 825) (by decide +kernel)⟩
theorem lw_p33 : lw_okq (⟨"LineBuffersModel", "bottles", "()I"⟩, 12) := ⟨⟨by decide +kernel, by decide +kernel⟩, List.mem_of_getElem? (i := 629) (by decide +kernel), List.mem_of_getElem? (i := 840) (by decide +kernel), List.mem_of_getElem? (i := 841) (by decide +kernel)⟩
theorem lw_p34 : lw_okq (⟨"LineBuffersModel", "refusedLimit", "(I)Z"⟩, 12) := ⟨⟨by decide +kernel, by decide +kernel⟩, List.mem_of_getElem? (i := 629) (by decide +kernel), List.mem_of_getElem? (i := 848) (by decide +kernel), List.mem_of_getElem? (i := 849) (by decide +kernel)⟩
theorem lw_p35 : lw_okq (⟨"LineBuffersModel", "slowestOf", "(I)I"⟩, 12) := ⟨⟨by decide +kernel, by decide +kernel⟩, List.mem_of_getElem? (i := 629) (by decide +kernel), List.mem_of_getElem? (i := 852) (by decide +kernel), List.mem_of_getElem? (i := 853) (by decide +kernel)⟩
theorem lw_p36 : lw_okq (⟨"LineBuffersModel", "most", "(II)I"⟩, 12) := ⟨⟨by decide +kernel, by decide +kernel⟩, List.mem_of_getElem? (i := 629) (by decide +kernel), List.mem_of_getElem? (i := 856) (by decide +kernel), List.mem_of_getElem? (i := 857) (by decide +kernel)⟩
theorem lw_p37 : lw_okq (⟨"LineBuffersModel", "idle", "(I)I"⟩, 12) := ⟨⟨by decide +kernel, by decide +kernel⟩, List.mem_of_getElem? (i := 629) (by decide +kernel), List.mem_of_getElem? (i := 868) (by decide +kernel), List.mem_of_getElem? (i := 869) (by decide +kernel)⟩
theorem lw_p38 : lw_okq (⟨"LineBuffersModel", "madeWith", "(III)I"⟩, 12) := ⟨⟨by decide +kernel, by decide +kernel⟩, List.mem_of_getElem? (i := 629) (by decide +kernel), List.mem_of_getElem? (i := 879) (by decide +kernel), List.mem_of_getElem? (i := 880) (by decide +kernel)⟩
theorem lw_p39 : lw_okq (⟨"LineBuffersModel", "keeps", "()V"⟩, 12) := ⟨⟨by decide +kernel, by decide +kernel⟩, List.mem_of_getElem? (i := 629) (by decide +kernel), List.mem_of_getElem? (i := 883) (by decide +kernel), List.mem_of_getElem? (i := 884) (by decide +kernel)⟩
theorem lw_p40 : lw_okq (⟨"LineBuffersModel", "takesBack", "()V"⟩, 12) := ⟨⟨by decide +kernel, by decide +kernel⟩, List.mem_of_getElem? (i := 629) (by decide +kernel), List.mem_of_getElem? (i := 887) (by decide +kernel), List.mem_of_getElem? (i := 888) (by decide +kernel)⟩
theorem lw_p41 : lw_okq (⟨"LineBuffersModel", "readsMachine", "()Z"⟩, 12) := ⟨⟨by decide +kernel, by decide +kernel⟩, List.mem_of_getElem? (i := 629) (by decide +kernel), List.mem_of_getElem? (i := 911) (by decide +kernel), List.mem_of_getElem? (i := 912) (by decide +kernel)⟩
theorem lw_p42 : lw_okq (⟨"LineBuffersModel", "number", "(II)Z"⟩, 12) := ⟨⟨by decide +kernel, by decide +kernel⟩, List.mem_of_getElem? (i := 629) (by decide +kernel), List.mem_of_getElem? (i := 915) (by decide +kernel), List.mem_of_getElem? (i := 916) (by decide +kernel)⟩
theorem lw_p43 : lw_okq (⟨"LineBuffersModel", "isAt", "(II)Z"⟩, 12) := ⟨⟨by decide +kernel, by decide +kernel⟩, List.mem_of_getElem? (i := 629) (by decide +kernel), List.mem_of_getElem? (i := 919) (by decide +kernel), List.mem_of_getElem? (i := 920) (by decide +kernel)⟩
theorem lw_p44 : lw_okq (⟨"LineBuffersModel", "sign", "(I)Z"⟩, 12) := ⟨⟨by decide +kernel, by decide +kernel⟩, List.mem_of_getElem? (i := 629) (by decide +kernel), List.mem_of_getElem? (i := 923) (by decide +kernel), List.mem_of_getElem? (i := 924) (by decide +kernel)⟩
theorem lw_p45 : lw_okq (⟨"LineBuffersModel", "readsMarks", "()Z"⟩, 12) := ⟨⟨by decide +kernel, by decide +kernel⟩, List.mem_of_getElem? (i := 629) (by decide +kernel), List.mem_of_getElem? (i := 927) (by decide +kernel), List.mem_of_getElem? (i := 928) (by decide +kernel)⟩
theorem lw_p46 : lw_okq (⟨"LineBuffersModel", "mix", "(I)V"⟩, 12) := ⟨⟨by decide +kernel, by decide +kernel⟩, List.mem_of_getElem? (i := 629) (by decide +kernel), List.mem_of_getElem? (i := 936) (by decide +kernel), List.mem_of_getElem? (i := 937) (by decide +kernel)⟩
def lw_privs_3 : List (MethodName × Nat) := [(⟨"LineBuffersModel", "tellMachine", "(II)I"⟩, 12), (⟨"LineBuffersModel", "bottles", "()I"⟩, 12), (⟨"LineBuffersModel", "refusedLimit", "(I)Z"⟩, 12), (⟨"LineBuffersModel", "slowestOf", "(I)I"⟩, 12), (⟨"LineBuffersModel", "most", "(II)I"⟩, 12), (⟨"LineBuffersModel", "idle", "(I)I"⟩, 12), (⟨"LineBuffersModel", "madeWith", "(III)I"⟩, 12), (⟨"LineBuffersModel", "keeps", "()V"⟩, 12), (⟨"LineBuffersModel", "takesBack", "()V"⟩, 12), (⟨"LineBuffersModel", "readsMachine", "()Z"⟩, 12), (⟨"LineBuffersModel", "number", "(II)Z"⟩, 12), (⟨"LineBuffersModel", "isAt", "(II)Z"⟩, 12), (⟨"LineBuffersModel", "sign", "(I)Z"⟩, 12), (⟨"LineBuffersModel", "readsMarks", "()Z"⟩, 12), (⟨"LineBuffersModel", "mix", "(I)V"⟩, 12)]
theorem lw_r3 : ∀ q ∈ lw_privs_3, lw_okq q := List.forall_mem_cons.mpr ⟨lw_p32, List.forall_mem_cons.mpr ⟨lw_p33, List.forall_mem_cons.mpr ⟨lw_p34, List.forall_mem_cons.mpr ⟨lw_p35, List.forall_mem_cons.mpr ⟨lw_p36, List.forall_mem_cons.mpr ⟨lw_p37, List.forall_mem_cons.mpr ⟨lw_p38, List.forall_mem_cons.mpr ⟨lw_p39, List.forall_mem_cons.mpr ⟨lw_p40, List.forall_mem_cons.mpr ⟨lw_p41, List.forall_mem_cons.mpr ⟨lw_p42, List.forall_mem_cons.mpr ⟨lw_p43, List.forall_mem_cons.mpr ⟨lw_p44, List.forall_mem_cons.mpr ⟨lw_p45, List.forall_mem_cons.mpr ⟨lw_p46, fun _ h => absurd h List.not_mem_nil⟩⟩⟩⟩⟩⟩⟩⟩⟩⟩⟩⟩⟩⟩⟩
def lw_privs : List (MethodName × Nat) := lw_privs_1 ++ (lw_privs_2 ++ (lw_privs_3))
def lw_tbl : List Cond := k2_sels lw_privs ++ tables_1
theorem lw_privs_ok : ∀ q ∈ lw_privs, lw_okq q := by
  show ∀ q ∈ lw_privs_1 ++ (lw_privs_2 ++ (lw_privs_3)), lw_okq q
  exact List.forall_mem_append.mpr ⟨lw_r1, List.forall_mem_append.mpr ⟨lw_r2, lw_r3⟩⟩
/-- the streams that the claim lets the run draw from -/
abbrev lw_cs : List Choice := [Jvm.Choice.named "NaN.bits"]
theorem lw_bits : nanBits ∈ lw_cs := by first | decide | exact List.mem_cons_self | simp [lw_cs, nanBits]
end
section
/-- the tables' word of arrays over arrays (the printed names use it, the kit of worlds doesn't hold it) -/
def va_AOA (ty : FieldType) (U : State) : Prop := (Cond.arrayOver (.array ty)).before #[] U = true
theorem va_AOA.of {ty : FieldType} {A : Array Value} {U : State} (h : (Cond.arrayOver (.array ty)).before A U = true) : va_AOA ty U := h
theorem va_AOA.use {ty : FieldType} {A : Array Value} {U : State} (h : va_AOA ty U) : (Cond.arrayOver (.array ty)).before A U = true := h
end
section
/-! ===== BEGIN words of one list among another's, by their places ===== -/
theorem goodIn_r {big : List Cond} (ws : List Cond) (ps : List Nat) (hp : ws = ps.filterMap (fun i => big[i]?)) (h : ws.all goodWord = true) : GoodIn big ws := by
  intro w hw
  have h1 := List.all_eq_true.mp h w hw
  rw [hp] at hw
  obtain ⟨i, -, hi⟩ := List.mem_filterMap.mp hw
  have hm : w ∈ big := by first | exact List.mem_of_getElem? hi | exact List.getElem?_mem hi
  exact ⟨hm, good_of_word h1⟩
theorem goodIn_app {big a b : List Cond} (ha : GoodIn big a) (hb : GoodIn big b) : GoodIn big (a ++ b) := fun w h => (List.mem_append.mp h).elim (ha w) (hb w)
theorem goodIn_ca {big a b : List Cond} {c : Cond} (ha : GoodIn big (c :: a)) (hb : GoodIn big b) : GoodIn big (c :: (a ++ b)) := fun w h => (List.mem_cons.mp h).elim (fun e => ha w (List.mem_cons.mpr (Or.inl e))) (fun h => (List.mem_append.mp h).elim (fun h => ha w (List.mem_cons.mpr (Or.inr h))) (hb w))
theorem goodIn_sub {big ws : List Cond} (hm : ∀ w ∈ ws, w ∈ big) (h : ws.all goodWord = true) : GoodIn big ws := fun w hw => ⟨hm w hw, good_of_word (List.all_eq_true.mp h w hw)⟩
/-! ===== END ===== -/

/-! ===== BEGIN new T[n][m]: the outer array a place, the inner ones among the pooled ===== -/
/-- f, but v at every address of l -/
def vr_up {α : Type} (f : Nat → α) (l : List Nat) (v : α) : Nat → α := fun a => if a ∈ l then v else f a
theorem vr_up_in {α : Type} {f : Nat → α} {l : List Nat} {v : α} {a : Nat} (h : a ∈ l) : vr_up f l v a = v := if_pos h
theorem vr_up_ne {α : Type} {f : Nat → α} {l : List Nat} {v : α} {a : Nat} (h : a ∉ l) : vr_up f l v a = f a := if_neg h
theorem vr_rows {L l : List Nat} {f : Nat → va_E} {e : va_E} (h : ∀ a, a ∈ l → a ∉ L) : va_pl L f ++ l.map (fun a => (a, e)) = va_pl (L ++ l) (vr_up f l e) := by
  unfold va_pl
  rw [List.map_append]
  congr 1
  · apply List.map_congr_left
    intro a ha
    rw [vr_up_ne (fun q => h a q ha)]
  · apply List.map_congr_left
    intro a ha
    rw [vr_up_in ha]
theorem vr_lay {X rows : va_W} {x : Nat × va_E} {pl : va_W} {D : va_G} {cl : List vw_C} {H : Heap} (hP : va_P D cl (((X ++ pl) ++ [x]) ++ rows) H) : va_P D cl ((X ++ [x]) ++ (pl ++ rows)) H := by
  rw [List.append_assoc (X ++ pl)] at hP
  have h := va_P.swap hP
  rw [← List.append_assoc X] at h
  have h2 := va_P.swap h
  rw [List.append_assoc (X ++ [x])] at h2
  exact h2
theorem vr_layD {X rows : va_W} {x : Nat × va_E} {pl : va_W} {A : Nat → Prop} (hD : va_D A (((X ++ pl) ++ [x]) ++ rows)) : va_D A ((X ++ [x]) ++ (pl ++ rows)) := by
  rw [List.append_assoc (X ++ pl)] at hD
  have h := va_D.swap hD
  rw [← List.append_assoc X] at h
  have h2 := va_D.swap h
  rw [List.append_assoc (X ++ [x])] at h2
  exact h2
theorem vr_outer (c : ClassId) (N h0 : Nat) : ∀ i : Nat, Jvm.Free.Multi.outerC c N h0 i = arrV c N (fun j => va_rf (if j < i then some (h0 + 1 + j) else none))
  | 0 => by
    show ({ cls := c, slots := Array.replicate N .null, vm := .none } : Cell) = _
    rw [arrV_new]
    refine congrArg (arrV c N) (funext fun j => ?_)
    simp [va_rf]
  | i + 1 => by
    show (Jvm.Free.Multi.outerC c N h0 i).setSlot i (.ref (h0 + 1 + i)) = _
    rw [vr_outer c N h0 i, arrV_store]
    refine congrArg (arrV c N) (funext fun j => ?_)
    by_cases e : j = i
    · subst e
      simp [updV, va_rf]
    · by_cases h : j < i
      · simp [updV, e, h, Nat.lt_succ_of_lt h]
      · simp [updV, e, h, show ¬ j < i + 1 by omega]
section VGM
variable {p : Program} {l : Launch} {e : Env} {R : Room} {s : State} {m : MethodId} {args : Array Value} {below : List Frame} {meth : Method} {c : Code} {H : Heap} {locs : List Loc} {cells slots : Nat} {Q : State → Prop}
variable {cc : ByteArray} {pc : Nat} {ls : Array Slot} {rest : List Value} {D : va_G} {cl : List vw_C} {A : Nat → Prop} {a : Nat} {tys : List (ClassId × FieldType)} {ws : va_W} {H0 : Heap}
theorem va_mna {X : va_W} {L : List Nat} {f : Nat → va_E} {cc : ByteArray} (hexec : p.tables.exec = Jvm.exec) (hb : c.code = cc) {own : String} {index : Nat} {ty : FieldType} {cy : ClassId} (hown : s.vm.findClass own = some m.cls) (hclink : (Cond.classLink own index ("[" ++ (FieldType.array ty).toString)).before args s = true) (hover : va_AOA ty s) (harr : (Cond.arrayClass ty).before args s = true) (hcy : s.vm.findClass (FieldType.array ty).toString = some cy)
    (hK : va_K D cl tys s) (hP : va_P D cl (X ++ va_pl L f) H) (hD : va_D A (X ++ va_pl L f)) (hS : va_S A H0 H locs) (hA : ∀ q, H0.size ≤ q → A q) {n k : Int32} {N' K' : Nat} {z : vp_A} (hn : ¬ n < 0) (hk : ¬ k < 0) (hN : n.toNatClampNeg = N') (hM : k.toNatClampNeg = K')
    (hb1 : N' * 4 ≤ 536870912) (hb2 : K' * componentBytes ty ≤ 536870912) (hb3 : K' ≤ 536870912) (hdf : fits ty (defaultValue ty) = true) (hdd : (defaultValue ty).isDefault = true) (hcells : cells + (1 + N') ≤ R.cells) (hslots : slots + (N' + N' * K') ≤ R.slots) (hz : ∀ c : ClassId, Jvm.Free.Multi.innerC c K' (defaultValue ty) = vp_cell c z) (hdg : decode cc pc = .ok (.multianewarray index 2, 4))
    (kk : ∀ (q : Nat) (r : Nat → Nat) (cA : ClassId) (H1 : Heap), (∀ i j : Nat, i < N' → j < N' → r i = r j → i = j) → (∀ i : Nat, i < N' → r i ∉ L) → va_K D cl (tys ++ [(cA, .array ty)]) s →
      va_P D cl ((X ++ [(q, .inl (cA, N', .inr (.inr (.inr (.inr (fun i => if i < N' then some (r i) else none))))))]) ++ va_pl (L ++ (List.range N').map r) (vr_up f ((List.range N').map r) (.inl (cy, z)))) H1 → va_D A ((X ++ [(q, .inl (cA, N', .inr (.inr (.inr (.inr (fun i => if i < N' then some (r i) else none))))))]) ++ va_pl (L ++ (List.range N').map r) (vr_up f ((List.range N').map r) (.inl (cy, z)))) → va_S A H0 H1 locs →
      W p l e R s m args below meth c H1 locs (cells + 1 + N') (slots + N' + N' * K') Q (F0 m (pc + 4) ls (.ref q :: rest))) : W p l e R s m args below meth c H locs cells slots Q (F0 m pc ls (.int k :: .int n :: rest)) := by
  subst hN
  subst hM
  intro T hT Xs
  obtain ⟨vm₁, cA, comp, -, fA, fC, hO, -, X', step⟩ := Xs.multianewarray2F hexec hown hclink (va_AOA.use hover) harr (g := F0 m pc ls (.int k :: .int n :: rest)) rfl (by rw [hb]; exact hdg) rfl hn hk hb1 hb2 hb3 hdf hdd hcells hslots
  have ec : some cy = some comp := hcy.symm.trans fC
  cases ec
  generalize hF : Jvm.Free.Multi.fill (T.setVm vm₁) cA cy n.toNatClampNeg k.toNatClampNeg (defaultValue ty) n.toNatClampNeg = F at X' step
  have hTh : (T.setVm vm₁).heap = H := hT
  obtain ⟨f1, f2, -, -⟩ := Jvm.Free.Multi.fill_facts (T.setVm vm₁) cA cy n.toNatClampNeg k.toNatClampNeg (defaultValue ty) n.toNatClampNeg
  rw [hF, hTh] at f1 f2
  have hold : ∀ x : Nat, x < H.size → F.heap[x]? = H[x]? := fun x hx => by
    have := Jvm.Free.Multi.fill_old (T.setVm vm₁) cA cy n.toNatClampNeg k.toNatClampNeg (defaultValue ty) (a := x) (by rw [hTh]; exact hx) n.toNatClampNeg
    rw [hF, hTh] at this
    exact this
  have hrow : ∀ j : Nat, j < n.toNatClampNeg → F.heap[H.size + 1 + j]? = some (vp_cell cy z) := fun j hj => by
    have := Jvm.Free.Multi.fill_inner (T.setVm vm₁) cA cy n.toNatClampNeg k.toNatClampNeg (defaultValue ty) n.toNatClampNeg j hj
    rw [hF, hTh, hz] at this
    exact this
  have hout : Jvm.Free.Multi.outerC cA n.toNatClampNeg H.size n.toNatClampNeg = vp_cell cA (n.toNatClampNeg, .inr (.inr (.inr (.inr (fun i => if i < n.toNatClampNeg then some (H.size + 1 + i) else none))))) := by
    rw [vp_cell_q]
    exact vr_outer cA n.toNatClampNeg H.size n.toNatClampNeg
  rw [hout] at f2
  have hlt : ∀ a, a ∈ L → a < H.size := fun a ha => by
    obtain ⟨k9, hk9⟩ := va_pl_get (X := X) (f := f) ha
    exact (hP k9 _ hk9).lt
  have hnl : ∀ i : Nat, i < n.toNatClampNeg → H.size + 1 + i ∉ L := fun i _ h => by
    have := hlt _ h
    omega
  have hnm : ∀ a, a ∈ (List.range n.toNatClampNeg).map (fun i => H.size + 1 + i) → a ∉ L := fun a ha h => by
    obtain ⟨i, -, rfl⟩ := List.mem_map.mp ha
    have := hlt _ h
    omega
  have hP0 : va_P D cl (X ++ va_pl L f) F.heap := hP.kept (fun k9 x hx => hold x.1 ((hP k9 x hx).lt))
  have hP1 : va_P D cl ((X ++ va_pl L f) ++ [(H.size, .inl (cA, n.toNatClampNeg, .inr (.inr (.inr (.inr (fun i => if i < n.toNatClampNeg then some (H.size + 1 + i) else none))))))]) F.heap := hP0.app (fun k9 x hx => by
    have h0 : k9 < 1 := (List.getElem?_eq_some_iff.mp hx).1
    rw [show k9 = 0 by omega] at hx
    cases hx
    exact f2)
  have hP2 : va_P D cl (((X ++ va_pl L f) ++ [(H.size, .inl (cA, n.toNatClampNeg, .inr (.inr (.inr (.inr (fun i => if i < n.toNatClampNeg then some (H.size + 1 + i) else none))))))]) ++ ((List.range n.toNatClampNeg).map (fun i => H.size + 1 + i)).map (fun a => (a, .inl (cy, z)))) F.heap := hP1.app (fun k9 x hx => by
    obtain ⟨a, ha, rfl⟩ := List.mem_map.mp (List.mem_of_getElem? hx)
    obtain ⟨i, hi, rfl⟩ := List.mem_map.mp ha
    exact hrow i (List.mem_range.mp hi))
  have hD2 : va_D A (((X ++ va_pl L f) ++ [(H.size, .inl (cA, n.toNatClampNeg, .inr (.inr (.inr (.inr (fun i => if i < n.toNatClampNeg then some (H.size + 1 + i) else none))))))]) ++ ((List.range n.toNatClampNeg).map (fun i => H.size + 1 + i)).map (fun a => (a, .inl (cy, z)))) := by
    have hD1 := hD.push (e := .inl (cA, n.toNatClampNeg, .inr (.inr (.inr (.inr (fun i => if i < n.toNatClampNeg then some (H.size + 1 + i) else none)))))) hP rfl (hA _ hS.1)
    generalize hW1 : (X ++ va_pl L f) ++ [(H.size, .inl (cA, n.toNatClampNeg, .inr (.inr (.inr (.inr (fun i => if i < n.toNatClampNeg then some (H.size + 1 + i) else none))))))] = W1 at hD1 hP1 ⊢
    have hle : ∀ (k9 : Nat) (x : Nat × va_E), W1[k9]? = some x → x.1 ≤ H.size := fun k9 x hx => by
      rw [← hW1] at hx
      by_cases hl : k9 < (X ++ va_pl L f).length
      · rw [List.getElem?_append_left hl] at hx
        exact Nat.le_of_lt ((hP k9 x hx).lt)
      · rw [List.getElem?_append_right (by omega)] at hx
        have h0 : k9 - (X ++ va_pl L f).length < 1 := (List.getElem?_eq_some_iff.mp hx).1
        rw [show k9 - (X ++ va_pl L f).length = 0 by omega] at hx
        cases hx
        exact Nat.le_refl _
    have hr : ∀ (k9 : Nat) (x : Nat × va_E), (((List.range n.toNatClampNeg).map (fun i => H.size + 1 + i)).map (fun a => ((a, .inl (cy, z)) : Nat × va_E)))[k9]? = some x → x.1 = H.size + 1 + k9 := fun k9 x hx => by
      rw [List.getElem?_map, List.getElem?_map] at hx
      by_cases h9 : k9 < n.toNatClampNeg
      · rw [List.getElem?_range h9] at hx
        cases hx
        rfl
      · have hn0 : (List.range n.toNatClampNeg)[k9]? = none := List.getElem?_eq_none (by rw [List.length_range]; omega)
        rw [hn0] at hx
        cases hx
    refine ⟨fun i j x y hi hj hxy => ?_, fun k9 x hx => ?_⟩
    · by_cases h1 : i < W1.length <;> by_cases h2 : j < W1.length
      · rw [List.getElem?_append_left h1] at hi
        rw [List.getElem?_append_left h2] at hj
        exact hD1.1 i j x y hi hj hxy
      · rw [List.getElem?_append_left h1] at hi
        rw [List.getElem?_append_right (by omega)] at hj
        have := hle _ _ hi
        have := hr _ _ hj
        omega
      · rw [List.getElem?_append_right (by omega)] at hi
        rw [List.getElem?_append_left h2] at hj
        have := hle _ _ hj
        have := hr _ _ hi
        omega
      · rw [List.getElem?_append_right (by omega)] at hi hj
        have := hr _ _ hi
        have := hr _ _ hj
        omega
    · by_cases h1 : k9 < W1.length
      · rw [List.getElem?_append_left h1] at hx
        exact hD1.2 k9 x hx
      · rw [List.getElem?_append_right (by omega)] at hx
        have := hr _ _ hx
        exact hA _ (by have := hS.1; omega)
  have hAr : ArrOfT s cA (.array ty) := fun N9 z9 => by
    obtain ⟨-, k9, hk9, cm9, hkk9⟩ := (hO 0 0 0).1
    exact ⟨(fun q hq => by cases hq), k9, hk9, cm9, hkk9⟩
  have hK2 : va_K D cl (tys ++ [(cA, .array ty)]) s := ⟨hK.1, fun k9 x hx => by
    by_cases hl : k9 < tys.length
    · rw [List.getElem?_append_left hl] at hx
      exact hK.2 k9 x hx
    · rw [List.getElem?_append_right (by omega)] at hx
      have h0 : k9 - tys.length < 1 := (List.getElem?_eq_some_iff.mp hx).1
      rw [show k9 - tys.length = 0 by omega] at hx
      cases hx
      exact ⟨hAr, fA⟩⟩
  obtain ⟨t, a1, b1⟩ := kk H.size (fun i => H.size + 1 + i) cA F.heap (fun i j _ _ h => by have h9 : H.size + 1 + i = H.size + 1 + j := h; omega) hnl hK2 (by rw [← vr_rows hnm]; exact vr_lay hP2) (by rw [← vr_rows hnm]; exact vr_layD hD2) ⟨by rw [f1]; have := hS.1; omega, fun x h1 h2 => (hold x (Nat.lt_of_lt_of_le h1 hS.1)).trans (hS.2.1 x h1 h2), hS.2.2⟩ F rfl X'
  refine ⟨t, step t ?_, b1⟩
  have e : T.heap.size = H.size := by rw [hT]
  rw [e]
  exact a1
end VGM
/-! ===== END ===== -/

/-! ===== BEGIN exceptions that leave a method, and their catching by the caller (launches without stack traces) ===== -/
section VXA
/-! The laws vx_back, vx_callV, vx_callS, vx_callSW, vx_throw0, vx_throwS follow proofs of the library, with one case more: JvmDerived/Free/Laws.lean (Back.of_free), Shelf42/LK1.lean (callV, callS), Shelf/KitTraced.lean (throwNew0V, throwNewS). -/
/-- where a method has thrown q: the class by its name, the cell, what was written, the world -/
def vx_T (XC : String → State → State → Prop) (st : State) (q : Addr) (t : State) (mc ms : Nat) (free : Addr → Prop) : Prop :=
  ∃ (E : String) (ce : Cell) (L : List Loc), XC E st t ∧ t.heap[q]? = some ce ∧ ce.vm = .none ∧ st.vm.findClass E = some ce.cls ∧ st.WarmedH t.vm ∧ st.sameButNew ({ t with vm := st.vm } : State) L mc ms ∧ ∀ z ∈ L, free z.base
def vx_Q (Qc : Array Value → State → Outcome → State → Prop) (XC : String → State → State → Prop) (mc ms : Nat) (free : Addr → Prop) : Array Value → State → Outcome → State → Prop := fun a st o t =>
  (Qc a st o t ∧ ∃ L, FrameEnd st o t L mc ms ∧ ∀ q ∈ L, free q.base) ∨ ∃ q, o = .threw q ∧ vx_T XC st q t mc ms free
/-- a callee that returns or throws -/
def vx_Met (l : Launch) (y : MethodName) (ws : List Cond) (rm : Room) (Pc : Array Value → State → Prop) (Qc : Array Value → State → Outcome → State → Prop) (XC : String → State → State → Prop) (mc ms : Nat) (free : Addr → Prop) : Prop :=
  MetFree l y (headSpec ws rm) Pc (fun _ _ _ _ _ => True) (vx_Q Qc XC mc ms free)
def vx_Post (XC : String → State → State → Prop) (mc ms : Nat) (free : Addr → Prop) : Pt → Array Value → Addr → Pt → Prop := fun A a q B =>
  ∃ (g : JFrame) (mk : MethodId) (t : State) (L : List Loc) (E : String) (ce : Cell), B.U.heap = t.heap ∧ B.U.vm = t.vm ∧ XC E (A.U.calling g mk a) t ∧ t.heap[q]? = some ce ∧ ce.vm = .none ∧ A.U.vm.findClass E = some ce.cls ∧ B.locs = A.locs ++ L ∧ (∀ z ∈ L, free z.base) ∧ B.cells = A.cells + mc ∧ B.slots = A.slots + ms
def vx_Back (l : Launch) (R : Room) (p : Program) (e : Env) (below : List Frame) (s : State) (sargs : Array Value) (y : MethodName) (len W9 : Nat)
    (Pre : Pt → Array Value → Prop) (Post : Pt → Array Value → Option Value → Pt → Prop) (PostX : Pt → Array Value → Addr → Pt → Prop) : Prop :=
  ∀ (m : MethodId) (meth : Method) (c : Code) (A : Pt) (g : JFrame) (ig : Instr) (mk : MethodId) (a : Array Value),
    Stand p l e R s m sargs below meth c A.U A.locs A.cells A.slots → g.method = m → g.locals.size = c.maxLocals → decode c.code g.pc = .ok (ig, len) →
    2 * g.monitorRoom + (g.stack.map fun v => v.category).sum ≤ W9 → A.U.methodNamed? y = some mk → Pre A a →
    (∃ (v : Option Value) (B : Pt), Stand p l e R s m sargs below meth c B.U B.locs B.cells B.slots ∧ Post A a v B ∧
      Steps p.tables e below (doInvoke e (A.U.setTop g) [] mk a).1 (B.U.setTop { g with pc := g.pc + len, stack := v.toList ++ g.stack })) ∨
    (∃ (q : Addr) (B : Pt), Stand p l e R s m sargs below meth c B.U B.locs B.cells B.slots ∧ PostX A a q B ∧
      Steps p.tables e below (doInvoke e (A.U.setTop g) [] mk a).1 ((B.U.setTop g).pushFrame (.throwing q)))
section Payer
variable {l : Launch} {R : Room} {p : Program} {e : Env} {below : List Frame} {s : State} {sargs : Array Value} {y : MethodName} {len W9 : Nat}
theorem vx_back {ws : List Cond} {rm : Room} {Pc : Array Value → State → Prop} {Qc : Array Value → State → Outcome → State → Prop} {XC : String → State → State → Prop} {mc ms : Nat} {free : Addr → Prop} {bytes : ByteArray} {maxL : Nat} {ret : Option FieldType}
    (hM : vx_Met l y ws rm Pc Qc XC mc ms free) (hblind : FrameBlind Pc) (hrc : rm.cells = mc) (hrs : rm.slots = ms)
    (hframes : rm.frames + 1 ≤ R.frames) (hlocals : W9 + (maxL + 11) + rm.locals ≤ R.locals)
    (hws : ∀ w ∈ ws, ∀ a' U, s.WarmedH U.vm → w.before a' U = true) (hcode : Cond.code y bytes maxL ret ∈ ws) (hinit : ∀ a' U, s.WarmedH U.vm → (Cond.initialized y.cls).before a' U = true) :
    vx_Back l R p e below s sargs y len W9 (PreOf R mc ms Pc) (PostOf Qc mc ms free) (vx_Post XC mc ms free) := by
  intro m meth c A g ig mk a X hg hsize hdg hW hn hp
  have h1 : (headSpec ws rm).pre.before a A.U = true := atoms_intro fun w hw => hws w hw _ _ X.warmed
  have h2 : (Cond.code y bytes maxL ret).before a A.U = true := hws _ hcode _ _ X.warmed
  have h3 : (Cond.initialized y.cls).before a A.U = true := hinit _ _ X.warmed
  have h4 : A.cells + (headSpec ws rm).room.cells ≤ R.cells := by rw [show (headSpec ws rm).room.cells = mc from hrc]; exact hp.1
  have h5 : A.slots + (headSpec ws rm).room.slots ≤ R.slots := by rw [show (headSpec ws rm).room.slots = ms from hrs]; exact hp.2.1
  have hPc : Pc a (A.U.calling g mk a) := hblind _ _ _ _ hp.2.2
  obtain ⟨U, Ls, c0, s0⟩ := A
  dsimp only [Pt.U, Pt.locs, Pt.cells, Pt.slots] at h1 h2 h3 h4 h5 X hn hPc ⊢
  obtain ⟨methY, cY, hmY, hcY, -, hlY, -, -, -, -⟩ := Cond.code_spec hn h2
  obtain ⟨kY, hkY, -⟩ := className_of_methodNamed hn
  have hinitY : kY.init = .initialized := Cond.initialized_spec (findClass_of_methodNamed hn) hkY h3
  have h : At U g.method c below := by rw [hg]; exact X.here
  have hlocals9 : W9 + (maxL + 11) + (headSpec ws rm).room.locals ≤ R.locals := hlocals
  have happ : (headSpec ws rm).appliesLoose y e.platform (U.calling g mk a) = true :=
    Spec.appliesLoose_calling (g := g) h hdg hn hkY hinitY
      (X.room_calling (g := g) (R' := (headSpec ws rm).room) hsize hmY hcY hframes (by rw [hlY]; omega) h4 h5) h1
  obtain ⟨mid, hmid⟩ := h.above
  have hfr : (U.setTop g).frames = (.java g :: mid) ++ below := by rw [State.frames_setTop' g h.top, hmid]; rfl
  obtain ⟨o, s₂, hsteps, -, hend, hq⟩ := Steps.callFree hM p X.admits X.cas X.clock (acts := []) hfr happ hPc trivial
  have hq' : vx_Q Qc XC mc ms free a (U.calling g mk a) o s₂ := hq
  rw [State.frames_setTop' g h.top] at hend
  obtain ⟨g₀, hg0⟩ := Option.isSome_iff_exists.mp h.top
  obtain ⟨r, hr⟩ := State.topJava?_eq_some.mp hg0
  have hr' : (({ U with heap := s₂.heap, slotsUsed := s₂.slotsUsed } : State).setVm s₂.vm).frames = .java g₀ :: r := hr
  rcases hq' with ⟨hqc, L, hfe, hL⟩ | ⟨q, rfl, E, ce, L, hx, hce, hcv, hcl, hW₂, hsm, hL⟩
  · obtain ⟨⟨v, rfl⟩, hW₂, e2, q2, q3, q4, q5, q6⟩ := id hfe
    have e3 : s₂ = ({ (U.calling g mk a).setFrames s₂.frames with heap := s₂.heap, slotsUsed := s₂.slotsUsed } : State).setVm s₂.vm := by
      have : s₂ = ({ s₂ with vm := (U.calling g mk a).vm } : State).setVm s₂.vm := rfl
      rw [e2] at this
      exact this
    obtain ⟨c₂, i₂, len₂, hc₂, hd₂, hf₂⟩ := hend
    have hW' : U.WarmedH s₂.vm := hW₂
    have hcc : c₂ = c := by
      have h1 : s₂.code? g.method = U.code? g.method := by
        rw [State.code?_eq, State.code?_eq, hW'.alike.method?]
      exact Option.some.inj (hc₂.symm.trans (h1.trans h.code))
    subst hcc
    have hlen : len₂ = len := by rw [hdg] at hd₂; cases hd₂; rfl
    subst hlen
    have hs₂ : s₂ = (({ U with heap := s₂.heap, slotsUsed := s₂.slotsUsed } : State).setVm s₂.vm).setTop { g with pc := g.pc + len₂, stack := v.toList ++ g.stack } := by
      refine e3.trans ?_
      rw [hf₂, State.calling_eq h.top, State.setFrames_setFrames, State.setTop_of_frames _ hr', hr]
      rfl
    have hsame : U.sameButNew ({ U with heap := s₂.heap, slotsUsed := s₂.slotsUsed } : State) L mc ms := by
      refine ⟨?_, q2, q3, q4, q5, q6⟩
      obtain ⟨t, ht, -⟩ := State.frames_cons hr
      show ({ U with heap := s₂.heap, slotsUsed := s₂.slotsUsed } : State) = { U.setFrames U.frames with heap := s₂.heap, slotsUsed := s₂.slotsUsed }
      rw [State.setFrames_self ht]
    subst hg
    refine Or.inl ⟨v, ⟨(({ U with heap := s₂.heap, slotsUsed := s₂.slotsUsed } : State).setVm s₂.vm), Ls ++ L, c0 + mc, s0 + ms⟩,
      ⟨X.admits, X.cas, X.clock, X.frames, X.room, X.hears, X.method, X.code, (X.here.setHeapUsed s₂.heap s₂.slotsUsed).setVm hW'.alike, X.tail, State.WarmedH.trans X.warmed hW', X.limits, X.bytes, X.same.trans (hsame.setVm s.vm)⟩,
      ⟨g, mk, s₂, L, rfl, rfl, hqc, rfl, hL, rfl, rfl⟩, ?_⟩
    show Steps p.tables e below _ ((({ U with heap := s₂.heap, slotsUsed := s₂.slotsUsed } : State).setVm s₂.vm).setTop { g with pc := g.pc + len₂, stack := v.toList ++ g.stack })
    rw [← hs₂]
    exact hsteps
  · obtain ⟨e2, q2, q3, q4, q5, q6⟩ := id hsm
    have e3 : s₂ = ({ (U.calling g mk a).setFrames s₂.frames with heap := s₂.heap, slotsUsed := s₂.slotsUsed } : State).setVm s₂.vm := by
      have : s₂ = ({ s₂ with vm := (U.calling g mk a).vm } : State).setVm s₂.vm := rfl
      rw [e2] at this
      exact this
    have hf₂ : s₂.frames = .throwing q :: .java g :: U.frames.tail := hend
    have hW' : U.WarmedH s₂.vm := hW₂
    have hs₂ : s₂ = ((({ U with heap := s₂.heap, slotsUsed := s₂.slotsUsed } : State).setVm s₂.vm).setTop g).pushFrame (.throwing q) := by
      refine e3.trans ?_
      rw [hf₂, State.calling_eq h.top, State.setFrames_setFrames, State.pushFrame, State.frames_setTop _ hr', State.setTop_of_frames _ hr', State.setFrames_setFrames, hr]
      rfl
    have hsame : U.sameButNew ({ U with heap := s₂.heap, slotsUsed := s₂.slotsUsed } : State) L mc ms := by
      refine ⟨?_, q2, q3, q4, q5, q6⟩
      obtain ⟨t, ht, -⟩ := State.frames_cons hr
      show ({ U with heap := s₂.heap, slotsUsed := s₂.slotsUsed } : State) = { U.setFrames U.frames with heap := s₂.heap, slotsUsed := s₂.slotsUsed }
      rw [State.setFrames_self ht]
    subst hg
    refine Or.inr ⟨q, ⟨(({ U with heap := s₂.heap, slotsUsed := s₂.slotsUsed } : State).setVm s₂.vm), Ls ++ L, c0 + mc, s0 + ms⟩,
      ⟨X.admits, X.cas, X.clock, X.frames, X.room, X.hears, X.method, X.code, (X.here.setHeapUsed s₂.heap s₂.slotsUsed).setVm hW'.alike, X.tail, State.WarmedH.trans X.warmed hW', X.limits, X.bytes, X.same.trans (hsame.setVm s.vm)⟩,
      ⟨g, mk, s₂, L, E, ce, rfl, rfl, hx, hce, hcv, hcl, rfl, hL, rfl, rfl⟩, ?_⟩
    show Steps p.tables e below _ (((({ U with heap := s₂.heap, slotsUsed := s₂.slotsUsed } : State).setVm s₂.vm).setTop g).pushFrame (.throwing q))
    rw [← hs₂]
    exact hsteps
end Payer
section Calls
variable {p : Program} {l : Launch} {e : Env} {R : Room} {s : State} {m : MethodId} {args : Array Value} {below : List Frame} {meth : Method} {c : Code} {T : State} {locs : List Loc} {cells slots : Nat}
theorem vx_callV (X : Stand p l e R s m args below meth c T locs cells slots) (hexec : p.tables.exec = Jvm.exec) {own C : String} {index : Nat} {y : MethodName} {bytes : ByteArray} {maxL : Nat} {ret : Option FieldType}
    (hown : s.vm.findClass own = some m.cls) (hlink : (Cond.methodLink own index y).before args s = true) (hinst : (Cond.instanceMethod y).before args s = true) (hsel : (Cond.selects C y y).before args s = true)
    (hcode : (Cond.code y bytes maxL ret).before args s = true) (hy : y.cls ≠ "java/lang/invoke/MethodHandle" ∧ y.cls ≠ "java/lang/invoke/VarHandle")
    {W9 : Nat} {Pre : Pt → Array Value → Prop} {Post : Pt → Array Value → Option Value → Pt → Prop} {PostX : Pt → Array Value → Addr → Pt → Prop} (hK : vx_Back l R p e below s args y 3 W9 Pre Post PostX)
    {b : Addr} {cellB : Cell} (hcell : T.heap[b]? = some cellB) (hobj : cellB.vm.isStatics = false) (hcls : s.vm.findClass C = some cellB.cls)
    {g : JFrame} (hg : g.method = m) (hsize : g.locals.size = c.maxLocals) {argsL rest : List Value} (hlen : ∀ sig, parseMethodDescriptor y.desc = some sig → argsL.length = sig.parameters.length)
    (hstack : g.stack = argsL.reverse ++ .ref b :: rest) (hW : 2 * g.monitorRoom + (rest.map fun v => v.category).sum ≤ W9) (hdg : decode c.code g.pc = .ok (.invokevirtual index, 3))
    (hpre : ∀ vm₁, s.WarmedH vm₁ → Pre ⟨T.setVm vm₁, locs, cells, slots⟩ (Value.ref b :: argsL).toArray) :
    (∃ (v : Option Value) (vm₁ : Vm) (B : Pt), s.WarmedH vm₁ ∧ Stand p l e R s m args below meth c B.U B.locs B.cells B.slots ∧ Post ⟨T.setVm vm₁, locs, cells, slots⟩ (Value.ref b :: argsL).toArray v B ∧
      ∀ target, Steps p.tables e below (B.U.setTop { g with pc := g.pc + 3, stack := v.toList ++ rest }) target → Steps p.tables e below (T.setTop g) target) ∨
    (∃ (q : Addr) (vm₁ : Vm) (B : Pt), s.WarmedH vm₁ ∧ Stand p l e R s m args below meth c B.U B.locs B.cells B.slots ∧ PostX ⟨T.setVm vm₁, locs, cells, slots⟩ (Value.ref b :: argsL).toArray q B ∧
      Steps p.tables e below (T.setTop g) ((B.U.setTop { g with stack := rest }).pushFrame (.throwing q))) := by
  obtain ⟨mk, methM, hnamed, hmethM, hstM, habM⟩ := Cond.instanceMethod_spec hinst
  obtain ⟨methM', cM, hmethM', -, -, -, -, -, -, hsigM⟩ := Cond.code_spec hnamed hcode
  cases hmethM.symm.trans hmethM'
  obtain ⟨c2, r2, m2, q1, q2, q3, q4, kP, hkP, hkPi⟩ := Cond.selects_spec hsel
  cases hcls.symm.trans q1
  cases (State.methodFound?_of_named hnamed hy).symm.trans q2
  cases hnamed.symm.trans q3
  have hselP : selectMethod e.platform s.vm cellB.cls mk = .method mk := by rw [Launch.admits_selectMethod X.admits]; exact q4
  obtain ⟨vm₁, X₁, hstep₁⟩ := X.invokevirtual hexec hown hlink hnamed hmethM hstM hkP hkPi hy (a := b) (cell := cellB) hcell
    (fun z h => by rw [h] at hobj; cases hobj) hselP hmethM habM hkP hkPi (g := g) hg (argsL := argsL) (rest := rest) (hlen _ hsigM) hstack hdg
  rcases hK m meth c ⟨T.setVm vm₁, locs, cells, slots⟩ { g with stack := rest } (.invokevirtual index) mk (Value.ref b :: argsL).toArray X₁ hg hsize hdg hW (X₁.named hnamed) (hpre vm₁ X₁.warmed) with ⟨v, B, X', hpost, hsteps⟩ | ⟨q, B, X', hpost, hsteps⟩
  · exact Or.inl ⟨v, vm₁, B, X₁.warmed, X', hpost, fun target h => hstep₁ _ fun acts => by rw [doInvoke_state]; exact hsteps.trans h⟩
  · exact Or.inr ⟨q, vm₁, B, X₁.warmed, X', hpost, hstep₁ _ fun acts => by rw [doInvoke_state]; exact hsteps⟩
theorem vx_callS (X : Stand p l e R s m args below meth c T locs cells slots) (hexec : p.tables.exec = Jvm.exec) {own : String} {index : Nat} {y : MethodName} {bytes : ByteArray} {maxL : Nat} {ret : Option FieldType}
    (hown : s.vm.findClass own = some m.cls) (hlink : (Cond.methodLink own index y).before args s = true) (hstat : (Cond.static y).before args s = true) (hinit : (Cond.initialized y.cls).before args s = true)
    (hcode : (Cond.code y bytes maxL ret).before args s = true) (hy : y.cls ≠ "java/lang/invoke/MethodHandle" ∧ y.cls ≠ "java/lang/invoke/VarHandle")
    {W9 : Nat} {Pre : Pt → Array Value → Prop} {Post : Pt → Array Value → Option Value → Pt → Prop} {PostX : Pt → Array Value → Addr → Pt → Prop} (hK : vx_Back l R p e below s args y 3 W9 Pre Post PostX)
    {g : JFrame} (hg : g.method = m) (hsize : g.locals.size = c.maxLocals) {argsL rest : List Value} (hlen : ∀ sig, parseMethodDescriptor y.desc = some sig → argsL.length = sig.parameters.length)
    (hstack : g.stack = argsL.reverse ++ rest) (hW : 2 * g.monitorRoom + (rest.map fun v => v.category).sum ≤ W9) (hdg : decode c.code g.pc = .ok (.invokestatic index, 3))
    (hpre : ∀ vm₁, s.WarmedH vm₁ → Pre ⟨T.setVm vm₁, locs, cells, slots⟩ argsL.toArray) :
    (∃ (v : Option Value) (vm₁ : Vm) (B : Pt), s.WarmedH vm₁ ∧ Stand p l e R s m args below meth c B.U B.locs B.cells B.slots ∧ Post ⟨T.setVm vm₁, locs, cells, slots⟩ argsL.toArray v B ∧
      ∀ target, Steps p.tables e below (B.U.setTop { g with pc := g.pc + 3, stack := v.toList ++ rest }) target → Steps p.tables e below (T.setTop g) target) ∨
    (∃ (q : Addr) (vm₁ : Vm) (B : Pt), s.WarmedH vm₁ ∧ Stand p l e R s m args below meth c B.U B.locs B.cells B.slots ∧ PostX ⟨T.setVm vm₁, locs, cells, slots⟩ argsL.toArray q B ∧
      Steps p.tables e below (T.setTop g) ((B.U.setTop { g with stack := rest }).pushFrame (.throwing q))) := by
  obtain ⟨mk, hnamed⟩ := Cond.code_named hcode
  obtain ⟨methM, cM, hmethM, -, -, -, -, -, -, hsigM⟩ := Cond.code_spec hnamed hcode
  have hstatic : methM.isStatic = true := Cond.static_spec hnamed hmethM hstat
  obtain ⟨kP, hkP, -⟩ := className_of_methodNamed hnamed
  have hinitP : kP.init = .initialized := Cond.initialized_spec (findClass_of_methodNamed hnamed) hkP hinit
  obtain ⟨vm₁, X₁, hstep₁⟩ := X.invokestatic hexec hown hlink hnamed hmethM hstatic hkP hinitP hy (g := g) hg (argsL := argsL) (rest := rest) (hlen _ hsigM) hstack hdg
  rcases hK m meth c ⟨T.setVm vm₁, locs, cells, slots⟩ { g with stack := rest } (.invokestatic index) mk argsL.toArray X₁ hg hsize hdg hW (X₁.named hnamed) (hpre vm₁ X₁.warmed) with ⟨v, B, X', hpost, hsteps⟩ | ⟨q, B, X', hpost, hsteps⟩
  · exact Or.inl ⟨v, vm₁, B, X₁.warmed, X', hpost, fun target h => hstep₁ _ fun acts => by rw [doInvoke_state]; exact hsteps.trans h⟩
  · exact Or.inr ⟨q, vm₁, B, X₁.warmed, X', hpost, hstep₁ _ fun acts => by rw [doInvoke_state]; exact hsteps⟩
end Calls
theorem vx_cls {s : State} {T : State} {vm₁ : Vm} {E : String} {k : ClassId} (hW : s.WarmedH vm₁) (h : (T.setVm vm₁).vm.findClass E = some k) : s.vm.findClass E = some k := by
  have h1 : vm₁.findClass E = some k := h
  rw [hW.alike.findClass] at h1
  exact h1
/-- the method's frame g, with q thrown over it -/
def vx_W (p : Program) (l : Launch) (e : Env) (R : Room) (s : State) (m : MethodId) (args : Array Value) (below : List Frame) (meth : Method) (c : Code) (H : Heap) (locs : List Loc) (cells slots : Nat) (Q : State → Prop) (g : JFrame) (q : Addr) : Prop :=
  ∀ T : State, T.heap = H → Stand p l e R s m args below meth c T locs cells slots → ∃ t, Steps p.tables e below ((T.setTop g).pushFrame (.throwing q)) t ∧ Q t
def vx_Run (p : Program) (l : Launch) (e : Env) (R : Room) (s : State) (m : MethodId) (args : Array Value) (below : List Frame) (meth : Method) (c : Code) (H : Heap) (locs : List Loc) (cells slots mc ms : Nat) (g : JFrame) (rest : List Value) (Qa : State → Outcome → State → Prop) (XC : String → State → State → Prop) (free : Addr → Prop) : Prop :=
  ∀ T : State, T.heap = H → Stand p l e R s m args below meth c T locs cells slots →
    (∃ (v : Option Value) (st₀ t T' : State) (L : List Loc), st₀.heap = H ∧ Stand p l e R s m args below meth c T' (locs ++ L) (cells + mc) (slots + ms) ∧ (∀ q ∈ L, free q.base) ∧ T'.heap = t.heap ∧ T'.vm = t.vm ∧ Qa st₀ (.returned v) t ∧
      Goes p e below T g T' { g with pc := g.pc + 3, stack := v.toList ++ rest }) ∨
    (∃ (q : Addr) (st₀ t T' : State) (L : List Loc) (E : String) (ce : Cell), st₀.heap = H ∧ Stand p l e R s m args below meth c T' (locs ++ L) (cells + mc) (slots + ms) ∧ (∀ z ∈ L, free z.base) ∧ T'.heap = t.heap ∧ T'.vm = t.vm ∧ XC E st₀ t ∧ t.heap[q]? = some ce ∧ ce.vm = .none ∧ s.vm.findClass E = some ce.cls ∧
      Steps p.tables e below (T.setTop g) ((T'.setTop { g with stack := rest }).pushFrame (.throwing q)))
def vx_X {S : Type} (px : S → Prop) (B : String → S → State → Prop) (A : Nat → Prop) : String → State → State → Prop := fun E st t => ∃ u : S, px u ∧ B E u t ∧ va_F A st t
section Runs
variable {p : Program} {l : Launch} {e : Env} {R : Room} {s : State} {m : MethodId} {args : Array Value} {below : List Frame} {meth : Method} {c : Code} {H : Heap} {locs : List Loc} {cells slots : Nat}
variable {y : MethodName} {bytes cc : ByteArray} {maxL nL mc ms n index : Nat} {ret : Option FieldType} {ws : List Cond} {rm : Room} {Pc : Array Value → State → Prop} {Qc : Array Value → State → Outcome → State → Prop} {XC : String → State → State → Prop} {free : Addr → Prop} {Ts : List Cond} {own C : String} {b : Addr} {As rest : List Value} {g : JFrame}
theorem vx_callBack (cb : CallB R s args own index y bytes maxL ret ws rm mc ms n) (hM : vx_Met l y ws rm Pc Qc XC mc ms free) (hbl : FrameBlind Pc) : vx_Back l R p e below s args y 3 8 (PreOf R mc ms Pc) (PostOf Qc mc ms free) (vx_Post XC mc ms free) := by
  obtain ⟨hrc, hrs, hfr, hlo, hws, hcw, -, hini, -⟩ := cb
  exact vx_back (bytes := bytes) (maxL := maxL) (ret := ret) hM hbl hrc hrs hfr hlo hws hcw (fun a' U hW => word_at hW (Or.inl (by first | rfl | simp [Cond.onTables, Cond.keeps, Cond.steady])) hini)
theorem vx_runV (S : CallFix p m c cc nL s args Ts own) (hM : vx_Met l y ws rm Pc Qc XC mc ms free) (cw : CallW R s args own C index y bytes maxL ret ws rm mc ms n) (hp : PreV s H C b Pc As)
    (hg : g.method = m) (hn : As.length = n) (hsize : g.locals.size = nL) (hstack : g.stack = As.reverse ++ .ref b :: rest) (hW : 2 * g.monitorRoom + (rest.map fun v => v.category).sum ≤ 8) (hdg : decode cc g.pc = .ok (.invokevirtual index, 3)) (hf : cells + mc ≤ R.cells ∧ slots + ms ≤ R.slots) :
    vx_Run p l e R s m args below meth c H locs cells slots mc ms g rest (Qc (Value.ref b :: As).toArray) XC free := by
  have hK : vx_Back l R p e below s args y 3 8 (PreOf R mc ms Pc) (PostOf Qc mc ms free) (vx_Post XC mc ms free) := vx_callBack cw.1 hM hp.1
  obtain ⟨⟨-, -, -, -, -, -, hcode, -, hy, hlen, hl⟩, hin, hse⟩ := cw
  obtain ⟨hx, hb, hml, ho, -⟩ := S
  obtain ⟨-, ⟨cellB, hcB, hoB, hclB⟩, hPc⟩ := hp
  intro T hT X
  rcases vx_callV X hx (C := C) (bytes := bytes) (maxL := maxL) (ret := ret) ho hl hin hse hcode hy hK (by rw [hT]; exact hcB) hoB hclB hg (hsize.trans hml.symm) (argsL := As) (rest := rest) (fun sig h => hn.trans (hlen sig h)) hstack hW (by rw [hb]; exact hdg)
    (fun vm₁ hW₁ => ⟨hf.1, hf.2, hPc (T.setVm vm₁) hT hW₁⟩) with ⟨v, vm₁, ⟨U', l2, c2, s2⟩, hW₁, X', ⟨g', mk, t, L, e1, e2, hq, h1, hL, h2, h3⟩, st⟩ | ⟨q, vm₁, ⟨U', l2, c2, s2⟩, hW₁, X', ⟨g', mk, t, L, E, ce, e1, e2, hq, hce, hcv, hcl, h1, hL, h2, h3⟩, st⟩
  · dsimp only [Pt.U, Pt.locs, Pt.cells, Pt.slots] at X' e1 e2 h1 h2 h3 st
    subst h1; subst h2; subst h3
    exact Or.inl ⟨v, (T.setVm vm₁).calling g' mk (Value.ref b :: As).toArray, t, U', L, hT, X', hL, e1, e2, hq, st⟩
  · dsimp only [Pt.U, Pt.locs, Pt.cells, Pt.slots] at X' e1 e2 h1 h2 h3 st hcl
    subst h1; subst h2; subst h3
    exact Or.inr ⟨q, (T.setVm vm₁).calling g' mk (Value.ref b :: As).toArray, t, U', L, E, ce, hT, X', hL, e1, e2, hq, hce, hcv, vx_cls hW₁ hcl, st⟩
theorem vx_runS (S : CallFix p m c cc nL s args Ts own) (hM : vx_Met l y ws rm Pc Qc XC mc ms free) (cw : CallB R s args own index y bytes maxL ret ws rm mc ms n ∧ (Cond.static y).before args s = true) (hp : PreS s H Pc As)
    (hg : g.method = m) (hn : As.length = n) (hsize : g.locals.size = nL) (hstack : g.stack = As.reverse ++ rest) (hW : 2 * g.monitorRoom + (rest.map fun v => v.category).sum ≤ 8) (hdg : decode cc g.pc = .ok (.invokestatic index, 3)) (hf : cells + mc ≤ R.cells ∧ slots + ms ≤ R.slots) :
    vx_Run p l e R s m args below meth c H locs cells slots mc ms g rest (Qc As.toArray) XC free := by
  have hK : vx_Back l R p e below s args y 3 8 (PreOf R mc ms Pc) (PostOf Qc mc ms free) (vx_Post XC mc ms free) := vx_callBack cw.1 hM hp.1
  obtain ⟨⟨-, -, -, -, -, -, hcode, hini, hy, hlen, hl⟩, hstt⟩ := cw
  obtain ⟨hx, hb, hml, ho, -⟩ := S
  intro T hT X
  rcases vx_callS X hx (bytes := bytes) (maxL := maxL) (ret := ret) ho hl hstt hini hcode hy hK hg (hsize.trans hml.symm) (argsL := As) (rest := rest) (fun sig h => hn.trans (hlen sig h)) hstack hW (by rw [hb]; exact hdg)
    (fun vm₁ hW₁ => ⟨hf.1, hf.2, hp.2 (T.setVm vm₁) hT hW₁⟩) with ⟨v, vm₁, ⟨U', l2, c2, s2⟩, hW₁, X', ⟨g', mk, t, L, e1, e2, hq, h1, hL, h2, h3⟩, st⟩ | ⟨q, vm₁, ⟨U', l2, c2, s2⟩, hW₁, X', ⟨g', mk, t, L, E, ce, e1, e2, hq, hce, hcv, hcl, h1, hL, h2, h3⟩, st⟩
  · dsimp only [Pt.U, Pt.locs, Pt.cells, Pt.slots] at X' e1 e2 h1 h2 h3 st
    subst h1; subst h2; subst h3
    exact Or.inl ⟨v, (T.setVm vm₁).calling g' mk As.toArray, t, U', L, hT, X', hL, e1, e2, hq, st⟩
  · dsimp only [Pt.U, Pt.locs, Pt.cells, Pt.slots] at X' e1 e2 h1 h2 h3 st hcl
    subst h1; subst h2; subst h3
    exact Or.inr ⟨q, (T.setVm vm₁).calling g' mk As.toArray, t, U', L, E, ce, hT, X', hL, e1, e2, hq, hce, hcv, vx_cls hW₁ hcl, st⟩
end Runs
section Rows
variable {p : Program} {l : Launch} {e : Env} {R : Room} {s : State} {m : MethodId} {args : Array Value} {below : List Frame} {meth : Method} {c : Code} {H : Heap} {locs : List Loc} {cells slots : Nat} {Q : State → Prop}
variable {mc ms : Nat} {free : Addr → Prop} {A0 A1 : Nat → Prop} {H0 : Heap} {a : Array Value} {pc : Nat} {ls : Array Slot} {st0 rest : List Value}
theorem vx_keep {st₀ t T' : State} {L : List Loc} (h0 : st₀.heap = H) (e1 : T'.heap = t.heap) (hS : va_S A0 H0 H locs) (hA : ∀ q, q < H.size → A1 q → A0 q) (hf : ∀ q, free q → A0 q) (hL : ∀ q ∈ L, free q.base) (hF : va_F A1 st₀ t) :
    H.size ≤ T'.heap.size ∧ (∀ q : Nat, q < H.size → ¬ A1 q → T'.heap[q]? = H[q]?) ∧ va_S A0 H0 T'.heap (locs ++ L) := by
  obtain ⟨hz, hk⟩ := hF
  rw [h0] at hz hk
  exact ⟨by rw [e1]; exact hz, fun q h1 h2 => by rw [e1]; exact hk q h1 h2,
    ⟨Nat.le_trans hS.1 (by rw [e1]; exact hz), fun q h1 h2 => by rw [e1, hk q (Nat.lt_of_lt_of_le h1 hS.1) (fun z => h2 (hA q (Nat.lt_of_lt_of_le h1 hS.1) z))]; exact hS.2.1 q h1 h2, fun q hq => by
      rcases List.mem_append.mp hq with h | h
      · exact hS.2.2 q h
      · exact hf _ (hL q h)⟩⟩
theorem vx_calli {S SX : Type} {post : Int32 → S → Prop} {px : SX → Prop} {B : S → State → Prop} {BX : String → SX → State → Prop} {AX : Nat → Prop} (hr : vx_Run p l e R s m args below meth c H locs cells slots mc ms (F0 m pc ls st0) rest (va_Qi post B A1 a) (vx_X px BX AX) free) (hS : va_S A0 H0 H locs) (hA : ∀ q, q < H.size → A1 q → A0 q) (hf : ∀ q, free q → A0 q) (hAX : ∀ q, q < H.size → AX q → A0 q)
    (kx : ∀ (E : String) (ce : Cell) (q9 : Addr) (u : SX) (t : State) (H1 : Heap) (locs1 : List Loc), t.heap = H1 → s.vm.Alike t.vm → px u → BX E u t → H.size ≤ H1.size → (∀ q : Nat, q < H.size → ¬ AX q → H1[q]? = H[q]?) → va_S A0 H0 H1 locs1 → H1[q9]? = some ce → ce.vm = .none → s.vm.findClass E = some ce.cls → vx_W p l e R s m args below meth c H1 locs1 (cells + mc) (slots + ms) Q (F0 m pc ls rest) q9)
    (kk : ∀ (r : Int32) (u : S) (t : State) (H1 : Heap) (locs1 : List Loc), t.heap = H1 → s.vm.Alike t.vm → post r u → B u t → H.size ≤ H1.size → (∀ q : Nat, q < H.size → ¬ A1 q → H1[q]? = H[q]?) → va_S A0 H0 H1 locs1 → W p l e R s m args below meth c H1 locs1 (cells + mc) (slots + ms) Q (F0 m (pc + 3) ls (.int r :: rest))) : W p l e R s m args below meth c H locs cells slots Q (F0 m pc ls st0) := by
  intro T hT X
  rcases hr T hT X with ⟨v, st₀, t, T', L, h0, X', hL, e1, e2, ⟨⟨r, u, hv, hp, hb⟩, hF⟩, st⟩ | ⟨q, st₀, t, T', L, E, ce, h0, X', hL, e1, e2, ⟨u, hp, hb, hF⟩, hce, hcv, hcl, st⟩
  · cases hv
    obtain ⟨k1, k2, k3⟩ := vx_keep h0 e1 hS hA hf hL hF
    obtain ⟨t2, a1, b1⟩ := kk r u t T'.heap (locs ++ L) e1.symm (by rw [← e2]; exact X'.warmed.alike) hp hb k1 k2 k3 T' rfl X'
    exact ⟨t2, st t2 a1, b1⟩
  · obtain ⟨k1, k2, k3⟩ := vx_keep h0 e1 hS hAX hf hL hF
    obtain ⟨t2, a1, b1⟩ := kx E ce q u t T'.heap (locs ++ L) e1.symm (by rw [← e2]; exact X'.warmed.alike) hp hb k1 k2 k3 (by rw [e1]; exact hce) hcv hcl T' rfl X'
    exact ⟨t2, st.trans a1, b1⟩
theorem vx_calll {S SX : Type} {post : Int64 → S → Prop} {px : SX → Prop} {B : S → State → Prop} {BX : String → SX → State → Prop} {AX : Nat → Prop} (hr : vx_Run p l e R s m args below meth c H locs cells slots mc ms (F0 m pc ls st0) rest (va_Ql post B A1 a) (vx_X px BX AX) free) (hS : va_S A0 H0 H locs) (hA : ∀ q, q < H.size → A1 q → A0 q) (hf : ∀ q, free q → A0 q) (hAX : ∀ q, q < H.size → AX q → A0 q)
    (kx : ∀ (E : String) (ce : Cell) (q9 : Addr) (u : SX) (t : State) (H1 : Heap) (locs1 : List Loc), t.heap = H1 → s.vm.Alike t.vm → px u → BX E u t → H.size ≤ H1.size → (∀ q : Nat, q < H.size → ¬ AX q → H1[q]? = H[q]?) → va_S A0 H0 H1 locs1 → H1[q9]? = some ce → ce.vm = .none → s.vm.findClass E = some ce.cls → vx_W p l e R s m args below meth c H1 locs1 (cells + mc) (slots + ms) Q (F0 m pc ls rest) q9)
    (kk : ∀ (r : Int64) (u : S) (t : State) (H1 : Heap) (locs1 : List Loc), t.heap = H1 → s.vm.Alike t.vm → post r u → B u t → H.size ≤ H1.size → (∀ q : Nat, q < H.size → ¬ A1 q → H1[q]? = H[q]?) → va_S A0 H0 H1 locs1 → W p l e R s m args below meth c H1 locs1 (cells + mc) (slots + ms) Q (F0 m (pc + 3) ls (.long r :: rest))) : W p l e R s m args below meth c H locs cells slots Q (F0 m pc ls st0) := by
  intro T hT X
  rcases hr T hT X with ⟨v, st₀, t, T', L, h0, X', hL, e1, e2, ⟨⟨r, u, hv, hp, hb⟩, hF⟩, st⟩ | ⟨q, st₀, t, T', L, E, ce, h0, X', hL, e1, e2, ⟨u, hp, hb, hF⟩, hce, hcv, hcl, st⟩
  · cases hv
    obtain ⟨k1, k2, k3⟩ := vx_keep h0 e1 hS hA hf hL hF
    obtain ⟨t2, a1, b1⟩ := kk r u t T'.heap (locs ++ L) e1.symm (by rw [← e2]; exact X'.warmed.alike) hp hb k1 k2 k3 T' rfl X'
    exact ⟨t2, st t2 a1, b1⟩
  · obtain ⟨k1, k2, k3⟩ := vx_keep h0 e1 hS hAX hf hL hF
    obtain ⟨t2, a1, b1⟩ := kx E ce q u t T'.heap (locs ++ L) e1.symm (by rw [← e2]; exact X'.warmed.alike) hp hb k1 k2 k3 (by rw [e1]; exact hce) hcv hcl T' rfl X'
    exact ⟨t2, st.trans a1, b1⟩
theorem vx_callf {S SX : Type} {post : UInt32 → S → Prop} {px : SX → Prop} {B : S → State → Prop} {BX : String → SX → State → Prop} {AX : Nat → Prop} (hr : vx_Run p l e R s m args below meth c H locs cells slots mc ms (F0 m pc ls st0) rest (va_Qf post B A1 a) (vx_X px BX AX) free) (hS : va_S A0 H0 H locs) (hA : ∀ q, q < H.size → A1 q → A0 q) (hf : ∀ q, free q → A0 q) (hAX : ∀ q, q < H.size → AX q → A0 q)
    (kx : ∀ (E : String) (ce : Cell) (q9 : Addr) (u : SX) (t : State) (H1 : Heap) (locs1 : List Loc), t.heap = H1 → s.vm.Alike t.vm → px u → BX E u t → H.size ≤ H1.size → (∀ q : Nat, q < H.size → ¬ AX q → H1[q]? = H[q]?) → va_S A0 H0 H1 locs1 → H1[q9]? = some ce → ce.vm = .none → s.vm.findClass E = some ce.cls → vx_W p l e R s m args below meth c H1 locs1 (cells + mc) (slots + ms) Q (F0 m pc ls rest) q9)
    (kk : ∀ (r : UInt32) (u : S) (t : State) (H1 : Heap) (locs1 : List Loc), t.heap = H1 → s.vm.Alike t.vm → post r u → B u t → H.size ≤ H1.size → (∀ q : Nat, q < H.size → ¬ A1 q → H1[q]? = H[q]?) → va_S A0 H0 H1 locs1 → W p l e R s m args below meth c H1 locs1 (cells + mc) (slots + ms) Q (F0 m (pc + 3) ls (.float r :: rest))) : W p l e R s m args below meth c H locs cells slots Q (F0 m pc ls st0) := by
  intro T hT X
  rcases hr T hT X with ⟨v, st₀, t, T', L, h0, X', hL, e1, e2, ⟨⟨r, u, hv, hp, hb⟩, hF⟩, st⟩ | ⟨q, st₀, t, T', L, E, ce, h0, X', hL, e1, e2, ⟨u, hp, hb, hF⟩, hce, hcv, hcl, st⟩
  · cases hv
    obtain ⟨k1, k2, k3⟩ := vx_keep h0 e1 hS hA hf hL hF
    obtain ⟨t2, a1, b1⟩ := kk r u t T'.heap (locs ++ L) e1.symm (by rw [← e2]; exact X'.warmed.alike) hp hb k1 k2 k3 T' rfl X'
    exact ⟨t2, st t2 a1, b1⟩
  · obtain ⟨k1, k2, k3⟩ := vx_keep h0 e1 hS hAX hf hL hF
    obtain ⟨t2, a1, b1⟩ := kx E ce q u t T'.heap (locs ++ L) e1.symm (by rw [← e2]; exact X'.warmed.alike) hp hb k1 k2 k3 (by rw [e1]; exact hce) hcv hcl T' rfl X'
    exact ⟨t2, st.trans a1, b1⟩
theorem vx_calld {S SX : Type} {post : UInt64 → S → Prop} {px : SX → Prop} {B : S → State → Prop} {BX : String → SX → State → Prop} {AX : Nat → Prop} (hr : vx_Run p l e R s m args below meth c H locs cells slots mc ms (F0 m pc ls st0) rest (va_Qd post B A1 a) (vx_X px BX AX) free) (hS : va_S A0 H0 H locs) (hA : ∀ q, q < H.size → A1 q → A0 q) (hf : ∀ q, free q → A0 q) (hAX : ∀ q, q < H.size → AX q → A0 q)
    (kx : ∀ (E : String) (ce : Cell) (q9 : Addr) (u : SX) (t : State) (H1 : Heap) (locs1 : List Loc), t.heap = H1 → s.vm.Alike t.vm → px u → BX E u t → H.size ≤ H1.size → (∀ q : Nat, q < H.size → ¬ AX q → H1[q]? = H[q]?) → va_S A0 H0 H1 locs1 → H1[q9]? = some ce → ce.vm = .none → s.vm.findClass E = some ce.cls → vx_W p l e R s m args below meth c H1 locs1 (cells + mc) (slots + ms) Q (F0 m pc ls rest) q9)
    (kk : ∀ (r : UInt64) (u : S) (t : State) (H1 : Heap) (locs1 : List Loc), t.heap = H1 → s.vm.Alike t.vm → post r u → B u t → H.size ≤ H1.size → (∀ q : Nat, q < H.size → ¬ A1 q → H1[q]? = H[q]?) → va_S A0 H0 H1 locs1 → W p l e R s m args below meth c H1 locs1 (cells + mc) (slots + ms) Q (F0 m (pc + 3) ls (.double r :: rest))) : W p l e R s m args below meth c H locs cells slots Q (F0 m pc ls st0) := by
  intro T hT X
  rcases hr T hT X with ⟨v, st₀, t, T', L, h0, X', hL, e1, e2, ⟨⟨r, u, hv, hp, hb⟩, hF⟩, st⟩ | ⟨q, st₀, t, T', L, E, ce, h0, X', hL, e1, e2, ⟨u, hp, hb, hF⟩, hce, hcv, hcl, st⟩
  · cases hv
    obtain ⟨k1, k2, k3⟩ := vx_keep h0 e1 hS hA hf hL hF
    obtain ⟨t2, a1, b1⟩ := kk r u t T'.heap (locs ++ L) e1.symm (by rw [← e2]; exact X'.warmed.alike) hp hb k1 k2 k3 T' rfl X'
    exact ⟨t2, st t2 a1, b1⟩
  · obtain ⟨k1, k2, k3⟩ := vx_keep h0 e1 hS hAX hf hL hF
    obtain ⟨t2, a1, b1⟩ := kx E ce q u t T'.heap (locs ++ L) e1.symm (by rw [← e2]; exact X'.warmed.alike) hp hb k1 k2 k3 (by rw [e1]; exact hce) hcv hcl T' rfl X'
    exact ⟨t2, st.trans a1, b1⟩
theorem vx_callv {S SX : Type} {post : S → Prop} {px : SX → Prop} {B : S → State → Prop} {BX : String → SX → State → Prop} {AX : Nat → Prop} (hr : vx_Run p l e R s m args below meth c H locs cells slots mc ms (F0 m pc ls st0) rest (va_Qv post B A1 a) (vx_X px BX AX) free) (hS : va_S A0 H0 H locs) (hA : ∀ q, q < H.size → A1 q → A0 q) (hf : ∀ q, free q → A0 q) (hAX : ∀ q, q < H.size → AX q → A0 q)
    (kx : ∀ (E : String) (ce : Cell) (q9 : Addr) (u : SX) (t : State) (H1 : Heap) (locs1 : List Loc), t.heap = H1 → s.vm.Alike t.vm → px u → BX E u t → H.size ≤ H1.size → (∀ q : Nat, q < H.size → ¬ AX q → H1[q]? = H[q]?) → va_S A0 H0 H1 locs1 → H1[q9]? = some ce → ce.vm = .none → s.vm.findClass E = some ce.cls → vx_W p l e R s m args below meth c H1 locs1 (cells + mc) (slots + ms) Q (F0 m pc ls rest) q9)
    (kk : ∀ (u : S) (t : State) (H1 : Heap) (locs1 : List Loc), t.heap = H1 → s.vm.Alike t.vm → post u → B u t → H.size ≤ H1.size → (∀ q : Nat, q < H.size → ¬ A1 q → H1[q]? = H[q]?) → va_S A0 H0 H1 locs1 → W p l e R s m args below meth c H1 locs1 (cells + mc) (slots + ms) Q (F0 m (pc + 3) ls (rest))) : W p l e R s m args below meth c H locs cells slots Q (F0 m pc ls st0) := by
  intro T hT X
  rcases hr T hT X with ⟨v, st₀, t, T', L, h0, X', hL, e1, e2, ⟨⟨u, hv, hp, hb⟩, hF⟩, st⟩ | ⟨q, st₀, t, T', L, E, ce, h0, X', hL, e1, e2, ⟨u, hp, hb, hF⟩, hce, hcv, hcl, st⟩
  · cases hv
    obtain ⟨k1, k2, k3⟩ := vx_keep h0 e1 hS hA hf hL hF
    obtain ⟨t2, a1, b1⟩ := kk u t T'.heap (locs ++ L) e1.symm (by rw [← e2]; exact X'.warmed.alike) hp hb k1 k2 k3 T' rfl X'
    exact ⟨t2, st t2 a1, b1⟩
  · obtain ⟨k1, k2, k3⟩ := vx_keep h0 e1 hS hAX hf hL hF
    obtain ⟨t2, a1, b1⟩ := kx E ce q u t T'.heap (locs ++ L) e1.symm (by rw [← e2]; exact X'.warmed.alike) hp hb k1 k2 k3 (by rw [e1]; exact hce) hcv hcl T' rfl X'
    exact ⟨t2, st.trans a1, b1⟩
/-- caught by the row x of this method's table; the rows ahead don't take it -/
theorem vx_catch {own name : String} {E : String} {ce : Cell} {q : Addr} (hown : s.vm.findClass own = some m.cls) (pre : List ExceptionTableEntry) (x : ExceptionTableEntry) (suf : List ExceptionTableEntry) (hsplit : c.exceptionTable.toList = pre ++ x :: suf)
    (hpass : ∀ z ∈ pre, covers z pc = false ∨ (z.catchType ≠ 0 ∧ ∃ nm : String, (Cond.classLink own z.catchType nm).before args s = true ∧ va_Nc E nm s)) (hx : covers x pc = true) (h0 : x.catchType ≠ 0)
    (hlink : (Cond.classLink own x.catchType name).before args s = true) (hcast : (Cond.castable E name).before args s = true) (hcell : H[q]? = some ce) (hv : ce.vm = .none) (hcl : s.vm.findClass E = some ce.cls)
    (kk : W p l e R s m args below meth c H locs cells slots Q (F0 m x.handlerPc ls [.ref q])) : vx_W p l e R s m args below meth c H locs cells slots Q (F0 m pc ls rest) q := by
  intro T hT X
  have hpl : e.platform.magicAccessors = ({} : Platform).magicAccessors := by rw [X.admits.platform]
  obtain ⟨c3, c4, hc3, hc4, hasg⟩ := Cond.castable_spec hcast
  cases Option.some.inj (hc3.symm.trans hcl)
  obtain ⟨c5, hc5, hcl5⟩ := Cond.classLink_spec hown hlink e.platform hpl
  cases Option.some.inj (hc4.symm.trans hc5)
  obtain ⟨vm', X', st⟩ := X.thenCaughtThrough q (g := F0 m pc ls rest) rfl (Steps.refl _) (by rw [hT]; exact hcell) (by rw [hv]; rfl) (by obtain ⟨k9, h9, -⟩ := Vm.findClass_spec hcl; exact ⟨k9, h9⟩) pre x suf hsplit
    (fun z hz => by
      rcases hpass z hz with h | ⟨hz0, nm, hl1, hn1⟩
      · exact Or.inl h
      · obtain ⟨c6, hc6, hcl6⟩ := Cond.classLink_spec hown hl1 e.platform hpl
        obtain ⟨a8, b8, h1, h2, h3⟩ := hn1
        cases Option.some.inj (h1.symm.trans hcl)
        cases Option.some.inj (h2.symm.trans hc6)
        exact Or.inr ⟨hz0, _, hcl6, h3⟩) hx (Or.inr ⟨h0, c4, hcl5, hasg⟩)
  obtain ⟨t, a1, b1⟩ := kk (T.setVm vm') hT X'
  exact ⟨t, st.trans a1, b1⟩
end Rows
section Ends
variable {p : Program} {l : Launch} {e : Env} {R : Room} {s : State} {m : MethodId} {args : Array Value} {below : List Frame} {meth : Method} {c : Code} {H : Heap} {locs : List Loc} {cells slots : Nat} {Q : State → Prop}
variable {mc ms : Nat} {free : Addr → Prop} {A0 A1 : Nat → Prop} {H0 : Heap} {a : Array Value} {ls : Array Slot} {st0 rest : List Value}
variable {Qc : Array Value → State → Outcome → State → Prop} {XC : String → State → State → Prop}
/-- what a body that may throw owes at its end -/
def vx_MQ (below : List Frame) (Qc : Array Value → State → Outcome → State → Prop) (XC : String → State → State → Prop) (a : Array Value) (s : State) (mc ms : Nat) (free : Addr → Prop) : State → Prop := fun t =>
  ∃ o, t.status = .running ∧ Ended t below o ∧ vx_Q Qc XC mc ms free a s o t
theorem vx_ret {g : JFrame} {mc ms : Nat} (k : W p l e R s m args below meth c H locs cells slots (MQ below Qc args s mc ms free) g) : W p l e R s m args below meth c H locs cells slots (vx_MQ below Qc XC args s mc ms free) g := by
  intro T hT X
  obtain ⟨t, a1, o, b1, b2, b3, b4⟩ := k T hT X
  exact ⟨t, a1, o, b1, b2, Or.inl ⟨b3, b4⟩⟩
/-- not caught here: it goes on to the caller -/
theorem vx_widen {g : JFrame} {q : Addr} {k n : Nat} (h1 : cells ≤ k) (h2 : slots ≤ n) (kk : vx_W p l e R s m args below meth c H locs k n Q g q) : vx_W p l e R s m args below meth c H locs cells slots Q g q := fun T hT X => kk T hT (stand_widen X h1 h2)
theorem vx_out {pc : Nat} {E : String} {ce : Cell} {q : Addr} {mc ms : Nat} (hout : ∀ x ∈ c.exceptionTable.toList, covers x pc = false) (hlocks : meth.locks = false) (hcell : H[q]? = some ce) (hv : ce.vm = .none) (hcl : s.vm.findClass E = some ce.cls)
    (hx : ∀ t : State, t.heap = H → s.vm.Alike t.vm → XC E s t) (hf : ∀ z ∈ locs, free z.base) (hc : cells ≤ mc) (hs : slots ≤ ms) :
    vx_W p l e R s m args below meth c H locs cells slots (vx_MQ below Qc XC args s mc ms free) (F0 m pc ls rest) q := by
  intro T hT X
  obtain ⟨st1, hrun, hend, hW, hsm⟩ := X.leaveThrown q (g := F0 m pc ls rest) rfl rfl rfl hout hlocks
  have hcell9 : (T.setFrames (.throwing q :: below)).heap[q]? = some ce := by
    show T.heap[q]? = some ce
    rw [hT]; exact hcell
  exact ⟨_, st1, .threw q, hrun, hend, Or.inr ⟨q, rfl, E, ce, locs, hx _ hT hW.alike, hcell9, hv, hcl, hW, hsm.mono hc hs, hf⟩⟩
theorem vx_frame {U : State} {k n : Nat} (h : s.sameButNew ({ U with vm := s.vm } : State) locs k n) : s.heap.size ≤ U.heap.size ∧ ∀ q : Nat, q < s.heap.size → (∀ z ∈ locs, z.base ≠ q) → U.heap[q]? = s.heap[q]? := by
  obtain ⟨-, h2, -, -, -, h6⟩ := h
  refine ⟨h2, fun q hq hz => ?_⟩
  obtain ⟨c9, e1, e2, e3, e4⟩ := h6 q _ (Array.getElem?_eq_getElem hq)
  have hs : c9.slots = (s.heap[q]).slots := Array.ext_getElem? fun i => e4 i fun hm => hz _ hm rfl
  have h9 : c9 = s.heap[q] := by
    rw [hs] at e2
    exact e2
  have e5 : U.heap[q]? = some c9 := e1
  rw [e5, h9, Array.getElem?_eq_getElem hq]
/-- the words of a throw but the four that speak of the heap -/
def vx_no (w : Cond) : Bool := decide (w ≠ .isRef (.static Bundle.tN "UNASSIGNED_STACK" Bundle.steD)) && decide (w ≠ .isRef (.static Bundle.tN "SUPPRESSED_SENTINEL" Bundle.listD)) && decide (w ≠ .laysStatic Bundle.tN "UNASSIGNED_STACK" Bundle.steD) && decide (w ≠ .laysStatic Bundle.tN "SUPPRESSED_SENTINEL" Bundle.listD)
def vx_at0 (own : String) (ic : Nat) (X : String) (names : List String) : List Cond := (Bundle.ownAtoms0 own ic X names).filter vx_no
def vx_atS (own : String) (ic : Nat) (X : String) (names : List String) : List Cond := (Bundle.ownAtoms own ic X names).filter vx_no
/-- a word that the tables alone decide, or a good one -/
def vx_ot (w : Cond) : Bool := w.onTables || goodWord w
theorem vx_ot_at {args a' : Array Value} {s U : State} {w : Cond} (hW : s.WarmedH U.vm) (hvm : s.vm = U.vm) (hg : vx_ot w = true) (h : w.before args s = true) : w.before a' U = true := by
  simp only [vx_ot, Bool.or_eq_true] at hg
  rcases hg with hg | hg
  · exact va_tabs hg hvm h
  · exact word_at hW (good_of_word hg) h
/-- a list's words: the good ones out of the method's own list, the others by premises of their own -/
theorem vx_hat {args : Array Value} {s : State} {L B : List Cond} (h1 : ∀ w ∈ L.filter goodWord, w.before args s = true) (h2 : ∀ w ∈ L.filter (fun w => !goodWord w), w ∈ B) (h3 : ∀ w ∈ B, w.before args s = true) : ∀ w ∈ L, w.before args s = true := by
  intro w hw
  by_cases g : goodWord w = true
  · exact h1 w (List.mem_filter.mpr ⟨hw, g⟩)
  · refine h3 w (h2 w (List.mem_filter.mpr ⟨hw, ?_⟩))
    show (!goodWord w) = true
    cases hgw : goodWord w
    · rfl
    · exact absurd hgw g
theorem vx_c {args : Array Value} {s : State} {w : Cond} {B : List Cond} (h : w.before args s = true) (t : ∀ w ∈ B, w.before args s = true) : ∀ w' ∈ w :: B, w'.before args s = true := fun w' h' => (List.mem_cons.mp h').elim (fun e => by rw [e]; exact h) (t w')
theorem vx_n {args : Array Value} {s : State} : ∀ w ∈ ([] : List Cond), w.before args s = true := fun _ h => nomatch h
theorem vx_own {args : Array Value} {s : State} {L : List Cond} (h1 : ∀ w ∈ L.filter vx_no, w.before args s = true)
    (hU : (Cond.isRef (.static Bundle.tN "UNASSIGNED_STACK" Bundle.steD)).before args s = true) (hN : (Cond.isRef (.static Bundle.tN "SUPPRESSED_SENTINEL" Bundle.listD)).before args s = true)
    (lU : (Cond.laysStatic Bundle.tN "UNASSIGNED_STACK" Bundle.steD).before args s = true) (lN : (Cond.laysStatic Bundle.tN "SUPPRESSED_SENTINEL" Bundle.listD).before args s = true) : ∀ w ∈ L, w.before args s = true := by
  intro w hw
  by_cases e1 : w = .isRef (.static Bundle.tN "UNASSIGNED_STACK" Bundle.steD)
  · rw [e1]; exact hU
  · by_cases e2 : w = .isRef (.static Bundle.tN "SUPPRESSED_SENTINEL" Bundle.listD)
    · rw [e2]; exact hN
    · by_cases e3 : w = .laysStatic Bundle.tN "UNASSIGNED_STACK" Bundle.steD
      · rw [e3]; exact lU
      · by_cases e4 : w = .laysStatic Bundle.tN "SUPPRESSED_SENTINEL" Bundle.listD
        · rw [e4]; exact lN
        · exact h1 w (List.mem_filter.mpr ⟨hw, by unfold vx_no; rw [decide_eq_true e1, decide_eq_true e2, decide_eq_true e3, decide_eq_true e4]; rfl⟩)
/-- where a static field lies, its class's statics cell in H -/
def vx_L (C n d : String) (A : Nat → Prop) (U : State) (H : Heap) : Prop := ∃ (c : ClassId) (k : Class) (i : Nat) (f : Field) (a : Nat) (cell : Cell), U.vm.findClass C = some c ∧ U.fieldFound? C n d = some (c, k, i, f) ∧ f.isStatic = true ∧ k.statics = some a ∧ H[a]? = some cell ∧ cell.vm.isStatics = true ∧ cell.cls = c ∧ f.slot < cell.slots.size ∧ k.staticTypes[f.slot]? = some f.type ∧ ¬ A a
theorem vx_L.moved {C n d : String} {A : Nat → Prop} {u U : State} {H : Heap} (hvm : u.vm.Alike U.vm) (h : vx_L C n d A u H) : vx_L C n d A U H := by
  obtain ⟨c, k, i, f, a, cell, h1, h2, h3, h4, h5, h6, h7, h8, h9, h10⟩ := h
  obtain ⟨k', hi', he⟩ := State.fieldFound?_setVm hvm h2
  exact ⟨c, k', i, f, a, cell, by rw [hvm.findClass]; exact h1, hi', h3, by rw [he]; exact h4, h5, h6, h7, h8, by rw [he]; exact h9, h10⟩
theorem vx_L.kept {C n d : String} {A : Nat → Prop} {U : State} {H H1 : Heap} (h : vx_L C n d A U H) (hq : ∀ a : Nat, a < H.size → ¬ A a → H1[a]? = H[a]?) : vx_L C n d A U H1 := by
  obtain ⟨c, k, i, f, a, cell, h1, h2, h3, h4, h5, h6, h7, h8, h9, h10⟩ := h
  exact ⟨c, k, i, f, a, cell, h1, h2, h3, h4, by rw [hq a (Array.getElem?_eq_some_iff.mp h5).1 h10]; exact h5, h6, h7, h8, h9, h10⟩
theorem vx_L.narrow {C n d : String} {A B : Nat → Prop} {U : State} {H : Heap} (h : vx_L C n d A U H) (hAB : ∀ q, B q → A q) : vx_L C n d B U H := by
  obtain ⟨c, k, i, f, a, cell, h1, h2, h3, h4, h5, h6, h7, h8, h9, h10⟩ := h
  exact ⟨c, k, i, f, a, cell, h1, h2, h3, h4, h5, h6, h7, h8, h9, fun z => h10 (hAB _ z)⟩
theorem vx_L.word {C n d : String} {A : Nat → Prop} {s : State} {args : Array Value} (h : vx_L C n d A s s.heap) : (Cond.laysStatic C n d).before args s = true := by
  obtain ⟨c, k, i, f, a, cell, h1, h2, h3, h4, h5, h6, h7, h8, h9, -⟩ := h
  show (Cond.laysStatic C n d).holds args s none s [] = true
  exact Cond.laysStatic_of h1 h2 h3 h4 h5 h6 h7 h8 h9
/-- .. and what it holds: null or some reference -/
def vx_Zq (C n d : String) (A : Nat → Prop) (U : State) (H : Heap) : Prop := va_Zq C n d A U H ∧ vx_L C n d A U H
theorem vx_Zq.moved {C n d : String} {A : Nat → Prop} {u U : State} {H : Heap} (hvm : u.vm.Alike U.vm) (h : vx_Zq C n d A u H) : vx_Zq C n d A U H := ⟨va_Zq.moved hvm h.1, vx_L.moved hvm h.2⟩
theorem vx_Zq.kept {C n d : String} {A : Nat → Prop} {U : State} {H H1 : Heap} (h : vx_Zq C n d A U H) (hq : ∀ a : Nat, a < H.size → ¬ A a → H1[a]? = H[a]?) : vx_Zq C n d A U H1 := ⟨va_Zq.kept h.1 hq, vx_L.kept h.2 hq⟩
theorem vx_Zq.narrow {C n d : String} {A B : Nat → Prop} {U : State} {H : Heap} (h : vx_Zq C n d A U H) (hAB : ∀ q, B q → A q) : vx_Zq C n d B U H := ⟨va_Zq.narrow h.1 hAB, vx_L.narrow h.2 hAB⟩
theorem vx_Zqof {args : Array Value} {s : State} {C n d : String} {A : Nat → Prop} (hl : (Cond.laysStatic C n d).before args s = true) (hini : (Cond.initialized C).before args s = true) (h : (Cond.isRef (.static C n d)).before args s = true) (hA : ∀ a : Nat, a < s.heap.size → ¬ A a) : vx_Zq C n d A s s.heap := by
  refine ⟨va_Zqof hl hini h hA, ?_⟩
  obtain ⟨c, k, i, f, a, cell, h1, h2, h3, h4, h5, h6, h7, h8, h9⟩ := Cond.laysStatic_spec hl
  exact ⟨c, k, i, f, a, cell, h1, h2, h3, h4, h5, h6, h7, h8, h9, hA a (Array.getElem?_eq_some_iff.mp h5).1⟩
theorem vx_isRef {C n d : String} {v : Value} {A : Nat → Prop} {s : State} {args : Array Value} (h : va_Z C n d v A s s.heap) (hv : v.isRef = true) : (Cond.isRef (.static C n d)).before args s = true := by
  obtain ⟨cf, kf, fi, f, a, cell, h1, h2, h3, h4, h5, h6, h7, -⟩ := h
  have he : (Term.static C n d).eval args s none [] s = some v := by
    simp [Term.eval, State.fieldNamed?, h1, h2, h4, h5, h6, h7]
  simp only [Cond.before, Cond.holds, Cond.value, he]
  cases v <;> simp_all [Value.isRef]
theorem vx_isRefq {C n d : String} {A : Nat → Prop} {s : State} {args : Array Value} (h : va_Zq C n d A s s.heap) : (Cond.isRef (.static C n d)).before args s = true := by
  rcases h with h | ⟨t, h⟩
  · exact vx_isRef h rfl
  · exact vx_isRef h rfl
/-- the same frame, seen from here: as if the method were called anew in this heap -/
theorem vx_rebase {T : State} (X : Stand p l e R s m args below meth c T locs cells slots) {R' : Room} (hf : R'.frames ≤ R.frames) (hl : R'.locals ≤ R.locals) (hc : cells + R'.cells ≤ R.cells) (hs : slots + R'.slots ≤ R.slots) :
    Stand p l e R' ((T.setVm s.vm).setFrames (.invoking m args :: below)) m args below meth c T [] 0 0 := by
  have htop : (T.setVm s.vm).topJava?.isSome := X.here.top
  have hF : ((T.setVm s.vm).setFrames (.invoking m args :: below)).frames = .invoking m args :: below := State.frames_setFrames _ (State.cur_lt_of_top htop)
  obtain ⟨g₀, hg0⟩ := Option.isSome_iff_exists.mp htop
  obtain ⟨r, hr⟩ := State.topJava?_eq_some.mp hg0
  have hl9 : e.platform.stackLimits (T.setVm s.vm).me = e.platform.stackLimits s.me := X.limits
  have hb9 : (T.setVm s.vm).me.stackBytes = s.me.stackBytes := X.bytes
  refine ⟨X.admits, X.cas, X.clock, hF, ?_, X.hears, X.method, X.code, X.here, X.tail, X.warmed, ?_, ?_, ?_⟩
  · have h := X.room
    have hU : ((T.setVm s.vm).setFrames (.invoking m args :: below)).localsInUse = s.localsInUse := by
      rw [State.localsInUse_invoking hF (meth := meth) (c := c) X.method X.code, State.localsInUse_invoking X.frames X.method X.code]
    simp only [State.hasRoom, Bool.and_eq_true, decide_eq_true_eq] at h ⊢
    obtain ⟨⟨⟨⟨h1, h2, h3, h4, h5, h6⟩, h7⟩, h8⟩, h9⟩ := h
    rw [X.frames, List.length_cons] at h2 h3
    have q1 := X.heapSize
    have q2 := X.used
    simp only [hF, hU, List.length_cons, State.stackLimits_setFrames, State.stackBytes_setFrames, hl9, hb9]
    refine ⟨⟨⟨⟨by omega, by omega, by omega, by omega, by omega, h6⟩, ?_⟩, ?_⟩, X.book⟩
    · show T.heap.size + R'.cells ≤ e.platform.maxCells
      omega
    · show T.slotsUsed + R'.slots ≤ e.platform.maxSlots
      omega
  · rw [State.stackLimits_setFrames]; rfl
  · rw [State.stackBytes_setFrames]; rfl
  · refine ⟨?_, Nat.le_refl _, Nat.le_refl _, ?_, ?_, fun a c9 h9 => ⟨c9, h9, rfl, rfl, fun _ _ => rfl⟩⟩
    · obtain ⟨t, ht, -⟩ := State.frames_cons hr
      show T.setVm s.vm = { ((T.setVm s.vm).setFrames (.invoking m args :: below)).setFrames (T.setVm s.vm).frames with heap := T.heap, slotsUsed := T.slotsUsed }
      rw [State.setFrames_setFrames, State.setFrames_self ht]
      rfl
    · show T.slotsUsed = T.slotsUsed + ((T.heap.toList.drop T.heap.size).map (·.slots.size)).sum
      rw [List.drop_eq_nil_of_le (Nat.le_of_eq Array.length_toList)]
      rfl
    · show ((T.heap.toList.drop T.heap.size).map (·.slots.size)).sum ≤ 0
      rw [List.drop_eq_nil_of_le (Nat.le_of_eq Array.length_toList)]
      exact Nat.le_refl _
/-- 'throw new E()': new; dup; invokespecial; athrow -/
theorem vx_throw0 {cc : ByteArray} {pc : Nat} (hexec : p.tables.exec = Jvm.exec) (hb : c.code = cc) (hl : l.stackTraces = false) {own cls : String} {names : List String} {ik ic mc ms : Nat} {A : Nat → Prop}
    (hown : s.vm.findClass own = some m.cls) (hcls : Bundle.fit cls = true) (hnames : ∀ n ∈ names, Bundle.fit n = true)
    (hk : (Cond.classLink own ik cls).before args s = true) (hini : (Cond.initialized cls).before args s = true) (hat : ∀ w ∈ vx_at0 own ic cls names, w.before args s = true)
    (hgood : ∀ w ∈ Cond.classLink own ik cls :: Cond.initialized cls :: vx_at0 own ic cls names, vx_ot w = true)
    (hU : vx_Zq Bundle.tN "UNASSIGNED_STACK" Bundle.steD A s s.heap) (hN : vx_Zq Bundle.tN "SUPPRESSED_SENTINEL" Bundle.listD A s s.heap) (hS : va_S A s.heap H locs) (hsize : ls.size = c.maxLocals)
    (d0 : decode cc pc = .ok (.new ik, 3)) (d3 : decode cc (pc + 3) = .ok (.dup, 1)) (d4 : decode cc (pc + 4) = .ok (.invokespecial ic, 3)) (d7 : decode cc (pc + 7) = .ok (.athrow, 1))
    (hout : ∀ x ∈ c.exceptionTable.toList, covers x (pc + 7) = false)
    (hRframes : names.length + 3 < R.frames) (hRlocals : (rest.map fun v => v.category).sum + (13 * (names.length + 1) + 42) ≤ R.locals) (hRcells : cells + 1 ≤ R.cells) (hRslots : slots + 6 ≤ R.slots) (hlocks : meth.locks = false)
    (hx : ∀ t : State, s.vm.Alike t.vm → H.size ≤ t.heap.size → (∀ q : Nat, q < H.size → t.heap[q]? = H[q]?) → XC cls s t)
    (hf : ∀ z ∈ locs, free z.base) (hc : cells + 1 ≤ mc) (hs : slots + 6 ≤ ms) :
    W p l e R s m args below meth c H locs cells slots (vx_MQ below Qc XC args s mc ms free) (F0 m pc ls rest) := by
  intro T hT X
  have htr : e.platform.stackTraces = false := (show e.platform.stackTraces = l.stackTraces by rw [X.admits.platform]).trans hl
  have Y := vx_rebase X (R' := { frames := R.frames, locals := R.locals, cells := 1, slots := 6 }) (Nat.le_refl _) (Nat.le_refl _) hRcells hRslots
  obtain ⟨s', hA⟩ : ∃ z, z = (T.setVm s.vm).setFrames (.invoking m args :: below) := ⟨_, rfl⟩
  rw [← hA] at Y
  have hvm : s'.vm = s.vm := by rw [hA]; rfl
  have hhp : s'.heap = H := by rw [hA]; exact hT
  have hW0 : s.WarmedH s'.vm := by rw [hvm]; exact State.WarmedH.refl s
  have hat' : ∀ w ∈ vx_at0 own ic cls names, w.before args s' = true := fun w hw => vx_ot_at hW0 hvm.symm (hgood w (List.mem_cons_of_mem _ (List.mem_cons_of_mem _ hw))) (hat w hw)
  have hk' : (Cond.classLink own ik cls).before args s' = true := vx_ot_at hW0 hvm.symm (hgood _ List.mem_cons_self) hk
  have hini' : (Cond.initialized cls).before args s' = true := vx_ot_at hW0 hvm.symm (hgood _ (List.mem_cons_of_mem _ List.mem_cons_self)) hini
  have hU' : vx_Zq Bundle.tN "UNASSIGNED_STACK" Bundle.steD A s' s'.heap := by rw [hhp]; exact vx_Zq.moved hW0.alike (hU.kept hS.2.1)
  have hN' : vx_Zq Bundle.tN "SUPPRESSED_SENTINEL" Bundle.listD A s' s'.heap := by rw [hhp]; exact vx_Zq.moved hW0.alike (hN.kept hS.2.1)
  have h : ∀ w ∈ Bundle.ownAtoms0 own ic cls names, w.before args s' = true := vx_own hat' (vx_isRefq hU'.1) (vx_isRefq hN'.1) hU'.2.word hN'.2.word
  have hown' : s'.vm.findClass own = some m.cls := by rw [hvm]; exact hown
  have hins : (Cond.instantiable cls 6).before args s' = true := h _ (by simp [Bundle.ownAtoms0])
  obtain ⟨vm₁, cX, kX, hfX, hkX, -, -, X₁, st1⟩ := Y.newCold hexec (own := own) (C := cls) (index := ik) (n := 6) hown' hk' hins hini'
    (g := F0 m pc ls rest) rfl (by rw [hb]; exact d0) (Nat.le_refl _) (Nat.le_refl _)
  generalize hT1 : (T.setVm vm₁).pushCell { cls := cX, slots := kX.instanceTypes.map defaultValue, vm := .none } = T1 at X₁ st1
  have hcat : (Value.ref T.heap.size).category = 1 := rfl
  have hcellA : T1.heap[T.heap.size]? = some (freshCell cX kX) := by rw [← hT1]; exact State.heap_pushCell_size _ _
  have d3' : decode c.code (pc + 3) = .ok (.dup, 1) := by rw [hb]; exact d3
  obtain ⟨U, hsteps, hrun, hend, hW, hsame, ce, hce, hO⟩ := X₁.ctorThrow0 hexec htr (own := own) (cls := cls) (names := names) (ic := ic) hown' hcls hnames h (fun x hx => nomatch hx) hfX hkX hcellA (by rw [hhp, hT]; exact Nat.le_refl _)
    (g := { method := m, pc := pc + 4, locals := ls, stack := .ref T.heap.size :: .ref T.heap.size :: rest, locked := none }) rfl hsize rfl rfl (rest := rest) rfl
    (by rw [hb]; exact d4) (by rw [hb]; exact d7) hout hRframes (by simp only [List.map_cons, List.sum_cons, hcat]; omega) hlocks
  obtain ⟨f1, f2⟩ := vx_frame hsame
  rw [hhp] at f1 f2
  have hWs : s.WarmedH U.vm := State.WarmedH.trans hW0 hW
  have hcl : s.vm.findClass cls = some ce.cls := by
    have h9 := hO.cls
    rw [hvm] at h9
    exact h9
  have hall : s.sameButNew ({ U with vm := s.vm } : State) locs mc ms := by
    subst hA
    obtain ⟨e1, e2⟩ := hsame
    rw [State.setFrames_setFrames] at e1
    have h2 : (T.setVm s.vm).sameButNew ({ U with vm := s.vm } : State) [] (0 + 1) (0 + 6) := ⟨e1, e2⟩
    have h3 := X.same.trans h2
    rw [List.append_nil] at h3
    exact h3.mono hc hs
  refine ⟨U, ?_, .threw T.heap.size, hrun, hend, Or.inr ⟨T.heap.size, rfl, cls, ce, locs, hx U hWs.alike f1 (fun q hq => f2 q hq (fun z hz => nomatch hz)), hce, hO.vm, hcl, hWs, hall, hf⟩⟩
  refine st1 _ ?_
  show Steps p.tables e below (T1.setTop { method := m, pc := pc + 3, locals := ls, stack := .ref T.heap.size :: rest, locked := none }) _
  jvm_step X₁.here [X₁.here.top, hexec, d3', Value.category]
  exact hsteps
/-- 'throw new E("text")': new; dup; ldc; invokespecial; athrow -/
theorem vx_throwS {cc : ByteArray} {pc : Nat} (hexec : p.tables.exec = Jvm.exec) (hb : c.code = cc) (hl : l.stackTraces = false) {own cls text : String} {names : List String} {ik is ic mc ms sa : Nat} {A : Nat → Prop}
    (hown : s.vm.findClass own = some m.cls) (hcls : Bundle.fit cls = true) (hnames : ∀ n ∈ names, Bundle.fit n = true)
    (hk : (Cond.classLink own ik cls).before args s = true) (hini : (Cond.initialized cls).before args s = true) (hstr : vk_R own is text sa s) (hat : ∀ w ∈ vx_atS own ic cls names, w.before args s = true)
    (hgood : ∀ w ∈ Cond.classLink own ik cls :: Cond.initialized cls :: vx_atS own ic cls names, vx_ot w = true)
    (hU : vx_Zq Bundle.tN "UNASSIGNED_STACK" Bundle.steD A s s.heap) (hN : vx_Zq Bundle.tN "SUPPRESSED_SENTINEL" Bundle.listD A s s.heap) (hS : va_S A s.heap H locs) (hsize : ls.size = c.maxLocals)
    (d0 : decode cc pc = .ok (.new ik, 3)) (d3 : decode cc (pc + 3) = .ok (.dup, 1)) (d4 : decode cc (pc + 4) = .ok (.ldc is, 2)) (d6 : decode cc (pc + 6) = .ok (.invokespecial ic, 3)) (d9 : decode cc (pc + 9) = .ok (.athrow, 1))
    (hout : ∀ x ∈ c.exceptionTable.toList, covers x (pc + 9) = false)
    (hRframes : names.length + 3 < R.frames) (hRlocals : (rest.map fun v => v.category).sum + (13 * (names.length + 1) + 43) ≤ R.locals) (hRcells : cells + 1 ≤ R.cells) (hRslots : slots + 6 ≤ R.slots) (hlocks : meth.locks = false)
    (hx : ∀ t : State, s.vm.Alike t.vm → H.size ≤ t.heap.size → (∀ q : Nat, q < H.size → t.heap[q]? = H[q]?) → XC cls s t)
    (hf : ∀ z ∈ locs, free z.base) (hc : cells + 1 ≤ mc) (hs : slots + 6 ≤ ms) :
    W p l e R s m args below meth c H locs cells slots (vx_MQ below Qc XC args s mc ms free) (F0 m pc ls rest) := by
  intro T hT X
  have htr : e.platform.stackTraces = false := (show e.platform.stackTraces = l.stackTraces by rw [X.admits.platform]).trans hl
  have Y := vx_rebase X (R' := { frames := R.frames, locals := R.locals, cells := 1, slots := 6 }) (Nat.le_refl _) (Nat.le_refl _) hRcells hRslots
  obtain ⟨s', hA⟩ : ∃ z, z = (T.setVm s.vm).setFrames (.invoking m args :: below) := ⟨_, rfl⟩
  rw [← hA] at Y
  have hvm : s'.vm = s.vm := by rw [hA]; rfl
  have hhp : s'.heap = H := by rw [hA]; exact hT
  have hW0 : s.WarmedH s'.vm := by rw [hvm]; exact State.WarmedH.refl s
  have hat' : ∀ w ∈ vx_atS own ic cls names, w.before args s' = true := fun w hw => vx_ot_at hW0 hvm.symm (hgood w (List.mem_cons_of_mem _ (List.mem_cons_of_mem _ hw))) (hat w hw)
  have hk' : (Cond.classLink own ik cls).before args s' = true := vx_ot_at hW0 hvm.symm (hgood _ List.mem_cons_self) hk
  have hini' : (Cond.initialized cls).before args s' = true := vx_ot_at hW0 hvm.symm (hgood _ (List.mem_cons_of_mem _ List.mem_cons_self)) hini
  have hU' : vx_Zq Bundle.tN "UNASSIGNED_STACK" Bundle.steD A s' s'.heap := by rw [hhp]; exact vx_Zq.moved hW0.alike (hU.kept hS.2.1)
  have hN' : vx_Zq Bundle.tN "SUPPRESSED_SENTINEL" Bundle.listD A s' s'.heap := by rw [hhp]; exact vx_Zq.moved hW0.alike (hN.kept hS.2.1)
  have h : ∀ w ∈ Bundle.ownAtoms own ic cls names, w.before args s' = true := vx_own hat' (vx_isRefq hU'.1) (vx_isRefq hN'.1) hU'.2.word hN'.2.word
  have hown' : s'.vm.findClass own = some m.cls := by rw [hvm]; exact hown
  have hins : (Cond.instantiable cls 6).before args s' = true := h _ (by simp [Bundle.ownAtoms])
  obtain ⟨vm₁, cX, kX, hfX, hkX, -, -, X₁, st1⟩ := Y.newCold hexec (own := own) (C := cls) (index := ik) (n := 6) hown' hk' hins hini'
    (g := F0 m pc ls rest) rfl (by rw [hb]; exact d0) (Nat.le_refl _) (Nat.le_refl _)
  generalize hT1 : (T.setVm vm₁).pushCell { cls := cX, slots := kX.instanceTypes.map defaultValue, vm := .none } = T1 at X₁ st1
  have hcat : (Value.ref T.heap.size).category = 1 := rfl
  have hcellA : T1.heap[T.heap.size]? = some (freshCell cX kX) := by rw [← hT1]; exact State.heap_pushCell_size _ _
  have d3' : decode c.code (pc + 3) = .ok (.dup, 1) := by rw [hb]; exact d3
  have d4' : decode c.code (pc + 4) = .ok (.ldc is, 2) := by rw [hb]; exact d4
  have hstr' : vk_R own is text sa s' := vk_R.warm hW0 hstr
  obtain ⟨U, hsteps, hrun, hend, hW, hsame, ce, hce, hO⟩ := X₁.ctorThrowS hexec htr (own := own) (cls := cls) (names := names) (ic := ic) hown' hcls hnames h (fun x hx => nomatch hx) hfX hkX hcellA (by rw [hhp, hT]; exact Nat.le_refl _) (msg := .ref sa) rfl
    (g := { method := m, pc := pc + 6, locals := ls, stack := .ref sa :: .ref T.heap.size :: .ref T.heap.size :: rest, locked := none }) rfl hsize rfl rfl (rest := rest) rfl
    (by rw [hb]; exact d6) (by rw [hb]; exact d9) hout hRframes (by simp only [List.map_cons, List.sum_cons, hcat]; omega) hlocks
  obtain ⟨f1, f2⟩ := vx_frame hsame
  rw [hhp] at f1 f2
  have hWs : s.WarmedH U.vm := State.WarmedH.trans hW0 hW
  have hcl : s.vm.findClass cls = some ce.cls := by
    have h9 := hO.cls
    rw [hvm] at h9
    exact h9
  have hall : s.sameButNew ({ U with vm := s.vm } : State) locs mc ms := by
    subst hA
    obtain ⟨e1, e2⟩ := hsame
    rw [State.setFrames_setFrames] at e1
    have h2 : (T.setVm s.vm).sameButNew ({ U with vm := s.vm } : State) [] (0 + 1) (0 + 6) := ⟨e1, e2⟩
    have h3 := X.same.trans h2
    rw [List.append_nil] at h3
    exact h3.mono hc hs
  refine ⟨U, ?_, .threw T.heap.size, hrun, hend, Or.inr ⟨T.heap.size, rfl, cls, ce, locs, hx U hWs.alike f1 (fun q hq => f2 q hq (fun z hz => nomatch hz)), hce, hO.vm, hcl, hWs, hall, hf⟩⟩
  refine st1 _ ?_
  show Steps p.tables e below (T1.setTop { method := m, pc := pc + 3, locals := ls, stack := .ref T.heap.size :: rest, locked := none }) _
  jvm_step X₁.here [X₁.here.top, hexec, d3', Value.category]
  exact X₁.ldcString hexec (own := own) (text := text) (index := is) (a := sa) hown' hstr'.1 hstr'.2
    (g := { method := m, pc := pc + 4, locals := ls, stack := .ref T.heap.size :: .ref T.heap.size :: rest, locked := none }) rfl d4' _ hsteps
/-- 'throw new E("text")', the text by a wide index -/
theorem vx_throwSW {cc : ByteArray} {pc : Nat} (hexec : p.tables.exec = Jvm.exec) (hb : c.code = cc) (hl : l.stackTraces = false) {own cls text : String} {names : List String} {ik is ic mc ms sa : Nat} {A : Nat → Prop}
    (hown : s.vm.findClass own = some m.cls) (hcls : Bundle.fit cls = true) (hnames : ∀ n ∈ names, Bundle.fit n = true)
    (hk : (Cond.classLink own ik cls).before args s = true) (hini : (Cond.initialized cls).before args s = true) (hstr : vk_R own is text sa s) (hat : ∀ w ∈ vx_atS own ic cls names, w.before args s = true)
    (hgood : ∀ w ∈ Cond.classLink own ik cls :: Cond.initialized cls :: vx_atS own ic cls names, vx_ot w = true)
    (hU : vx_Zq Bundle.tN "UNASSIGNED_STACK" Bundle.steD A s s.heap) (hN : vx_Zq Bundle.tN "SUPPRESSED_SENTINEL" Bundle.listD A s s.heap) (hS : va_S A s.heap H locs) (hsize : ls.size = c.maxLocals)
    (d0 : decode cc pc = .ok (.new ik, 3)) (d3 : decode cc (pc + 3) = .ok (.dup, 1)) (d4 : decode cc (pc + 4) = .ok (.ldc_w is, 3)) (d7 : decode cc (pc + 7) = .ok (.invokespecial ic, 3)) (d10 : decode cc (pc + 10) = .ok (.athrow, 1))
    (hout : ∀ x ∈ c.exceptionTable.toList, covers x (pc + 10) = false)
    (hRframes : names.length + 3 < R.frames) (hRlocals : (rest.map fun v => v.category).sum + (13 * (names.length + 1) + 43) ≤ R.locals) (hRcells : cells + 1 ≤ R.cells) (hRslots : slots + 6 ≤ R.slots) (hlocks : meth.locks = false)
    (hx : ∀ t : State, s.vm.Alike t.vm → H.size ≤ t.heap.size → (∀ q : Nat, q < H.size → t.heap[q]? = H[q]?) → XC cls s t)
    (hf : ∀ z ∈ locs, free z.base) (hc : cells + 1 ≤ mc) (hs : slots + 6 ≤ ms) :
    W p l e R s m args below meth c H locs cells slots (vx_MQ below Qc XC args s mc ms free) (F0 m pc ls rest) := by
  intro T hT X
  have htr : e.platform.stackTraces = false := (show e.platform.stackTraces = l.stackTraces by rw [X.admits.platform]).trans hl
  have Y := vx_rebase X (R' := { frames := R.frames, locals := R.locals, cells := 1, slots := 6 }) (Nat.le_refl _) (Nat.le_refl _) hRcells hRslots
  obtain ⟨s', hA⟩ : ∃ z, z = (T.setVm s.vm).setFrames (.invoking m args :: below) := ⟨_, rfl⟩
  rw [← hA] at Y
  have hvm : s'.vm = s.vm := by rw [hA]; rfl
  have hhp : s'.heap = H := by rw [hA]; exact hT
  have hW0 : s.WarmedH s'.vm := by rw [hvm]; exact State.WarmedH.refl s
  have hat' : ∀ w ∈ vx_atS own ic cls names, w.before args s' = true := fun w hw => vx_ot_at hW0 hvm.symm (hgood w (List.mem_cons_of_mem _ (List.mem_cons_of_mem _ hw))) (hat w hw)
  have hk' : (Cond.classLink own ik cls).before args s' = true := vx_ot_at hW0 hvm.symm (hgood _ List.mem_cons_self) hk
  have hini' : (Cond.initialized cls).before args s' = true := vx_ot_at hW0 hvm.symm (hgood _ (List.mem_cons_of_mem _ List.mem_cons_self)) hini
  have hU' : vx_Zq Bundle.tN "UNASSIGNED_STACK" Bundle.steD A s' s'.heap := by rw [hhp]; exact vx_Zq.moved hW0.alike (hU.kept hS.2.1)
  have hN' : vx_Zq Bundle.tN "SUPPRESSED_SENTINEL" Bundle.listD A s' s'.heap := by rw [hhp]; exact vx_Zq.moved hW0.alike (hN.kept hS.2.1)
  have h : ∀ w ∈ Bundle.ownAtoms own ic cls names, w.before args s' = true := vx_own hat' (vx_isRefq hU'.1) (vx_isRefq hN'.1) hU'.2.word hN'.2.word
  have hown' : s'.vm.findClass own = some m.cls := by rw [hvm]; exact hown
  have hins : (Cond.instantiable cls 6).before args s' = true := h _ (by simp [Bundle.ownAtoms])
  obtain ⟨vm₁, cX, kX, hfX, hkX, -, -, X₁, st1⟩ := Y.newCold hexec (own := own) (C := cls) (index := ik) (n := 6) hown' hk' hins hini'
    (g := F0 m pc ls rest) rfl (by rw [hb]; exact d0) (Nat.le_refl _) (Nat.le_refl _)
  generalize hT1 : (T.setVm vm₁).pushCell { cls := cX, slots := kX.instanceTypes.map defaultValue, vm := .none } = T1 at X₁ st1
  have hcat : (Value.ref T.heap.size).category = 1 := rfl
  have hcellA : T1.heap[T.heap.size]? = some (freshCell cX kX) := by rw [← hT1]; exact State.heap_pushCell_size _ _
  have d3' : decode c.code (pc + 3) = .ok (.dup, 1) := by rw [hb]; exact d3
  have d4' : decode c.code (pc + 4) = .ok (.ldc_w is, 3) := by rw [hb]; exact d4
  have hstr' : vk_R own is text sa s' := vk_R.warm hW0 hstr
  obtain ⟨U, hsteps, hrun, hend, hW, hsame, ce, hce, hO⟩ := X₁.ctorThrowS hexec htr (own := own) (cls := cls) (names := names) (ic := ic) hown' hcls hnames h (fun x hx => nomatch hx) hfX hkX hcellA (by rw [hhp, hT]; exact Nat.le_refl _) (msg := .ref sa) rfl
    (g := { method := m, pc := pc + 7, locals := ls, stack := .ref sa :: .ref T.heap.size :: .ref T.heap.size :: rest, locked := none }) rfl hsize rfl rfl (rest := rest) rfl
    (by rw [hb]; exact d7) (by rw [hb]; exact d10) hout hRframes (by simp only [List.map_cons, List.sum_cons, hcat]; omega) hlocks
  obtain ⟨f1, f2⟩ := vx_frame hsame
  rw [hhp] at f1 f2
  have hWs : s.WarmedH U.vm := State.WarmedH.trans hW0 hW
  have hcl : s.vm.findClass cls = some ce.cls := by
    have h9 := hO.cls
    rw [hvm] at h9
    exact h9
  have hall : s.sameButNew ({ U with vm := s.vm } : State) locs mc ms := by
    subst hA
    obtain ⟨e1, e2⟩ := hsame
    rw [State.setFrames_setFrames] at e1
    have h2 : (T.setVm s.vm).sameButNew ({ U with vm := s.vm } : State) [] (0 + 1) (0 + 6) := ⟨e1, e2⟩
    have h3 := X.same.trans h2
    rw [List.append_nil] at h3
    exact h3.mono hc hs
  refine ⟨U, ?_, .threw T.heap.size, hrun, hend, Or.inr ⟨T.heap.size, rfl, cls, ce, locs, hx U hWs.alike f1 (fun q hq => f2 q hq (fun z hz => nomatch hz)), hce, hO.vm, hcl, hWs, hall, hf⟩⟩
  refine st1 _ ?_
  show Steps p.tables e below (T1.setTop { method := m, pc := pc + 3, locals := ls, stack := .ref T.heap.size :: rest, locked := none }) _
  jvm_step X₁.here [X₁.here.top, hexec, d3', Value.category]
  exact X₁.ldcStringW hexec (own := own) (text := text) (index := is) (a := sa) hown' hstr'.1 hstr'.2
    (g := { method := m, pc := pc + 4, locals := ls, stack := .ref T.heap.size :: .ref T.heap.size :: rest, locked := none }) rfl d4' _ hsteps
end Ends
section Bodies
variable {l : Launch}
theorem vx_ofW {y : MethodName} {ws ws' : List Cond} {rm : Room} {Pc : Array Value → State → Prop} {Qc : Array Value → State → Outcome → State → Prop} {XC : String → State → State → Prop} {mc ms : Nat} {free : Addr → Prop} {cc : ByteArray} {maxL : Nat} {ret : Option FieldType}
    (hy : plainName y.cls = true) (hw : ws = Cond.code y cc maxL ret :: ws')
    (body : ∀ p e s m args below meth c s₁, BodyLoose p l y (headSpec ws rm) cc maxL ret e s m args below meth c s₁ → c.maxLocals = maxL → (∀ x ∈ c.exceptionTable.toList, False) → Pc args s →
      W p l e (headSpec ws rm).room s m args below meth c s.heap [] 0 0 (vx_MQ below Qc XC args s mc ms free) (entryFrame m args maxL)) : vx_Met l y ws rm Pc Qc XC mc ms free := by
  refine MetFree.of_bodyS (code := cc) (maxLocals := maxL) (ret := ret) hy ?_ ?_
  · intro args s m h hn
    obtain ⟨meth, c, h1, h2, h3, h4, h5, h6, -, -⟩ := Cond.code_spec hn (atoms_spec (ws := ws) h _ (by rw [hw]; exact List.mem_cons_self))
    exact ⟨meth, c, h1, h2, h3, h4, h5, h6⟩
  · intro p e s m args below meth c s₁ B hml hP _
    have hh0 : s₁.heap = s.heap := by rw [B.state]; rfl
    have ht : ∀ x ∈ c.exceptionTable.toList, False := by
      obtain ⟨meth9, c9, h1, h2, -, -, -, -, h7, -⟩ := Cond.code_spec B.named (atoms_spec (ws := ws) B.pre _ (by rw [hw]; exact List.mem_cons_self))
      cases Option.some.inj (h1.symm.trans B.method)
      cases Option.some.inj (h2.symm.trans (Stand.of_body B).code)
      intro x hx
      rw [Array.isEmpty_iff.mp h7] at hx
      cases hx
    obtain ⟨t, a1, o, b1, b2, b3⟩ := body p e s m args below meth c s₁ B hml ht hP s₁ hh0 (Stand.of_body B)
    exact ⟨t, o, a1, b1, b2, b3⟩
/-- the table of a body with handlers -/
theorem vx_table {p : Program} {x y : MethodName} {S : Spec} {cc bytes : ByteArray} {maxL maxL' : Nat} {ret ret' : Option FieldType} {e : Env} {s s₁ : State} {m : MethodId} {args : Array Value} {below : List Frame} {meth : Method} {c : Code} {hh : List (Nat × Nat × Nat × Nat)}
    (B : BodyLoose p l y S cc maxL ret e s m args below meth c s₁) (h : (Cond.codeWith y bytes maxL' ret' hh).before args s = true) : c.exceptionTable.toList = tableOf hh := by
  obtain ⟨m9, meth9, c9, hn9, h1, h2, -, -, h6, -⟩ := Cond.codeWith_spec h
  cases Option.some.inj (hn9.symm.trans B.named)
  cases Option.some.inj (h1.symm.trans B.method)
  cases Option.some.inj (h2.symm.trans (Stand.of_body B).code)
  rw [← h6, table_eq]
end Bodies
end VXA
/-! ===== END ===== -/
/-! ===== BEGIN a static call of a method with an exception table ===== -/
section VXS
variable {p : Program} {l : Launch} {e : Env} {R : Room} {s : State} {m : MethodId} {args : Array Value} {below : List Frame} {meth : Method} {c : Code} {T : State} {H : Heap} {locs : List Loc} {cells slots : Nat}
abbrev vx_CSW (R : Room) (s : State) (args : Array Value) (own : String) (index : Nat) (y : MethodName) (bytes : ByteArray) (maxL : Nat) (ret : Option FieldType) (hh : List (Nat × Nat × Nat × Nat)) (ws : List Cond) (rm : Room) (mc ms n : Nat) : Prop :=
  (rm.cells = mc ∧ rm.slots = ms ∧ rm.frames + 1 ≤ R.frames ∧ 8 + (maxL + 11) + rm.locals ≤ R.locals ∧ (∀ w ∈ ws, ∀ (a' : Array Value) (U : State), s.WarmedH U.vm → w.before a' U = true) ∧ Cond.codeWith y bytes maxL ret hh ∈ ws) ∧
  (Cond.codeWith y bytes maxL ret hh).before args s = true ∧ (Cond.initialized y.cls).before args s = true ∧ (y.cls ≠ "java/lang/invoke/MethodHandle" ∧ y.cls ≠ "java/lang/invoke/VarHandle") ∧
  (∀ sig, parseMethodDescriptor y.desc = some sig → n = sig.parameters.length) ∧ (Cond.methodLink own index y).before args s = true ∧ (Cond.static y).before args s = true
theorem vx_cwSW {own : String} {index maxL mc ms : Nat} {y : MethodName} {bytes : ByteArray} {ret : Option FieldType} {hh : List (Nat × Nat × Nat × Nat)} {Ts ws ws' : List Cond} {rm : Room} (n : Nat) (ht : ∀ w ∈ Ts, w.before args s = true) (hT : GoodIn Ts (va_wsS own index y ws)) (hw : ws = Cond.codeWith y bytes maxL ret hh :: ws') (hrc : rm.cells = mc) (hrs : rm.slots = ms)
    (hd : y.cls ≠ "java/lang/invoke/MethodHandle" ∧ y.cls ≠ "java/lang/invoke/VarHandle" ∧ (parseMethodDescriptor y.desc).map (fun d => d.parameters.length) = some n) (hR : rm.frames + 1 ≤ R.frames ∧ 8 + (maxL + 11) + rm.locals ≤ R.locals) :
    vx_CSW R s args own index y bytes maxL ret hh ws rm mc ms n := by
  have ok : ∀ w ∈ va_wsS own index y ws, w.before args s = true := fun w h => ht w (hT w h).1
  have hG : GoodIn Ts ws := fun w h => hT w (by unfold va_wsS; exact List.mem_append_right _ h)
  have hc : Cond.codeWith y bytes maxL ret hh ∈ ws := by rw [hw]; exact List.mem_cons_self
  refine ⟨⟨hrc, hrs, hR.1, hR.2, pay_in ht hG, hc⟩, ht _ (hG _ hc).1, ok _ (by simp [va_wsS]), ⟨hd.1, hd.2.1⟩, fun sig h => ?_, ok _ (by simp [va_wsS]), ok _ (by simp [va_wsS])⟩
  have h2 := hd.2.2
  rw [h] at h2
  exact (Option.some.inj h2).symm
theorem vx_callSW (X : Stand p l e R s m args below meth c T locs cells slots) (hexec : p.tables.exec = Jvm.exec) {own : String} {index : Nat} {y : MethodName} {bytes : ByteArray} {maxL : Nat} {ret : Option FieldType} {hh : List (Nat × Nat × Nat × Nat)}
    (hown : s.vm.findClass own = some m.cls) (hlink : (Cond.methodLink own index y).before args s = true) (hstat : (Cond.static y).before args s = true) (hinit : (Cond.initialized y.cls).before args s = true)
    (hcode : (Cond.codeWith y bytes maxL ret hh).before args s = true) (hy : y.cls ≠ "java/lang/invoke/MethodHandle" ∧ y.cls ≠ "java/lang/invoke/VarHandle")
    {W9 : Nat} {Pre : Pt → Array Value → Prop} {Post : Pt → Array Value → Option Value → Pt → Prop} (hK : Back l R p e below s args y 3 W9 Pre Post)
    {g : JFrame} (hg : g.method = m) (hsize : g.locals.size = c.maxLocals) {argsL rest : List Value} (hlen : ∀ sig, parseMethodDescriptor y.desc = some sig → argsL.length = sig.parameters.length)
    (hstack : g.stack = argsL.reverse ++ rest) (hW : 2 * g.monitorRoom + (rest.map fun v => v.category).sum ≤ W9) (hdg : decode c.code g.pc = .ok (.invokestatic index, 3))
    (hpre : ∀ vm₁, s.WarmedH vm₁ → Pre ⟨T.setVm vm₁, locs, cells, slots⟩ argsL.toArray) :
    ∃ (v : Option Value) (vm₁ : Vm) (B : Pt), s.WarmedH vm₁ ∧ Stand p l e R s m args below meth c B.U B.locs B.cells B.slots ∧ Post ⟨T.setVm vm₁, locs, cells, slots⟩ argsL.toArray v B ∧
      ∀ target, Steps p.tables e below (B.U.setTop { g with pc := g.pc + 3, stack := v.toList ++ rest }) target → Steps p.tables e below (T.setTop g) target := by
  obtain ⟨mk, methM, cM, hnamed, hmethM, -, -, -, -, -, -, hsigM⟩ := Cond.codeWith_spec hcode
  have hstatic : methM.isStatic = true := Cond.static_spec hnamed hmethM hstat
  obtain ⟨kP, hkP, -⟩ := className_of_methodNamed hnamed
  have hinitP : kP.init = .initialized := Cond.initialized_spec (findClass_of_methodNamed hnamed) hkP hinit
  obtain ⟨vm₁, X₁, hstep₁⟩ := X.invokestatic hexec hown hlink hnamed hmethM hstatic hkP hinitP hy (g := g) hg (argsL := argsL) (rest := rest) (hlen _ hsigM) hstack hdg
  obtain ⟨v, B, X', hpost, hsteps⟩ := hK m meth c ⟨T.setVm vm₁, locs, cells, slots⟩ { g with stack := rest } (.invokestatic index) mk argsL.toArray X₁ hg hsize hdg hW (X₁.named hnamed) (hpre vm₁ X₁.warmed)
  exact ⟨v, vm₁, B, X₁.warmed, X', hpost, fun target h => hstep₁ _ fun acts => by rw [doInvoke_state]; exact hsteps.trans h⟩
theorem vx_runSW {y : MethodName} {bytes cc : ByteArray} {maxL nL mc ms n index : Nat} {ret : Option FieldType} {hh : List (Nat × Nat × Nat × Nat)} {ws : List Cond} {rm : Room} {Pc : Array Value → State → Prop} {Qc : Array Value → State → Outcome → State → Prop} {free : Addr → Prop} {Ts : List Cond} {own : String} {As rest : List Value} {g : JFrame}
    (S : CallFix p m c cc nL s args Ts own) (hM : Met l y ws rm Pc Qc mc ms free) (cw : vx_CSW R s args own index y bytes maxL ret hh ws rm mc ms n) (hp : PreS s H Pc As)
    (hg : g.method = m) (hn : As.length = n) (hsize : g.locals.size = nL) (hstack : g.stack = As.reverse ++ rest) (hW : 2 * g.monitorRoom + (rest.map fun v => v.category).sum ≤ 8) (hdg : decode cc g.pc = .ok (.invokestatic index, 3)) (hf : cells + mc ≤ R.cells ∧ slots + ms ≤ R.slots) :
    va_Run p l e R s m args below meth c H locs cells slots mc ms g rest (Qc As.toArray) (free) := by
  obtain ⟨⟨hrc, hrs, hfr, hlo, hws, hcw⟩, hcode, hini, hy, hlen, hl, hstt⟩ := cw
  have hK : Back l R p e below s args y 3 8 (PreOf R mc ms Pc) (PostOf Qc mc ms free) := va_backW (hh := hh) (bytes := bytes) (maxL := maxL) (ret := ret) hM hp.1 hrc hrs hfr hlo hws hcw (fun a' U hW => word_at hW (Or.inl (by first | rfl | simp [Cond.onTables, Cond.keeps, Cond.steady])) hini)
  obtain ⟨hx, hb, hml, ho, -⟩ := S
  intro T hT X
  obtain ⟨v, vm₁, ⟨U', l2, c2, s2⟩, hW₁, X', ⟨g', mk, t, L, e1, e2, hq, h1, hL, h2, h3⟩, st⟩ := vx_callSW X hx (hh := hh) (bytes := bytes) (maxL := maxL) (ret := ret) ho hl hstt hini hcode hy hK hg (hsize.trans hml.symm) (argsL := As) (rest := rest) (fun sig h => hn.trans (hlen sig h)) hstack hW (by rw [hb]; exact hdg)
    (fun vm₁ hW₁ => ⟨hf.1, hf.2, hp.2 (T.setVm vm₁) hT hW₁⟩)
  dsimp only [Pt.U, Pt.locs, Pt.cells, Pt.slots] at X' e1 e2 h1 h2 h3 st
  subst h1; subst h2; subst h3
  exact ⟨v, (T.setVm vm₁).calling g' mk As.toArray, t, U', L, hT, X', hL, e1, e2, hq, st⟩
/-- not caught here, past rows that name other classes: it goes on to the caller -/
theorem vx_outP {p : Program} {l : Launch} {e : Env} {R : Room} {s : State} {m : MethodId} {args : Array Value} {below : List Frame} {meth : Method} {c : Code} {H : Heap} {locs : List Loc} {cells slots : Nat} {free : Addr → Prop} {ls : Array Slot} {rest : List Value} {Qc : Array Value → State → Outcome → State → Prop} {XC : String → State → State → Prop}
    {pc : Nat} {own E : String} {ce : Cell} {q : Addr} {mc ms : Nat} (hown : s.vm.findClass own = some m.cls) (hlocks : meth.locks = false)
    (hpass : ∀ z ∈ c.exceptionTable.toList, covers z pc = false ∨ (z.catchType ≠ 0 ∧ ∃ nm : String, (Cond.classLink own z.catchType nm).before args s = true ∧ va_Nc E nm s)) (hcell : H[q]? = some ce) (hv : ce.vm = .none) (hcl : s.vm.findClass E = some ce.cls)
    (hx : ∀ t : State, t.heap = H → s.vm.Alike t.vm → XC E s t) (hf : ∀ z ∈ locs, free z.base) (hc : cells ≤ mc) (hs : slots ≤ ms) :
    vx_W p l e R s m args below meth c H locs cells slots (vx_MQ below Qc XC args s mc ms free) (F0 m pc ls rest) q := by
  intro T hT X
  have hpl : e.platform.magicAccessors = ({} : Platform).magicAccessors := by rw [X.admits.platform]
  obtain ⟨vm', hW', X', st⟩ := X.outThrough hlocks q (g := F0 m pc ls rest) rfl rfl rfl (cell := ce) (by rw [hT]; exact hcell) (by rw [hv]; rfl)
    (by obtain ⟨k9, h9, -⟩ := Vm.findClass_spec hcl; exact ⟨k9, h9⟩) (fun z hz => by
      rcases hpass z hz with h | ⟨hz0, nm, hl1, hn1⟩
      · exact Or.inl h
      · obtain ⟨c6, hc6, hcl6⟩ := Cond.classLink_spec hown hl1 e.platform hpl
        obtain ⟨a8, b8, h1, h2, h3⟩ := hn1
        cases Option.some.inj (h1.symm.trans hcl)
        cases Option.some.inj (h2.symm.trans hc6)
        exact Or.inr ⟨hz0, _, hcl6, h3⟩)
  obtain ⟨g₀, hfr⟩ := X'.frames_eq
  have hcell9 : ((T.setVm vm').setFrames (.throwing q :: below)).heap[q]? = some ce := by
    show T.heap[q]? = some ce
    rw [hT]; exact hcell
  have hend : Ended ((T.setVm vm').setFrames (.throwing q :: below)) below (.threw q) := State.frames_setFrames _ (State.cur_lt_of_frames hfr)
  refine ⟨(T.setVm vm').setFrames (.throwing q :: below), ?_, .threw q, X'.here.running, hend, Or.inr ⟨q, rfl, E, ce, locs, hx _ hT (X'.ends _).1.alike, hcell9, hv, hcl, (X'.ends _).1, (X'.ends _).2.mono hc hs, hf⟩⟩
  rw [X.pushThrowing_eq]
  exact st
/-- a thing of a world lies in the heap -/
theorem vx_lt {D : va_G} {cl : List vw_C} {ws : va_W} {H1 : Heap} (h : va_P D cl ws H1) {k : Nat} {q : Nat × va_E} (hk : ws[k]? = some q) : q.1 < H1.size := (h k q hk).lt
end VXS
/-! ===== END ===== -/
/-! ===== BEGIN methods with a table of their own: called by a name, returning or throwing ===== -/
section VXH
/-! vx_backW, vx_callVX, vx_callSX, vx_callVW, vx_runVW, vx_runVX, vx_runSX, vx_ofWH follow the same proofs as their sisters above (Free/Laws.lean, Shelf42/LK1.lean); vx_outP calls Shelf42/NT130.lean (outThrough). -/
section
variable {l : Launch} {R : Room} {p : Program} {e : Env} {below : List Frame} {s : State} {sargs : Array Value} {y : MethodName} {len W9 : Nat}
theorem vx_backW {ws : List Cond} {rm : Room} {Pc : Array Value → State → Prop} {Qc : Array Value → State → Outcome → State → Prop} {XC : String → State → State → Prop} {mc ms : Nat} {free : Addr → Prop} {bytes : ByteArray} {maxL : Nat} {ret : Option FieldType} {hh : List (Nat × Nat × Nat × Nat)}
    (hM : vx_Met l y ws rm Pc Qc XC mc ms free) (hblind : FrameBlind Pc) (hrc : rm.cells = mc) (hrs : rm.slots = ms)
    (hframes : rm.frames + 1 ≤ R.frames) (hlocals : W9 + (maxL + 11) + rm.locals ≤ R.locals)
    (hws : ∀ w ∈ ws, ∀ a' U, s.WarmedH U.vm → w.before a' U = true) (hcode : Cond.codeWith y bytes maxL ret hh ∈ ws) (hinit : ∀ a' U, s.WarmedH U.vm → (Cond.initialized y.cls).before a' U = true) :
    vx_Back l R p e below s sargs y len W9 (PreOf R mc ms Pc) (PostOf Qc mc ms free) (vx_Post XC mc ms free) := by
  intro m meth c A g ig mk a X hg hsize hdg hW hn hp
  have h1 : (headSpec ws rm).pre.before a A.U = true := atoms_intro fun w hw => hws w hw _ _ X.warmed
  have h2 : (Cond.codeWith y bytes maxL ret hh).before a A.U = true := hws _ hcode _ _ X.warmed
  have h3 : (Cond.initialized y.cls).before a A.U = true := hinit _ _ X.warmed
  have h4 : A.cells + (headSpec ws rm).room.cells ≤ R.cells := by rw [show (headSpec ws rm).room.cells = mc from hrc]; exact hp.1
  have h5 : A.slots + (headSpec ws rm).room.slots ≤ R.slots := by rw [show (headSpec ws rm).room.slots = ms from hrs]; exact hp.2.1
  have hPc : Pc a (A.U.calling g mk a) := hblind _ _ _ _ hp.2.2
  obtain ⟨U, Ls, c0, s0⟩ := A
  dsimp only [Pt.U, Pt.locs, Pt.cells, Pt.slots] at h1 h2 h3 h4 h5 X hn hPc ⊢
  obtain ⟨m9, methY, cY, hn9, hmY, hcY, -, hlY, -⟩ := Cond.codeWith_spec h2
  cases Option.some.inj (hn9.symm.trans hn)
  obtain ⟨kY, hkY, -⟩ := className_of_methodNamed hn
  have hinitY : kY.init = .initialized := Cond.initialized_spec (findClass_of_methodNamed hn) hkY h3
  have h : At U g.method c below := by rw [hg]; exact X.here
  have hlocals9 : W9 + (maxL + 11) + (headSpec ws rm).room.locals ≤ R.locals := hlocals
  have happ : (headSpec ws rm).appliesLoose y e.platform (U.calling g mk a) = true :=
    Spec.appliesLoose_calling (g := g) h hdg hn hkY hinitY
      (X.room_calling (g := g) (R' := (headSpec ws rm).room) hsize hmY hcY hframes (by rw [hlY]; omega) h4 h5) h1
  obtain ⟨mid, hmid⟩ := h.above
  have hfr : (U.setTop g).frames = (.java g :: mid) ++ below := by rw [State.frames_setTop' g h.top, hmid]; rfl
  obtain ⟨o, s₂, hsteps, -, hend, hq⟩ := Steps.callFree hM p X.admits X.cas X.clock (acts := []) hfr happ hPc trivial
  have hq' : vx_Q Qc XC mc ms free a (U.calling g mk a) o s₂ := hq
  rw [State.frames_setTop' g h.top] at hend
  obtain ⟨g₀, hg0⟩ := Option.isSome_iff_exists.mp h.top
  obtain ⟨r, hr⟩ := State.topJava?_eq_some.mp hg0
  have hr' : (({ U with heap := s₂.heap, slotsUsed := s₂.slotsUsed } : State).setVm s₂.vm).frames = .java g₀ :: r := hr
  rcases hq' with ⟨hqc, L, hfe, hL⟩ | ⟨q, rfl, E, ce, L, hx, hce, hcv, hcl, hW₂, hsm, hL⟩
  · obtain ⟨⟨v, rfl⟩, hW₂, e2, q2, q3, q4, q5, q6⟩ := id hfe
    have e3 : s₂ = ({ (U.calling g mk a).setFrames s₂.frames with heap := s₂.heap, slotsUsed := s₂.slotsUsed } : State).setVm s₂.vm := by
      have : s₂ = ({ s₂ with vm := (U.calling g mk a).vm } : State).setVm s₂.vm := rfl
      rw [e2] at this
      exact this
    obtain ⟨c₂, i₂, len₂, hc₂, hd₂, hf₂⟩ := hend
    have hW' : U.WarmedH s₂.vm := hW₂
    have hcc : c₂ = c := by
      have h1 : s₂.code? g.method = U.code? g.method := by
        rw [State.code?_eq, State.code?_eq, hW'.alike.method?]
      exact Option.some.inj (hc₂.symm.trans (h1.trans h.code))
    subst hcc
    have hlen : len₂ = len := by rw [hdg] at hd₂; cases hd₂; rfl
    subst hlen
    have hs₂ : s₂ = (({ U with heap := s₂.heap, slotsUsed := s₂.slotsUsed } : State).setVm s₂.vm).setTop { g with pc := g.pc + len₂, stack := v.toList ++ g.stack } := by
      refine e3.trans ?_
      rw [hf₂, State.calling_eq h.top, State.setFrames_setFrames, State.setTop_of_frames _ hr', hr]
      rfl
    have hsame : U.sameButNew ({ U with heap := s₂.heap, slotsUsed := s₂.slotsUsed } : State) L mc ms := by
      refine ⟨?_, q2, q3, q4, q5, q6⟩
      obtain ⟨t, ht, -⟩ := State.frames_cons hr
      show ({ U with heap := s₂.heap, slotsUsed := s₂.slotsUsed } : State) = { U.setFrames U.frames with heap := s₂.heap, slotsUsed := s₂.slotsUsed }
      rw [State.setFrames_self ht]
    subst hg
    refine Or.inl ⟨v, ⟨(({ U with heap := s₂.heap, slotsUsed := s₂.slotsUsed } : State).setVm s₂.vm), Ls ++ L, c0 + mc, s0 + ms⟩,
      ⟨X.admits, X.cas, X.clock, X.frames, X.room, X.hears, X.method, X.code, (X.here.setHeapUsed s₂.heap s₂.slotsUsed).setVm hW'.alike, X.tail, State.WarmedH.trans X.warmed hW', X.limits, X.bytes, X.same.trans (hsame.setVm s.vm)⟩,
      ⟨g, mk, s₂, L, rfl, rfl, hqc, rfl, hL, rfl, rfl⟩, ?_⟩
    show Steps p.tables e below _ ((({ U with heap := s₂.heap, slotsUsed := s₂.slotsUsed } : State).setVm s₂.vm).setTop { g with pc := g.pc + len₂, stack := v.toList ++ g.stack })
    rw [← hs₂]
    exact hsteps
  · obtain ⟨e2, q2, q3, q4, q5, q6⟩ := id hsm
    have e3 : s₂ = ({ (U.calling g mk a).setFrames s₂.frames with heap := s₂.heap, slotsUsed := s₂.slotsUsed } : State).setVm s₂.vm := by
      have : s₂ = ({ s₂ with vm := (U.calling g mk a).vm } : State).setVm s₂.vm := rfl
      rw [e2] at this
      exact this
    have hf₂ : s₂.frames = .throwing q :: .java g :: U.frames.tail := hend
    have hW' : U.WarmedH s₂.vm := hW₂
    have hs₂ : s₂ = ((({ U with heap := s₂.heap, slotsUsed := s₂.slotsUsed } : State).setVm s₂.vm).setTop g).pushFrame (.throwing q) := by
      refine e3.trans ?_
      rw [hf₂, State.calling_eq h.top, State.setFrames_setFrames, State.pushFrame, State.frames_setTop _ hr', State.setTop_of_frames _ hr', State.setFrames_setFrames, hr]
      rfl
    have hsame : U.sameButNew ({ U with heap := s₂.heap, slotsUsed := s₂.slotsUsed } : State) L mc ms := by
      refine ⟨?_, q2, q3, q4, q5, q6⟩
      obtain ⟨t, ht, -⟩ := State.frames_cons hr
      show ({ U with heap := s₂.heap, slotsUsed := s₂.slotsUsed } : State) = { U.setFrames U.frames with heap := s₂.heap, slotsUsed := s₂.slotsUsed }
      rw [State.setFrames_self ht]
    subst hg
    refine Or.inr ⟨q, ⟨(({ U with heap := s₂.heap, slotsUsed := s₂.slotsUsed } : State).setVm s₂.vm), Ls ++ L, c0 + mc, s0 + ms⟩,
      ⟨X.admits, X.cas, X.clock, X.frames, X.room, X.hears, X.method, X.code, (X.here.setHeapUsed s₂.heap s₂.slotsUsed).setVm hW'.alike, X.tail, State.WarmedH.trans X.warmed hW', X.limits, X.bytes, X.same.trans (hsame.setVm s.vm)⟩,
      ⟨g, mk, s₂, L, E, ce, rfl, rfl, hx, hce, hcv, hcl, rfl, hL, rfl, rfl⟩, ?_⟩
    show Steps p.tables e below _ (((({ U with heap := s₂.heap, slotsUsed := s₂.slotsUsed } : State).setVm s₂.vm).setTop g).pushFrame (.throwing q))
    rw [← hs₂]
    exact hsteps
end
variable {p : Program} {l : Launch} {e : Env} {R : Room} {s : State} {m : MethodId} {args : Array Value} {below : List Frame} {meth : Method} {c : Code} {T : State} {H : Heap} {locs : List Loc} {cells slots : Nat}
theorem vx_callVX (X : Stand p l e R s m args below meth c T locs cells slots) (hexec : p.tables.exec = Jvm.exec) {own C : String} {index : Nat} {y : MethodName} {bytes : ByteArray} {maxL : Nat} {ret : Option FieldType} {hh : List (Nat × Nat × Nat × Nat)}
    (hown : s.vm.findClass own = some m.cls) (hlink : (Cond.methodLink own index y).before args s = true) (hinst : (Cond.instanceMethod y).before args s = true) (hsel : (Cond.selects C y y).before args s = true)
    (hcode : (Cond.codeWith y bytes maxL ret hh).before args s = true) (hy : y.cls ≠ "java/lang/invoke/MethodHandle" ∧ y.cls ≠ "java/lang/invoke/VarHandle")
    {W9 : Nat} {Pre : Pt → Array Value → Prop} {Post : Pt → Array Value → Option Value → Pt → Prop} {PostX : Pt → Array Value → Addr → Pt → Prop} (hK : vx_Back l R p e below s args y 3 W9 Pre Post PostX)
    {b : Addr} {cellB : Cell} (hcell : T.heap[b]? = some cellB) (hobj : cellB.vm.isStatics = false) (hcls : s.vm.findClass C = some cellB.cls)
    {g : JFrame} (hg : g.method = m) (hsize : g.locals.size = c.maxLocals) {argsL rest : List Value} (hlen : ∀ sig, parseMethodDescriptor y.desc = some sig → argsL.length = sig.parameters.length)
    (hstack : g.stack = argsL.reverse ++ .ref b :: rest) (hW : 2 * g.monitorRoom + (rest.map fun v => v.category).sum ≤ W9) (hdg : decode c.code g.pc = .ok (.invokevirtual index, 3))
    (hpre : ∀ vm₁, s.WarmedH vm₁ → Pre ⟨T.setVm vm₁, locs, cells, slots⟩ (Value.ref b :: argsL).toArray) :
    (∃ (v : Option Value) (vm₁ : Vm) (B : Pt), s.WarmedH vm₁ ∧ Stand p l e R s m args below meth c B.U B.locs B.cells B.slots ∧ Post ⟨T.setVm vm₁, locs, cells, slots⟩ (Value.ref b :: argsL).toArray v B ∧
      ∀ target, Steps p.tables e below (B.U.setTop { g with pc := g.pc + 3, stack := v.toList ++ rest }) target → Steps p.tables e below (T.setTop g) target) ∨
    (∃ (q : Addr) (vm₁ : Vm) (B : Pt), s.WarmedH vm₁ ∧ Stand p l e R s m args below meth c B.U B.locs B.cells B.slots ∧ PostX ⟨T.setVm vm₁, locs, cells, slots⟩ (Value.ref b :: argsL).toArray q B ∧
      Steps p.tables e below (T.setTop g) ((B.U.setTop { g with stack := rest }).pushFrame (.throwing q))) := by
  obtain ⟨mk, methM, hnamed, hmethM, hstM, habM⟩ := Cond.instanceMethod_spec hinst
  obtain ⟨m8, methM', cM, hn8, hmethM', -, -, -, -, -, -, hsigM⟩ := Cond.codeWith_spec hcode
  cases Option.some.inj (hn8.symm.trans hnamed)
  cases hmethM.symm.trans hmethM'
  obtain ⟨c2, r2, m2, q1, q2, q3, q4, kP, hkP, hkPi⟩ := Cond.selects_spec hsel
  cases hcls.symm.trans q1
  cases (State.methodFound?_of_named hnamed hy).symm.trans q2
  cases hnamed.symm.trans q3
  have hselP : selectMethod e.platform s.vm cellB.cls mk = .method mk := by rw [Launch.admits_selectMethod X.admits]; exact q4
  obtain ⟨vm₁, X₁, hstep₁⟩ := X.invokevirtual hexec hown hlink hnamed hmethM hstM hkP hkPi hy (a := b) (cell := cellB) hcell
    (fun z h => by rw [h] at hobj; cases hobj) hselP hmethM habM hkP hkPi (g := g) hg (argsL := argsL) (rest := rest) (hlen _ hsigM) hstack hdg
  rcases hK m meth c ⟨T.setVm vm₁, locs, cells, slots⟩ { g with stack := rest } (.invokevirtual index) mk (Value.ref b :: argsL).toArray X₁ hg hsize hdg hW (X₁.named hnamed) (hpre vm₁ X₁.warmed) with ⟨v, B, X', hpost, hsteps⟩ | ⟨q, B, X', hpost, hsteps⟩
  · exact Or.inl ⟨v, vm₁, B, X₁.warmed, X', hpost, fun target h => hstep₁ _ fun acts => by rw [doInvoke_state]; exact hsteps.trans h⟩
  · exact Or.inr ⟨q, vm₁, B, X₁.warmed, X', hpost, hstep₁ _ fun acts => by rw [doInvoke_state]; exact hsteps⟩
theorem vx_callSX (X : Stand p l e R s m args below meth c T locs cells slots) (hexec : p.tables.exec = Jvm.exec) {own : String} {index : Nat} {y : MethodName} {bytes : ByteArray} {maxL : Nat} {ret : Option FieldType} {hh : List (Nat × Nat × Nat × Nat)}
    (hown : s.vm.findClass own = some m.cls) (hlink : (Cond.methodLink own index y).before args s = true) (hstat : (Cond.static y).before args s = true) (hinit : (Cond.initialized y.cls).before args s = true)
    (hcode : (Cond.codeWith y bytes maxL ret hh).before args s = true) (hy : y.cls ≠ "java/lang/invoke/MethodHandle" ∧ y.cls ≠ "java/lang/invoke/VarHandle")
    {W9 : Nat} {Pre : Pt → Array Value → Prop} {Post : Pt → Array Value → Option Value → Pt → Prop} {PostX : Pt → Array Value → Addr → Pt → Prop} (hK : vx_Back l R p e below s args y 3 W9 Pre Post PostX)
    {g : JFrame} (hg : g.method = m) (hsize : g.locals.size = c.maxLocals) {argsL rest : List Value} (hlen : ∀ sig, parseMethodDescriptor y.desc = some sig → argsL.length = sig.parameters.length)
    (hstack : g.stack = argsL.reverse ++ rest) (hW : 2 * g.monitorRoom + (rest.map fun v => v.category).sum ≤ W9) (hdg : decode c.code g.pc = .ok (.invokestatic index, 3))
    (hpre : ∀ vm₁, s.WarmedH vm₁ → Pre ⟨T.setVm vm₁, locs, cells, slots⟩ argsL.toArray) :
    (∃ (v : Option Value) (vm₁ : Vm) (B : Pt), s.WarmedH vm₁ ∧ Stand p l e R s m args below meth c B.U B.locs B.cells B.slots ∧ Post ⟨T.setVm vm₁, locs, cells, slots⟩ argsL.toArray v B ∧
      ∀ target, Steps p.tables e below (B.U.setTop { g with pc := g.pc + 3, stack := v.toList ++ rest }) target → Steps p.tables e below (T.setTop g) target) ∨
    (∃ (q : Addr) (vm₁ : Vm) (B : Pt), s.WarmedH vm₁ ∧ Stand p l e R s m args below meth c B.U B.locs B.cells B.slots ∧ PostX ⟨T.setVm vm₁, locs, cells, slots⟩ argsL.toArray q B ∧
      Steps p.tables e below (T.setTop g) ((B.U.setTop { g with stack := rest }).pushFrame (.throwing q))) := by
  obtain ⟨mk, methM, cM, hnamed, hmethM, -, -, -, -, -, -, hsigM⟩ := Cond.codeWith_spec hcode
  have hstatic : methM.isStatic = true := Cond.static_spec hnamed hmethM hstat
  obtain ⟨kP, hkP, -⟩ := className_of_methodNamed hnamed
  have hinitP : kP.init = .initialized := Cond.initialized_spec (findClass_of_methodNamed hnamed) hkP hinit
  obtain ⟨vm₁, X₁, hstep₁⟩ := X.invokestatic hexec hown hlink hnamed hmethM hstatic hkP hinitP hy (g := g) hg (argsL := argsL) (rest := rest) (hlen _ hsigM) hstack hdg
  rcases hK m meth c ⟨T.setVm vm₁, locs, cells, slots⟩ { g with stack := rest } (.invokestatic index) mk argsL.toArray X₁ hg hsize hdg hW (X₁.named hnamed) (hpre vm₁ X₁.warmed) with ⟨v, B, X', hpost, hsteps⟩ | ⟨q, B, X', hpost, hsteps⟩
  · exact Or.inl ⟨v, vm₁, B, X₁.warmed, X', hpost, fun target h => hstep₁ _ fun acts => by rw [doInvoke_state]; exact hsteps.trans h⟩
  · exact Or.inr ⟨q, vm₁, B, X₁.warmed, X', hpost, hstep₁ _ fun acts => by rw [doInvoke_state]; exact hsteps⟩
theorem vx_callVW (X : Stand p l e R s m args below meth c T locs cells slots) (hexec : p.tables.exec = Jvm.exec) {own C : String} {index : Nat} {y : MethodName} {bytes : ByteArray} {maxL : Nat} {ret : Option FieldType} {hh : List (Nat × Nat × Nat × Nat)}
    (hown : s.vm.findClass own = some m.cls) (hlink : (Cond.methodLink own index y).before args s = true) (hinst : (Cond.instanceMethod y).before args s = true) (hsel : (Cond.selects C y y).before args s = true)
    (hcode : (Cond.codeWith y bytes maxL ret hh).before args s = true) (hy : y.cls ≠ "java/lang/invoke/MethodHandle" ∧ y.cls ≠ "java/lang/invoke/VarHandle")
    {W9 : Nat} {Pre : Pt → Array Value → Prop} {Post : Pt → Array Value → Option Value → Pt → Prop} (hK : Back l R p e below s args y 3 W9 Pre Post)
    {b : Addr} {cellB : Cell} (hcell : T.heap[b]? = some cellB) (hobj : cellB.vm.isStatics = false) (hcls : s.vm.findClass C = some cellB.cls)
    {g : JFrame} (hg : g.method = m) (hsize : g.locals.size = c.maxLocals) {argsL rest : List Value} (hlen : ∀ sig, parseMethodDescriptor y.desc = some sig → argsL.length = sig.parameters.length)
    (hstack : g.stack = argsL.reverse ++ .ref b :: rest) (hW : 2 * g.monitorRoom + (rest.map fun v => v.category).sum ≤ W9) (hdg : decode c.code g.pc = .ok (.invokevirtual index, 3))
    (hpre : ∀ vm₁, s.WarmedH vm₁ → Pre ⟨T.setVm vm₁, locs, cells, slots⟩ (Value.ref b :: argsL).toArray) :
    ∃ (v : Option Value) (vm₁ : Vm) (B : Pt), s.WarmedH vm₁ ∧ Stand p l e R s m args below meth c B.U B.locs B.cells B.slots ∧ Post ⟨T.setVm vm₁, locs, cells, slots⟩ (Value.ref b :: argsL).toArray v B ∧
      ∀ target, Steps p.tables e below (B.U.setTop { g with pc := g.pc + 3, stack := v.toList ++ rest }) target → Steps p.tables e below (T.setTop g) target := by
  obtain ⟨mk, methM, hnamed, hmethM, hstM, habM⟩ := Cond.instanceMethod_spec hinst
  obtain ⟨m8, methM', cM, hn8, hmethM', -, -, -, -, -, -, hsigM⟩ := Cond.codeWith_spec hcode
  cases Option.some.inj (hn8.symm.trans hnamed)
  cases hmethM.symm.trans hmethM'
  obtain ⟨c2, r2, m2, q1, q2, q3, q4, kP, hkP, hkPi⟩ := Cond.selects_spec hsel
  cases hcls.symm.trans q1
  cases (State.methodFound?_of_named hnamed hy).symm.trans q2
  cases hnamed.symm.trans q3
  have hselP : selectMethod e.platform s.vm cellB.cls mk = .method mk := by rw [Launch.admits_selectMethod X.admits]; exact q4
  obtain ⟨vm₁, X₁, hstep₁⟩ := X.invokevirtual hexec hown hlink hnamed hmethM hstM hkP hkPi hy (a := b) (cell := cellB) hcell
    (fun z h => by rw [h] at hobj; cases hobj) hselP hmethM habM hkP hkPi (g := g) hg (argsL := argsL) (rest := rest) (hlen _ hsigM) hstack hdg
  obtain ⟨v, B, X', hpost, hsteps⟩ := hK m meth c ⟨T.setVm vm₁, locs, cells, slots⟩ { g with stack := rest } (.invokevirtual index) mk (Value.ref b :: argsL).toArray X₁ hg hsize hdg hW (X₁.named hnamed) (hpre vm₁ X₁.warmed)
  exact ⟨v, vm₁, B, X₁.warmed, X', hpost, fun target h => hstep₁ _ fun acts => by rw [doInvoke_state]; exact hsteps.trans h⟩
abbrev vx_CVW (R : Room) (s : State) (args : Array Value) (own C : String) (index : Nat) (y : MethodName) (bytes : ByteArray) (maxL : Nat) (ret : Option FieldType) (hh : List (Nat × Nat × Nat × Nat)) (ws : List Cond) (rm : Room) (mc ms n : Nat) : Prop :=
  (rm.cells = mc ∧ rm.slots = ms ∧ rm.frames + 1 ≤ R.frames ∧ 8 + (maxL + 11) + rm.locals ≤ R.locals ∧ (∀ w ∈ ws, ∀ (a' : Array Value) (U : State), s.WarmedH U.vm → w.before a' U = true) ∧ Cond.codeWith y bytes maxL ret hh ∈ ws) ∧
  (Cond.codeWith y bytes maxL ret hh).before args s = true ∧ (Cond.initialized y.cls).before args s = true ∧ (y.cls ≠ "java/lang/invoke/MethodHandle" ∧ y.cls ≠ "java/lang/invoke/VarHandle") ∧
  (∀ sig, parseMethodDescriptor y.desc = some sig → n = sig.parameters.length) ∧ (Cond.methodLink own index y).before args s = true ∧ (Cond.instanceMethod y).before args s = true ∧ (Cond.selects C y y).before args s = true
theorem vx_cwVW {own C : String} {index maxL mc ms : Nat} {y : MethodName} {bytes : ByteArray} {ret : Option FieldType} {hh : List (Nat × Nat × Nat × Nat)} {Ts ws ws' : List Cond} {rm : Room} (n : Nat) (ht : ∀ w ∈ Ts, w.before args s = true) (hT : GoodIn Ts (wsV own index C y ws)) (hw : ws = Cond.codeWith y bytes maxL ret hh :: ws') (hrc : rm.cells = mc) (hrs : rm.slots = ms)
    (hd : y.cls = C ∧ y.cls ≠ "java/lang/invoke/MethodHandle" ∧ y.cls ≠ "java/lang/invoke/VarHandle" ∧ (parseMethodDescriptor y.desc).map (fun d => d.parameters.length) = some n) (hR : rm.frames + 1 ≤ R.frames ∧ 8 + (maxL + 11) + rm.locals ≤ R.locals) :
    vx_CVW R s args own C index y bytes maxL ret hh ws rm mc ms n := by
  obtain ⟨hC, hd⟩ := hd
  subst hC
  have ok : ∀ w ∈ wsV own index y.cls y ws, w.before args s = true := fun w h => ht w (hT w h).1
  have hG : GoodIn Ts ws := fun w h => hT w (by unfold wsV; exact List.mem_append_right _ h)
  have hc : Cond.codeWith y bytes maxL ret hh ∈ ws := by rw [hw]; exact List.mem_cons_self
  refine ⟨⟨hrc, hrs, hR.1, hR.2, pay_in ht hG, hc⟩, ht _ (hG _ hc).1, ok _ (by simp [wsV]), ⟨hd.1, hd.2.1⟩, fun sig h => ?_, ok _ (by simp [wsV]), ok _ (by simp [wsV]), ok _ (by simp [wsV])⟩
  have h2 := hd.2.2
  rw [h] at h2
  exact (Option.some.inj h2).symm
theorem vx_runVW {y : MethodName} {bytes cc : ByteArray} {maxL nL mc ms n index : Nat} {ret : Option FieldType} {hh : List (Nat × Nat × Nat × Nat)} {ws : List Cond} {rm : Room} {Pc : Array Value → State → Prop} {Qc : Array Value → State → Outcome → State → Prop} {free : Addr → Prop} {Ts : List Cond} {own C : String} {b : Addr} {As rest : List Value} {g : JFrame}
    (S : CallFix p m c cc nL s args Ts own) (hM : Met l y ws rm Pc Qc mc ms free) (cw : vx_CVW R s args own C index y bytes maxL ret hh ws rm mc ms n) (hp : PreV s H C b Pc As)
    (hg : g.method = m) (hn : As.length = n) (hsize : g.locals.size = nL) (hstack : g.stack = As.reverse ++ .ref b :: rest) (hW : 2 * g.monitorRoom + (rest.map fun v => v.category).sum ≤ 8) (hdg : decode cc g.pc = .ok (.invokevirtual index, 3)) (hf : cells + mc ≤ R.cells ∧ slots + ms ≤ R.slots) :
    va_Run p l e R s m args below meth c H locs cells slots mc ms g rest (Qc (Value.ref b :: As).toArray) free := by
  obtain ⟨⟨hrc, hrs, hfr, hlo, hws, hcw⟩, hcode, hini, hy, hlen, hl, hin, hse⟩ := cw
  have hK : Back l R p e below s args y 3 8 (PreOf R mc ms Pc) (PostOf Qc mc ms free) := va_backW (hh := hh) (bytes := bytes) (maxL := maxL) (ret := ret) hM hp.1 hrc hrs hfr hlo hws hcw (fun a' U hW => word_at hW (Or.inl (by first | rfl | simp [Cond.onTables, Cond.keeps, Cond.steady])) hini)
  obtain ⟨hx, hb, hml, ho, -⟩ := S
  obtain ⟨-, ⟨cellB, hcB, hoB, hclB⟩, hPc⟩ := hp
  intro T hT X
  obtain ⟨v, vm₁, ⟨U', l2, c2, s2⟩, hW₁, X', ⟨g', mk, t, L, e1, e2, hq, h1, hL, h2, h3⟩, st⟩ := vx_callVW X hx (C := C) (hh := hh) (bytes := bytes) (maxL := maxL) (ret := ret) ho hl hin hse hcode hy hK (by rw [hT]; exact hcB) hoB hclB hg (hsize.trans hml.symm) (argsL := As) (rest := rest) (fun sig h => hn.trans (hlen sig h)) hstack hW (by rw [hb]; exact hdg)
    (fun vm₁ hW₁ => ⟨hf.1, hf.2, hPc (T.setVm vm₁) hT hW₁⟩)
  dsimp only [Pt.U, Pt.locs, Pt.cells, Pt.slots] at X' e1 e2 h1 h2 h3 st
  subst h1; subst h2; subst h3
  exact ⟨v, (T.setVm vm₁).calling g' mk (Value.ref b :: As).toArray, t, U', L, hT, X', hL, e1, e2, hq, st⟩
section
variable {y : MethodName} {bytes cc : ByteArray} {maxL nL mc ms n index : Nat} {ret : Option FieldType} {ws : List Cond} {rm : Room} {Pc : Array Value → State → Prop} {Qc : Array Value → State → Outcome → State → Prop} {XC : String → State → State → Prop} {free : Addr → Prop} {Ts : List Cond} {own C : String} {b : Addr} {As rest : List Value} {g : JFrame}
theorem vx_runVX {hh : List (Nat × Nat × Nat × Nat)} (S : CallFix p m c cc nL s args Ts own) (hM : vx_Met l y ws rm Pc Qc XC mc ms free) (cw : vx_CVW R s args own C index y bytes maxL ret hh ws rm mc ms n) (hp : PreV s H C b Pc As)
    (hg : g.method = m) (hn : As.length = n) (hsize : g.locals.size = nL) (hstack : g.stack = As.reverse ++ .ref b :: rest) (hW : 2 * g.monitorRoom + (rest.map fun v => v.category).sum ≤ 8) (hdg : decode cc g.pc = .ok (.invokevirtual index, 3)) (hf : cells + mc ≤ R.cells ∧ slots + ms ≤ R.slots) :
    vx_Run p l e R s m args below meth c H locs cells slots mc ms g rest (Qc (Value.ref b :: As).toArray) XC free := by
  obtain ⟨⟨hrc, hrs, hfr, hlo, hws, hcw⟩, hcode, hini, hy, hlen, hl, hin, hse⟩ := cw
  have hK : vx_Back l R p e below s args y 3 8 (PreOf R mc ms Pc) (PostOf Qc mc ms free) (vx_Post XC mc ms free) := vx_backW (hh := hh) (bytes := bytes) (maxL := maxL) (ret := ret) hM hp.1 hrc hrs hfr hlo hws hcw (fun a' U hW => word_at hW (Or.inl (by first | rfl | simp [Cond.onTables, Cond.keeps, Cond.steady])) hini)
  obtain ⟨hx, hb, hml, ho, -⟩ := S
  obtain ⟨-, ⟨cellB, hcB, hoB, hclB⟩, hPc⟩ := hp
  intro T hT X
  rcases vx_callVX X hx (C := C) (hh := hh) (bytes := bytes) (maxL := maxL) (ret := ret) ho hl hin hse hcode hy hK (by rw [hT]; exact hcB) hoB hclB hg (hsize.trans hml.symm) (argsL := As) (rest := rest) (fun sig h => hn.trans (hlen sig h)) hstack hW (by rw [hb]; exact hdg)
    (fun vm₁ hW₁ => ⟨hf.1, hf.2, hPc (T.setVm vm₁) hT hW₁⟩) with ⟨v, vm₁, ⟨U', l2, c2, s2⟩, hW₁, X', ⟨g', mk, t, L, e1, e2, hq, h1, hL, h2, h3⟩, st⟩ | ⟨q, vm₁, ⟨U', l2, c2, s2⟩, hW₁, X', ⟨g', mk, t, L, E, ce, e1, e2, hq, hce, hcv, hcl, h1, hL, h2, h3⟩, st⟩
  · dsimp only [Pt.U, Pt.locs, Pt.cells, Pt.slots] at X' e1 e2 h1 h2 h3 st
    subst h1; subst h2; subst h3
    exact Or.inl ⟨v, (T.setVm vm₁).calling g' mk (Value.ref b :: As).toArray, t, U', L, hT, X', hL, e1, e2, hq, st⟩
  · dsimp only [Pt.U, Pt.locs, Pt.cells, Pt.slots] at X' e1 e2 h1 h2 h3 st hcl
    subst h1; subst h2; subst h3
    exact Or.inr ⟨q, (T.setVm vm₁).calling g' mk (Value.ref b :: As).toArray, t, U', L, E, ce, hT, X', hL, e1, e2, hq, hce, hcv, vx_cls hW₁ hcl, st⟩
theorem vx_runSX {hh : List (Nat × Nat × Nat × Nat)} (S : CallFix p m c cc nL s args Ts own) (hM : vx_Met l y ws rm Pc Qc XC mc ms free) (cw : vx_CSW R s args own index y bytes maxL ret hh ws rm mc ms n) (hp : PreS s H Pc As)
    (hg : g.method = m) (hn : As.length = n) (hsize : g.locals.size = nL) (hstack : g.stack = As.reverse ++ rest) (hW : 2 * g.monitorRoom + (rest.map fun v => v.category).sum ≤ 8) (hdg : decode cc g.pc = .ok (.invokestatic index, 3)) (hf : cells + mc ≤ R.cells ∧ slots + ms ≤ R.slots) :
    vx_Run p l e R s m args below meth c H locs cells slots mc ms g rest (Qc As.toArray) XC free := by
  obtain ⟨⟨hrc, hrs, hfr, hlo, hws, hcw⟩, hcode, hini, hy, hlen, hl, hstt⟩ := cw
  have hK : vx_Back l R p e below s args y 3 8 (PreOf R mc ms Pc) (PostOf Qc mc ms free) (vx_Post XC mc ms free) := vx_backW (hh := hh) (bytes := bytes) (maxL := maxL) (ret := ret) hM hp.1 hrc hrs hfr hlo hws hcw (fun a' U hW => word_at hW (Or.inl (by first | rfl | simp [Cond.onTables, Cond.keeps, Cond.steady])) hini)
  obtain ⟨hx, hb, hml, ho, -⟩ := S
  intro T hT X
  rcases vx_callSX X hx (hh := hh) (bytes := bytes) (maxL := maxL) (ret := ret) ho hl hstt hini hcode hy hK hg (hsize.trans hml.symm) (argsL := As) (rest := rest) (fun sig h => hn.trans (hlen sig h)) hstack hW (by rw [hb]; exact hdg)
    (fun vm₁ hW₁ => ⟨hf.1, hf.2, hp.2 (T.setVm vm₁) hT hW₁⟩) with ⟨v, vm₁, ⟨U', l2, c2, s2⟩, hW₁, X', ⟨g', mk, t, L, e1, e2, hq, h1, hL, h2, h3⟩, st⟩ | ⟨q, vm₁, ⟨U', l2, c2, s2⟩, hW₁, X', ⟨g', mk, t, L, E, ce, e1, e2, hq, hce, hcv, hcl, h1, hL, h2, h3⟩, st⟩
  · dsimp only [Pt.U, Pt.locs, Pt.cells, Pt.slots] at X' e1 e2 h1 h2 h3 st
    subst h1; subst h2; subst h3
    exact Or.inl ⟨v, (T.setVm vm₁).calling g' mk As.toArray, t, U', L, hT, X', hL, e1, e2, hq, st⟩
  · dsimp only [Pt.U, Pt.locs, Pt.cells, Pt.slots] at X' e1 e2 h1 h2 h3 st hcl
    subst h1; subst h2; subst h3
    exact Or.inr ⟨q, (T.setVm vm₁).calling g' mk As.toArray, t, U', L, E, ce, hT, X', hL, e1, e2, hq, hce, hcv, vx_cls hW₁ hcl, st⟩
end
end VXH
theorem vx_ofWH {l : Launch} {y : MethodName} {ws ws' : List Cond} {rm : Room} {Pc : Array Value → State → Prop} {Qc : Array Value → State → Outcome → State → Prop} {XC : String → State → State → Prop} {mc ms : Nat} {free : Addr → Prop} {cc : ByteArray} {maxL : Nat} {ret : Option FieldType} {hh : List (Nat × Nat × Nat × Nat)}
    (hy : plainName y.cls = true) (hw : ws = Cond.codeWith y cc maxL ret hh :: ws')
    (body : ∀ p e s m args below meth c s₁, BodyLoose p l y (headSpec ws rm) cc maxL ret e s m args below meth c s₁ → c.maxLocals = maxL → Pc args s →
      W p l e (headSpec ws rm).room s m args below meth c s.heap [] 0 0 (vx_MQ below Qc XC args s mc ms free) (entryFrame m args maxL)) : vx_Met l y ws rm Pc Qc XC mc ms free := by
  refine MetFree.of_bodyS (code := cc) (maxLocals := maxL) (ret := ret) hy ?_ ?_
  · intro args s m h hn
    obtain ⟨m9, meth, c, hn9, h1, h2, h3, h4, -, h5, h6, -⟩ := Cond.codeWith_spec (atoms_spec (ws := ws) h _ (by rw [hw]; exact List.mem_cons_self))
    cases hn.symm.trans hn9
    exact ⟨meth, c, h1, h2, h3, h4, h5, h6⟩
  · intro p e s m args below meth c s₁ B hml hP _
    have hh0 : s₁.heap = s.heap := by rw [B.state]; rfl
    obtain ⟨t, a1, o, b1, b2, b3⟩ := body p e s m args below meth c s₁ B hml hP s₁ hh0 (Stand.of_body B)
    exact ⟨t, o, a1, b1, b2, b3⟩
/-! ===== END ===== -/
end
section
/-! ===== BEGIN printed: names, fields, word lists, decode rows ===== -/
def RX0 : String := "LineBuffers$Draws"
def TX0 : u_T := fun k => match k with
  | _ => ("LineBuffers$Draws", "state", "J", false)
def tyX0 : Nat → FieldType := fun k => match k with
  | _ => .long
abbrev wsX00 : List Cond := u_ws RX0 TX0 1
theorem nmX0 : ∀ a, a < 1 → ∀ b, b < 1 → a ≠ b → (TX0 a).2.1 ≠ (TX0 b).2.1 := by decide +kernel
theorem tyX0_ok : ∀ k, k < 1 → parseFieldDescriptor (TX0 k).2.2.1 = some (tyX0 k) := by decide +kernel
abbrev cX0_init : ByteArray := prog_2_method_1_code
def yX0_init : MethodName := ⟨RX0, "<init>", "(I)V"⟩
abbrev cX0_drawBelow : ByteArray := prog_2_method_2_code
def yX0_drawBelow : MethodName := ⟨RX0, "drawBelow", "(I)I"⟩
def RX1 : String := "LineBuffers$History"
def TX1 : u_T := fun k => match k with
  | 0 => ("LineBuffers$History", "places", "[LLineBuffers$Line;", true)
  | 1 => ("LineBuffers$History", "newest", "I", false)
  | _ => ("LineBuffers$History", "saved", "I", false)
def tyX1 : Nat → FieldType := fun k => match k with
  | 0 => .array (.object "LineBuffers$Line")
  | 1 => .int
  | _ => .int
abbrev wsX10 : List Cond := u_ws RX1 TX1 3
theorem nmX1 : ∀ a, a < 3 → ∀ b, b < 3 → a ≠ b → (TX1 a).2.1 ≠ (TX1 b).2.1 := by decide +kernel
theorem tyX1_ok : ∀ k, k < 3 → parseFieldDescriptor (TX1 k).2.2.1 = some (tyX1 k) := by decide +kernel
abbrev cX1_init : ByteArray := prog_3_method_1_code
def yX1_init : MethodName := ⟨RX1, "<init>", "()V"⟩
abbrev cX1_keep : ByteArray := prog_3_method_2_code
def yX1_keep : MethodName := ⟨RX1, "keep", "(LLineBuffers$Line;)V"⟩
abbrev cX1_giveBack : ByteArray := prog_3_method_3_code
def yX1_giveBack : MethodName := ⟨RX1, "giveBack", "(LLineBuffers$Line;)V"⟩
def RX2 : String := "LineBuffers$Line"
def TX2 : u_T := fun k => match k with
  | 0 => ("LineBuffers$Line", "rows", "[[I", true)
  | 1 => ("LineBuffers$Line", "stops", "LLineBuffers$Stops;", true)
  | 2 => ("LineBuffers$Line", "machines", "I", false)
  | _ => ("LineBuffers$Line", "tick", "I", false)
def tyX2 : Nat → FieldType := fun k => match k with
  | 0 => .array (.array .int)
  | 1 => .object "LineBuffers$Stops"
  | 2 => .int
  | _ => .int
abbrev wsX20 : List Cond := u_ws RX2 TX2 4
theorem nmX2 : ∀ a, a < 4 → ∀ b, b < 4 → a ≠ b → (TX2 a).2.1 ≠ (TX2 b).2.1 := by decide +kernel
theorem tyX2_ok : ∀ k, k < 4 → parseFieldDescriptor (TX2 k).2.2.1 = some (tyX2 k) := by decide +kernel
abbrev cX2_init : ByteArray := prog_4_method_1_code
def yX2_init : MethodName := ⟨RX2, "<init>", "()V"⟩
abbrev cX2_copy : ByteArray := prog_4_method_2_code
def yX2_copy : MethodName := ⟨RX2, "copy", "(LLineBuffers$Line;LLineBuffers$Line;)V"⟩
abbrev cX2_takeApart : ByteArray := prog_4_method_3_code
def yX2_takeApart : MethodName := ⟨RX2, "takeApart", "()V"⟩
abbrev cX2_join : ByteArray := prog_4_method_4_code
def yX2_join : MethodName := ⟨RX2, "join", "(III)I"⟩
abbrev cX2_mark : ByteArray := prog_4_method_5_code
def yX2_mark : MethodName := ⟨RX2, "mark", "(III)V"⟩
abbrev cX2_beginAnew : ByteArray := prog_4_method_6_code
def yX2_beginAnew : MethodName := ⟨RX2, "beginAnew", "()V"⟩
abbrev cX2_empty : ByteArray := prog_4_method_7_code
def yX2_empty : MethodName := ⟨RX2, "empty", "([I)V"⟩
abbrev cX2_pass : ByteArray := prog_4_method_8_code
def yX2_pass : MethodName := ⟨RX2, "pass", "(I)V"⟩
abbrev cX2_takeTurn : ByteArray := prog_4_method_9_code
def yX2_takeTurn : MethodName := ⟨RX2, "takeTurn", "(I)V"⟩
abbrev cX2_chooseSpeed : ByteArray := prog_4_method_10_code
def yX2_chooseSpeed : MethodName := ⟨RX2, "chooseSpeed", "(I)V"⟩
abbrev cX2_noteTurn : ByteArray := prog_4_method_11_code
def yX2_noteTurn : MethodName := ⟨RX2, "noteTurn", "([II)V"⟩
abbrev cX2_release : ByteArray := prog_4_method_12_code
def yX2_release : MethodName := ⟨RX2, "release", "(I)V"⟩
abbrev cX2_takeBottle : ByteArray := prog_4_method_13_code
def yX2_takeBottle : MethodName := ⟨RX2, "takeBottle", "(I)V"⟩
abbrev cX2_presentCycle : ByteArray := prog_4_method_14_code
def yX2_presentCycle : MethodName := ⟨RX2, "presentCycle", "([I)I"⟩
abbrev cX2_countFills : ByteArray := prog_4_method_15_code
def yX2_countFills : MethodName := ⟨RX2, "countFills", "()V"⟩
abbrev cX2_bottlesOut : ByteArray := prog_4_method_16_code
def yX2_bottlesOut : MethodName := ⟨RX2, "bottlesOut", "()I"⟩
abbrev cX2_bottlesInside : ByteArray := prog_4_method_17_code
def yX2_bottlesInside : MethodName := ⟨RX2, "bottlesInside", "()I"⟩
abbrev cX2_findLimiting : ByteArray := prog_4_method_18_code
def yX2_findLimiting : MethodName := ⟨RX2, "findLimiting", "()I"⟩
abbrev cX2_findSlowest : ByteArray := prog_4_method_19_code
def yX2_findSlowest : MethodName := ⟨RX2, "findSlowest", "(I)I"⟩
abbrev cX2_mostBottles : ByteArray := prog_4_method_20_code
def yX2_mostBottles : MethodName := ⟨RX2, "mostBottles", "(II)I"⟩
abbrev cX2_upTicks : ByteArray := prog_4_method_21_code
def yX2_upTicks : MethodName := ⟨RX2, "upTicks", "(II)I"⟩
abbrev cX2_mixInto : ByteArray := prog_4_method_22_code
def yX2_mixInto : MethodName := ⟨RX2, "mixInto", "(J)J"⟩
def RX3 : String := "LineBuffers$LineText"
def TX3 : u_T := fun k => match k with
  | 0 => ("LineBuffers$LineText", "bytes", "[I", true)
  | 1 => ("LineBuffers$LineText", "length", "I", false)
  | 2 => ("LineBuffers$LineText", "at", "I", false)
  | _ => ("LineBuffers$LineText", "error", "I", false)
def tyX3 : Nat → FieldType := fun k => match k with
  | 0 => .array .int
  | 1 => .int
  | 2 => .int
  | _ => .int
abbrev wsX30 : List Cond := u_ws RX3 TX3 4
theorem nmX3 : ∀ a, a < 4 → ∀ b, b < 4 → a ≠ b → (TX3 a).2.1 ≠ (TX3 b).2.1 := by decide +kernel
theorem tyX3_ok : ∀ k, k < 4 → parseFieldDescriptor (TX3 k).2.2.1 = some (tyX3 k) := by decide +kernel
abbrev cX3_init : ByteArray := prog_5_method_1_code
def yX3_init : MethodName := ⟨RX3, "<init>", "()V"⟩
abbrev cX3_put : ByteArray := prog_5_method_2_code
def yX3_put : MethodName := ⟨RX3, "put", "(I)V"⟩
abbrev cX3_readInto : ByteArray := prog_5_method_3_code
def yX3_readInto : MethodName := ⟨RX3, "readInto", "(LLineBuffers$Line;)I"⟩
abbrev cX3_readItem : ByteArray := prog_5_method_4_code
def yX3_readItem : MethodName := ⟨RX3, "readItem", "(LLineBuffers$Line;)V"⟩
abbrev cX3_readMachine : ByteArray := prog_5_method_5_code
def yX3_readMachine : MethodName := ⟨RX3, "readMachine", "(LLineBuffers$Line;)V"⟩
abbrev cX3_readMarks : ByteArray := prog_5_method_6_code
def yX3_readMarks : MethodName := ⟨RX3, "readMarks", "(LLineBuffers$Line;)V"⟩
abbrev cX3_readNumber : ByteArray := prog_5_method_7_code
def yX3_readNumber : MethodName := ⟨RX3, "readNumber", "(IIC)I"⟩
abbrev cX3_byteAt : ByteArray := prog_5_method_8_code
def yX3_byteAt : MethodName := ⟨RX3, "byteAt", "(I)I"⟩
abbrev cX3_isDigit : ByteArray := prog_5_method_9_code
def yX3_isDigit : MethodName := ⟨RX3, "isDigit", "(I)Z"⟩
def RX4 : String := "LineBuffers$Stops"
def TX4 : u_T := fun k => match k with
  | 0 => ("LineBuffers$Stops", "machineOf", "[I", true)
  | 1 => ("LineBuffers$Stops", "firstOf", "[I", true)
  | 2 => ("LineBuffers$Stops", "durationOf", "[I", true)
  | 3 => ("LineBuffers$Stops", "planned", "I", false)
  | _ => ("LineBuffers$Stops", "downBits", "I", false)
def tyX4 : Nat → FieldType := fun k => match k with
  | 0 => .array .int
  | 1 => .array .int
  | 2 => .array .int
  | 3 => .int
  | _ => .int
abbrev wsX40 : List Cond := u_ws RX4 TX4 5
theorem nmX4 : ∀ a, a < 5 → ∀ b, b < 5 → a ≠ b → (TX4 a).2.1 ≠ (TX4 b).2.1 := by decide +kernel
theorem tyX4_ok : ∀ k, k < 5 → parseFieldDescriptor (TX4 k).2.2.1 = some (tyX4 k) := by decide +kernel
abbrev cX4_init : ByteArray := prog_6_method_1_code
def yX4_init : MethodName := ⟨RX4, "<init>", "()V"⟩
abbrev cX4_copy : ByteArray := prog_6_method_2_code
def yX4_copy : MethodName := ⟨RX4, "copy", "(LLineBuffers$Stops;LLineBuffers$Stops;)V"⟩
abbrev cX4_plan : ByteArray := prog_6_method_3_code
def yX4_plan : MethodName := ⟨RX4, "plan", "(III)V"⟩
abbrev cX4_dropAfter : ByteArray := prog_6_method_4_code
def yX4_dropAfter : MethodName := ⟨RX4, "dropAfter", "(I)I"⟩
abbrev cX4_value : ByteArray := prog_6_method_5_code
def yX4_value : MethodName := ⟨RX4, "value", "(II)I"⟩
abbrev cX4_lookAt : ByteArray := prog_6_method_6_code
def yX4_lookAt : MethodName := ⟨RX4, "lookAt", "(I)I"⟩
abbrev cX4_isDown : ByteArray := prog_6_method_7_code
def yX4_isDown : MethodName := ⟨RX4, "isDown", "(I)Z"⟩
abbrev cX4_mixInto : ByteArray := prog_6_method_8_code
def yX4_mixInto : MethodName := ⟨RX4, "mixInto", "(J)J"⟩
def RX5 : String := "LineBuffers"
def TX5 : u_T := fun k => match k with
  | 0 => ("LineBuffers", "line", "LLineBuffers$Line;", true)
  | 1 => ("LineBuffers", "trial", "LLineBuffers$Line;", true)
  | 2 => ("LineBuffers", "history", "LLineBuffers$History;", true)
  | _ => ("LineBuffers", "text", "LLineBuffers$LineText;", true)
def tyX5 : Nat → FieldType := fun k => match k with
  | 0 => .object "LineBuffers$Line"
  | 1 => .object "LineBuffers$Line"
  | 2 => .object "LineBuffers$History"
  | _ => .object "LineBuffers$LineText"
abbrev wsX50 : List Cond := u_ws RX5 TX5 4
theorem nmX5 : ∀ a, a < 4 → ∀ b, b < 4 → a ≠ b → (TX5 a).2.1 ≠ (TX5 b).2.1 := by decide +kernel
theorem tyX5_ok : ∀ k, k < 4 → parseFieldDescriptor (TX5 k).2.2.1 = some (tyX5 k) := by decide +kernel
abbrev cX5_init : ByteArray := prog_1_method_1_code
def yX5_init : MethodName := ⟨RX5, "<init>", "()V"⟩
abbrev cX5_addMachine : ByteArray := prog_1_method_2_code
def yX5_addMachine : MethodName := ⟨RX5, "addMachine", "(III)I"⟩
abbrev cX5_setMachine : ByteArray := prog_1_method_3_code
def yX5_setMachine : MethodName := ⟨RX5, "setMachine", "(IIIII)I"⟩
abbrev cX5_setCapacity : ByteArray := prog_1_method_4_code
def yX5_setCapacity : MethodName := ⟨RX5, "setCapacity", "(II)I"⟩
abbrev cX5_addStop : ByteArray := prog_1_method_5_code
def yX5_addStop : MethodName := ⟨RX5, "addStop", "(III)I"⟩
abbrev cX5_addRandomStops : ByteArray := prog_1_method_6_code
def yX5_addRandomStops : MethodName := ⟨RX5, "addRandomStops", "(IIIII)I"⟩
abbrev cX5_clearStops : ByteArray := prog_1_method_7_code
def yX5_clearStops : MethodName := ⟨RX5, "clearStops", "()I"⟩
abbrev cX5_size : ByteArray := prog_1_method_8_code
def yX5_size : MethodName := ⟨RX5, "size", "(Z)I"⟩
abbrev cX5_stop : ByteArray := prog_1_method_9_code
def yX5_stop : MethodName := ⟨RX5, "stop", "(II)I"⟩
abbrev cX5_run : ByteArray := prog_1_method_10_code
def yX5_run : MethodName := ⟨RX5, "run", "(I)I"⟩
abbrev cX5_restart : ByteArray := prog_1_method_11_code
def yX5_restart : MethodName := ⟨RX5, "restart", "()I"⟩
abbrev cX5_now : ByteArray := prog_1_method_12_code
def yX5_now : MethodName := ⟨RX5, "now", "()I"⟩
abbrev cX5_output : ByteArray := prog_1_method_13_code
def yX5_output : MethodName := ⟨RX5, "output", "()I"⟩
abbrev cX5_setting : ByteArray := prog_1_method_14_code
def yX5_setting : MethodName := ⟨RX5, "setting", "(II)I"⟩
abbrev cX5_machine : ByteArray := prog_1_method_15_code
def yX5_machine : MethodName := ⟨RX5, "machine", "(II)I"⟩
abbrev cX5_count : ByteArray := prog_1_method_16_code
def yX5_count : MethodName := ⟨RX5, "count", "(II)I"⟩
abbrev cX5_meanFill : ByteArray := prog_1_method_17_code
def yX5_meanFill : MethodName := ⟨RX5, "meanFill", "(I)D"⟩
abbrev cX5_inside : ByteArray := prog_1_method_18_code
def yX5_inside : MethodName := ⟨RX5, "inside", "()I"⟩
abbrev cX5_bound : ByteArray := prog_1_method_19_code
def yX5_bound : MethodName := ⟨RX5, "bound", "(I)I"⟩
abbrev cX5_limiting : ByteArray := prog_1_method_20_code
def yX5_limiting : MethodName := ⟨RX5, "limiting", "()I"⟩
abbrev cX5_slowest : ByteArray := prog_1_method_21_code
def yX5_slowest : MethodName := ⟨RX5, "slowest", "(I)I"⟩
abbrev cX5_outputWith : ByteArray := prog_1_method_22_code
def yX5_outputWith : MethodName := ⟨RX5, "outputWith", "(III)I"⟩
abbrev cX5_capacityFor : ByteArray := prog_1_method_23_code
def yX5_capacityFor : MethodName := ⟨RX5, "capacityFor", "(III)I"⟩
abbrev cX5_bestBuffer : ByteArray := prog_1_method_24_code
def yX5_bestBuffer : MethodName := ⟨RX5, "bestBuffer", "(II)I"⟩
abbrev cX5_append : ByteArray := prog_1_method_25_code
def yX5_append : MethodName := ⟨RX5, "append", "(I)I"⟩
abbrev cX5_clearText : ByteArray := prog_1_method_26_code
def yX5_clearText : MethodName := ⟨RX5, "clearText", "()I"⟩
abbrev cX5_parse : ByteArray := prog_1_method_27_code
def yX5_parse : MethodName := ⟨RX5, "parse", "()I"⟩
abbrev cX5_undo : ByteArray := prog_1_method_28_code
def yX5_undo : MethodName := ⟨RX5, "undo", "()I"⟩
abbrev cX5_digest : ByteArray := prog_1_method_29_code
def yX5_digest : MethodName := ⟨RX5, "digest", "()J"⟩
abbrev cX5_isIn : ByteArray := prog_1_method_30_code
def yX5_isIn : MethodName := ⟨RX5, "isIn", "(III)Z"⟩
abbrev cX5_areCycles : ByteArray := prog_1_method_31_code
def yX5_areCycles : MethodName := ⟨RX5, "areCycles", "(II)Z"⟩
abbrev cX5_needMachine : ByteArray := prog_1_method_32_code
def yX5_needMachine : MethodName := ⟨RX5, "needMachine", "(I)V"⟩
abbrev cX5_needMachines : ByteArray := prog_1_method_33_code
def yX5_needMachines : MethodName := ⟨RX5, "needMachines", "(I)V"⟩
abbrev cX5_needWhat : ByteArray := prog_1_method_34_code
def yX5_needWhat : MethodName := ⟨RX5, "needWhat", "(II)V"⟩
abbrev cX5_needHorizon : ByteArray := prog_1_method_35_code
def yX5_needHorizon : MethodName := ⟨RX5, "needHorizon", "(II)V"⟩
abbrev cX5_tryCapacity : ByteArray := prog_1_method_36_code
def yX5_tryCapacity : MethodName := ⟨RX5, "tryCapacity", "(III)I"⟩
def RX6 : String := "LineBuffersModel"
def TX6 : u_T := fun k => match k with
  | 0 => ("LineBuffersModel", "now", "[I", true)
  | 1 => ("LineBuffersModel", "past", "[I", true)
  | 2 => ("LineBuffersModel", "aside", "[I", true)
  | 3 => ("LineBuffersModel", "saved", "I", false)
  | 4 => ("LineBuffersModel", "refusal", "I", false)
  | 5 => ("LineBuffersModel", "text", "[I", true)
  | 6 => ("LineBuffersModel", "length", "I", false)
  | 7 => ("LineBuffersModel", "down", "[I", true)
  | 8 => ("LineBuffersModel", "draw", "J", false)
  | 9 => ("LineBuffersModel", "spot", "I", false)
  | 10 => ("LineBuffersModel", "value", "I", false)
  | _ => ("LineBuffersModel", "hash", "J", false)
def tyX6 : Nat → FieldType := fun k => match k with
  | 0 => .array .int
  | 1 => .array .int
  | 2 => .array .int
  | 3 => .int
  | 4 => .int
  | 5 => .array .int
  | 6 => .int
  | 7 => .array .int
  | 8 => .long
  | 9 => .int
  | 10 => .int
  | _ => .long
abbrev wsX60 : List Cond := u_ws RX6 TX6 12
theorem nmX6 : ∀ a, a < 12 → ∀ b, b < 12 → a ≠ b → (TX6 a).2.1 ≠ (TX6 b).2.1 := by decide +kernel
theorem tyX6_ok : ∀ k, k < 12 → parseFieldDescriptor (TX6 k).2.2.1 = some (tyX6 k) := by decide +kernel
abbrev cX6_init : ByteArray := prog_8_method_1_code
def yX6_init : MethodName := ⟨RX6, "<init>", "()V"⟩
abbrev cX6_thrown : ByteArray := prog_8_method_2_code
def yX6_thrown : MethodName := ⟨RX6, "thrown", "()I"⟩
abbrev cX6_refused : ByteArray := prog_8_method_3_code
def yX6_refused : MethodName := ⟨RX6, "refused", "(I)Z"⟩
abbrev cX6_within : ByteArray := prog_8_method_4_code
def yX6_within : MethodName := ⟨RX6, "within", "(III)Z"⟩
abbrev cX6_isMachine : ByteArray := prog_8_method_5_code
def yX6_isMachine : MethodName := ⟨RX6, "isMachine", "(I)Z"⟩
abbrev cX6_of : ByteArray := prog_8_method_6_code
def yX6_of : MethodName := ⟨RX6, "of", "(I)I"⟩
abbrev cX6_saves : ByteArray := prog_8_method_7_code
def yX6_saves : MethodName := ⟨RX6, "saves", "()V"⟩
abbrev cX6_undo : ByteArray := prog_8_method_8_code
def yX6_undo : MethodName := ⟨RX6, "undo", "()I"⟩
abbrev cX6_keeps : ByteArray := prog_8_method_9_code
def yX6_keeps : MethodName := ⟨RX6, "keeps", "()V"⟩
abbrev cX6_takesBack : ByteArray := prog_8_method_10_code
def yX6_takesBack : MethodName := ⟨RX6, "takesBack", "()V"⟩
abbrev cX6_areCycles : ByteArray := prog_8_method_11_code
def yX6_areCycles : MethodName := ⟨RX6, "areCycles", "(II)Z"⟩
abbrev cX6_isCapacity : ByteArray := prog_8_method_12_code
def yX6_isCapacity : MethodName := ⟨RX6, "isCapacity", "(I)Z"⟩
abbrev cX6_adds : ByteArray := prog_8_method_13_code
def yX6_adds : MethodName := ⟨RX6, "adds", "(III)V"⟩
abbrev cX6_addMachine : ByteArray := prog_8_method_14_code
def yX6_addMachine : MethodName := ⟨RX6, "addMachine", "(III)I"⟩
abbrev cX6_areMarks : ByteArray := prog_8_method_15_code
def yX6_areMarks : MethodName := ⟨RX6, "areMarks", "(II)Z"⟩
abbrev cX6_setMachine : ByteArray := prog_8_method_16_code
def yX6_setMachine : MethodName := ⟨RX6, "setMachine", "(IIIII)I"⟩
abbrev cX6_setCapacity : ByteArray := prog_8_method_17_code
def yX6_setCapacity : MethodName := ⟨RX6, "setCapacity", "(II)I"⟩
abbrev cX6_plans : ByteArray := prog_8_method_18_code
def yX6_plans : MethodName := ⟨RX6, "plans", "(III)V"⟩
abbrev cX6_addStop : ByteArray := prog_8_method_19_code
def yX6_addStop : MethodName := ⟨RX6, "addStop", "(III)I"⟩
abbrev cX6_draws : ByteArray := prog_8_method_20_code
def yX6_draws : MethodName := ⟨RX6, "draws", "()I"⟩
abbrev cX6_addRandomStops : ByteArray := prog_8_method_21_code
def yX6_addRandomStops : MethodName := ⟨RX6, "addRandomStops", "(IIIII)I"⟩
abbrev cX6_clearStops : ByteArray := prog_8_method_22_code
def yX6_clearStops : MethodName := ⟨RX6, "clearStops", "()I"⟩
abbrev cX6_size : ByteArray := prog_8_method_23_code
def yX6_size : MethodName := ⟨RX6, "size", "(Z)I"⟩
abbrev cX6_stop : ByteArray := prog_8_method_24_code
def yX6_stop : MethodName := ⟨RX6, "stop", "(II)I"⟩
abbrev cX6_laysDown : ByteArray := prog_8_method_25_code
def yX6_laysDown : MethodName := ⟨RX6, "laysDown", "(II)V"⟩
abbrev cX6_isDown : ByteArray := prog_8_method_26_code
def yX6_isDown : MethodName := ⟨RX6, "isDown", "(II)Z"⟩
abbrev cX6_cycle : ByteArray := prog_8_method_27_code
def yX6_cycle : MethodName := ⟨RX6, "cycle", "(I)I"⟩
abbrev cX6_speeds : ByteArray := prog_8_method_28_code
def yX6_speeds : MethodName := ⟨RX6, "speeds", "(I)V"⟩
abbrev cX6_leaves : ByteArray := prog_8_method_29_code
def yX6_leaves : MethodName := ⟨RX6, "leaves", "(II)V"⟩
abbrev cX6_takes : ByteArray := prog_8_method_30_code
def yX6_takes : MethodName := ⟨RX6, "takes", "(I)V"⟩
abbrev cX6_turns : ByteArray := prog_8_method_31_code
def yX6_turns : MethodName := ⟨RX6, "turns", "(II)I"⟩
abbrev cX6_passes : ByteArray := prog_8_method_32_code
def yX6_passes : MethodName := ⟨RX6, "passes", "()V"⟩
abbrev cX6_made : ByteArray := prog_8_method_33_code
def yX6_made : MethodName := ⟨RX6, "made", "()I"⟩
abbrev cX6_goes : ByteArray := prog_8_method_34_code
def yX6_goes : MethodName := ⟨RX6, "goes", "(I)I"⟩
abbrev cX6_run : ByteArray := prog_8_method_35_code
def yX6_run : MethodName := ⟨RX6, "run", "(I)I"⟩
abbrev cX6_empties : ByteArray := prog_8_method_36_code
def yX6_empties : MethodName := ⟨RX6, "empties", "()V"⟩
abbrev cX6_restart : ByteArray := prog_8_method_37_code
def yX6_restart : MethodName := ⟨RX6, "restart", "()I"⟩
abbrev cX6_now : ByteArray := prog_8_method_38_code
def yX6_now : MethodName := ⟨RX6, "now", "()I"⟩
abbrev cX6_output : ByteArray := prog_8_method_39_code
def yX6_output : MethodName := ⟨RX6, "output", "()I"⟩
abbrev cX6_setting : ByteArray := prog_8_method_40_code
def yX6_setting : MethodName := ⟨RX6, "setting", "(II)I"⟩
abbrev cX6_tellMachine : ByteArray := prog_8_method_41_code
def yX6_tellMachine : MethodName := ⟨RX6, "tellMachine", "(II)I"⟩
abbrev cX6_machine : ByteArray := prog_8_method_42_code
def yX6_machine : MethodName := ⟨RX6, "machine", "(II)I"⟩
abbrev cX6_count : ByteArray := prog_8_method_43_code
def yX6_count : MethodName := ⟨RX6, "count", "(II)I"⟩
abbrev cX6_meanFill : ByteArray := prog_8_method_44_code
def yX6_meanFill : MethodName := ⟨RX6, "meanFill", "(I)D"⟩
abbrev cX6_bottles : ByteArray := prog_8_method_45_code
def yX6_bottles : MethodName := ⟨RX6, "bottles", "()I"⟩
abbrev cX6_inside : ByteArray := prog_8_method_46_code
def yX6_inside : MethodName := ⟨RX6, "inside", "()I"⟩
abbrev cX6_most : ByteArray := prog_8_method_47_code
def yX6_most : MethodName := ⟨RX6, "most", "(II)I"⟩
abbrev cX6_slowestOf : ByteArray := prog_8_method_48_code
def yX6_slowestOf : MethodName := ⟨RX6, "slowestOf", "(I)I"⟩
abbrev cX6_refusedLimit : ByteArray := prog_8_method_49_code
def yX6_refusedLimit : MethodName := ⟨RX6, "refusedLimit", "(I)Z"⟩
abbrev cX6_bound : ByteArray := prog_8_method_50_code
def yX6_bound : MethodName := ⟨RX6, "bound", "(I)I"⟩
abbrev cX6_slowest : ByteArray := prog_8_method_51_code
def yX6_slowest : MethodName := ⟨RX6, "slowest", "(I)I"⟩
abbrev cX6_idle : ByteArray := prog_8_method_52_code
def yX6_idle : MethodName := ⟨RX6, "idle", "(I)I"⟩
abbrev cX6_limiting : ByteArray := prog_8_method_53_code
def yX6_limiting : MethodName := ⟨RX6, "limiting", "()I"⟩
abbrev cX6_madeWith : ByteArray := prog_8_method_54_code
def yX6_madeWith : MethodName := ⟨RX6, "madeWith", "(III)I"⟩
abbrev cX6_areTicks : ByteArray := prog_8_method_55_code
def yX6_areTicks : MethodName := ⟨RX6, "areTicks", "(I)Z"⟩
abbrev cX6_outputWith : ByteArray := prog_8_method_56_code
def yX6_outputWith : MethodName := ⟨RX6, "outputWith", "(III)I"⟩
abbrev cX6_capacityFor : ByteArray := prog_8_method_57_code
def yX6_capacityFor : MethodName := ⟨RX6, "capacityFor", "(III)I"⟩
abbrev cX6_bestBuffer : ByteArray := prog_8_method_58_code
def yX6_bestBuffer : MethodName := ⟨RX6, "bestBuffer", "(II)I"⟩
abbrev cX6_append : ByteArray := prog_8_method_59_code
def yX6_append : MethodName := ⟨RX6, "append", "(I)I"⟩
abbrev cX6_clearText : ByteArray := prog_8_method_60_code
def yX6_clearText : MethodName := ⟨RX6, "clearText", "()I"⟩
abbrev cX6_isAt : ByteArray := prog_8_method_61_code
def yX6_isAt : MethodName := ⟨RX6, "isAt", "(II)Z"⟩
abbrev cX6_sign : ByteArray := prog_8_method_62_code
def yX6_sign : MethodName := ⟨RX6, "sign", "(I)Z"⟩
abbrev cX6_number : ByteArray := prog_8_method_63_code
def yX6_number : MethodName := ⟨RX6, "number", "(II)Z"⟩
abbrev cX6_readsMachine : ByteArray := prog_8_method_64_code
def yX6_readsMachine : MethodName := ⟨RX6, "readsMachine", "()Z"⟩
abbrev cX6_readsMarks : ByteArray := prog_8_method_65_code
def yX6_readsMarks : MethodName := ⟨RX6, "readsMarks", "()Z"⟩
abbrev cX6_parse : ByteArray := prog_8_method_66_code
def yX6_parse : MethodName := ⟨RX6, "parse", "()I"⟩
abbrev cX6_mix : ByteArray := prog_8_method_67_code
def yX6_mix : MethodName := ⟨RX6, "mix", "(I)V"⟩
abbrev cX6_digest : ByteArray := prog_8_method_68_code
def yX6_digest : MethodName := ⟨RX6, "digest", "()J"⟩
def RJ9 : String := "java/lang/Math"
def TJ9 : u_T := fun k => match k with
  | _ => ("", "", "", false)
def tyJ9 : Nat → FieldType := fun k => match k with
  | _ => .int
abbrev wsJ90 : List Cond := u_ws RJ9 TJ9 0
theorem nmJ9 : ∀ a, a < 0 → ∀ b, b < 0 → a ≠ b → (TJ9 a).2.1 ≠ (TJ9 b).2.1 := by decide +kernel
theorem tyJ9_ok : ∀ k, k < 0 → parseFieldDescriptor (TJ9 k).2.2.1 = some (tyJ9 k) := by decide +kernel
abbrev cJ9_min_7cf53 : ByteArray := prog_13_method_69_code
def yJ9_min_7cf53 : MethodName := ⟨RJ9, "min", "(II)I"⟩
def RJ0 : String := "java/lang/String"
def TJ0 : u_T := fun k => match k with
  | _ => ("", "", "", false)
def tyJ0 : Nat → FieldType := fun k => match k with
  | _ => .int
abbrev wsJ00 : List Cond := u_ws RJ0 TJ0 0
theorem nmJ0 : ∀ a, a < 0 → ∀ b, b < 0 → a ≠ b → (TJ0 a).2.1 ≠ (TJ0 b).2.1 := by decide +kernel
theorem tyJ0_ok : ∀ k, k < 0 → parseFieldDescriptor (TJ0 k).2.2.1 = some (tyJ0 k) := by decide +kernel
def RJ10 : String := "java/lang/System"
def TJ10 : u_T := fun k => match k with
  | _ => ("", "", "", false)
def tyJ10 : Nat → FieldType := fun k => match k with
  | _ => .int
abbrev wsJ100 : List Cond := u_ws RJ10 TJ10 0
theorem nmJ10 : ∀ a, a < 0 → ∀ b, b < 0 → a ≠ b → (TJ10 a).2.1 ≠ (TJ10 b).2.1 := by decide +kernel
theorem tyJ10_ok : ∀ k, k < 0 → parseFieldDescriptor (TJ10 k).2.2.1 = some (tyJ10 k) := by decide +kernel
def RL : String := "LineBuffersLaw"
abbrev cL_addMachine : ByteArray := method_3_code
def yL_addMachine : MethodName := ⟨RL, "addMachine", "(LLineBuffers;III[J)I"⟩
abbrev cL_setMachine : ByteArray := method_4_code
def yL_setMachine : MethodName := ⟨RL, "setMachine", "(LLineBuffers;IIIII[J)I"⟩
abbrev cL_setCapacity : ByteArray := method_5_code
def yL_setCapacity : MethodName := ⟨RL, "setCapacity", "(LLineBuffers;II[J)I"⟩
abbrev cL_addStop : ByteArray := method_6_code
def yL_addStop : MethodName := ⟨RL, "addStop", "(LLineBuffers;III[J)I"⟩
abbrev cL_addRandomStops : ByteArray := method_7_code
def yL_addRandomStops : MethodName := ⟨RL, "addRandomStops", "(LLineBuffers;IIIII[J)I"⟩
abbrev cL_stop : ByteArray := method_8_code
def yL_stop : MethodName := ⟨RL, "stop", "(LLineBuffers;II[J)I"⟩
abbrev cL_run : ByteArray := method_9_code
def yL_run : MethodName := ⟨RL, "run", "(LLineBuffers;I[J)I"⟩
abbrev cL_setting : ByteArray := method_10_code
def yL_setting : MethodName := ⟨RL, "setting", "(LLineBuffers;II[J)I"⟩
abbrev cL_machine : ByteArray := method_11_code
def yL_machine : MethodName := ⟨RL, "machine", "(LLineBuffers;II[J)I"⟩
abbrev cL_count : ByteArray := method_12_code
def yL_count : MethodName := ⟨RL, "count", "(LLineBuffers;II[J)I"⟩
abbrev cL_meanFill : ByteArray := method_13_code
def yL_meanFill : MethodName := ⟨RL, "meanFill", "(LLineBuffers;I[D)I"⟩
abbrev cL_bound : ByteArray := method_14_code
def yL_bound : MethodName := ⟨RL, "bound", "(LLineBuffers;I[J)I"⟩
abbrev cL_limiting : ByteArray := method_15_code
def yL_limiting : MethodName := ⟨RL, "limiting", "(LLineBuffers;[J)I"⟩
abbrev cL_slowest : ByteArray := method_16_code
def yL_slowest : MethodName := ⟨RL, "slowest", "(LLineBuffers;I[J)I"⟩
abbrev cL_outputWith : ByteArray := method_17_code
def yL_outputWith : MethodName := ⟨RL, "outputWith", "(LLineBuffers;III[J)I"⟩
abbrev cL_capacityFor : ByteArray := method_18_code
def yL_capacityFor : MethodName := ⟨RL, "capacityFor", "(LLineBuffers;III[J)I"⟩
abbrev cL_bestBuffer : ByteArray := method_19_code
def yL_bestBuffer : MethodName := ⟨RL, "bestBuffer", "(LLineBuffers;II[J)I"⟩
abbrev cL_append : ByteArray := method_20_code
def yL_append : MethodName := ⟨RL, "append", "(LLineBuffers;I[J)I"⟩
abbrev cL_undo : ByteArray := method_21_code
def yL_undo : MethodName := ⟨RL, "undo", "(LLineBuffers;[J)I"⟩
abbrev cL_law : ByteArray := code
def yL_law : MethodName := ⟨RL, "law", "([I)Z"⟩
def wsX0_init : List Cond := .code yX0_init cX0_init 2 none :: ([.methodLink RX0 1 objectInit, .instanceMethod objectInit, .code objectInit ⟨#[0xb1]⟩ 1 none, .fieldLink RX0 7 "LineBuffers$Draws" "state" "J"] ++ wsX00)
def wsX0_drawBelow : List Cond := .code yX0_drawBelow cX0_drawBelow 2 (some .int) :: ([.constantLong RX0 13 (1103515245), .fieldLink RX0 7 "LineBuffers$Draws" "state" "J", .constantLong RX0 15 (12345), .constantLong RX0 17 (2147483648), .constantLong RX0 19 (65536)] ++ wsX00)
def wsX4_init : List Cond := .code yX4_init cX4_init 1 none :: ([.methodLink RX4 3 objectInit, .instanceMethod objectInit, .code objectInit ⟨#[0xb1]⟩ 1 none, .arrayClass .int, .fieldLink RX4 9 "LineBuffers$Stops" "machineOf" "[I", .fieldLink RX4 15 "LineBuffers$Stops" "firstOf" "[I", .fieldLink RX4 18 "LineBuffers$Stops" "durationOf" "[I"] ++ wsX40)
def wsX2_init : List Cond := .code yX2_init cX2_init 1 none :: ([.methodLink RX2 3 objectInit, .instanceMethod objectInit, .code objectInit ⟨#[0xb1]⟩ 1 none, .classLink RX2 9 "[[I", .arrayClass .int, .fieldLink RX2 11 "LineBuffers$Line" "rows" "[[I", .classLink RX2 16 RX4, .instantiable RX4 5, .initialized RX4, .fieldLink RX2 19 "LineBuffers$Line" "stops" "LLineBuffers$Stops;", .instanceMethod yX4_init, .code yX4_init cX4_init 1 none, .methodLink RX4 3 objectInit, .fieldLink RX4 9 "LineBuffers$Stops" "machineOf" "[I", .fieldLink RX4 15 "LineBuffers$Stops" "firstOf" "[I", .fieldLink RX4 18 "LineBuffers$Stops" "durationOf" "[I"] ++ wsX20 ++ wsX40)
def wsX1_init : List Cond := .code yX1_init cX1_init 2 none :: ([.methodLink RX1 3 objectInit, .instanceMethod objectInit, .code objectInit ⟨#[0xb1]⟩ 1 none, .classLink RX1 9 RX2, .fieldLink RX1 11 "LineBuffers$History" "places" "[LLineBuffers$Line;", .instantiable RX2 4, .initialized RX2, .instanceMethod yX2_init, .code yX2_init cX2_init 1 none, .methodLink RX2 3 objectInit, .classLink RX2 9 "[[I", .arrayClass .int, .fieldLink RX2 11 "LineBuffers$Line" "rows" "[[I", .classLink RX2 16 RX4, .instantiable RX4 5, .initialized RX4, .fieldLink RX2 19 "LineBuffers$Line" "stops" "LLineBuffers$Stops;", .instanceMethod yX4_init, .code yX4_init cX4_init 1 none, .methodLink RX4 3 objectInit, .fieldLink RX4 9 "LineBuffers$Stops" "machineOf" "[I", .fieldLink RX4 15 "LineBuffers$Stops" "firstOf" "[I", .fieldLink RX4 18 "LineBuffers$Stops" "durationOf" "[I"] ++ wsX10 ++ wsX20 ++ wsX40)
def wsX4_copy : List Cond := .code yX4_copy cX4_copy 3 none :: ([.fieldLink RX4 21 "LineBuffers$Stops" "planned" "I", .fieldLink RX4 9 "LineBuffers$Stops" "machineOf" "[I", .methodLink RX4 25 arraycopyName, .native arraycopyName, .static arraycopyName, .initialized "java/lang/System", .fieldLink RX4 15 "LineBuffers$Stops" "firstOf" "[I", .fieldLink RX4 18 "LineBuffers$Stops" "durationOf" "[I"] ++ wsX40)
def wsX2_copy : List Cond := .code yX2_copy cX2_copy 3 none :: ([.fieldLink RX2 23 "LineBuffers$Line" "machines" "I", .fieldLink RX2 11 "LineBuffers$Line" "rows" "[[I", .methodLink RX2 27 arraycopyName, .native arraycopyName, .static arraycopyName, .initialized "java/lang/System", .fieldLink RX2 19 "LineBuffers$Line" "stops" "LLineBuffers$Stops;", .fieldLink RX2 37 "LineBuffers$Line" "tick" "I", .methodLink RX2 33 yX4_copy, .static yX4_copy, .initialized RX4, .code yX4_copy cX4_copy 3 none, .fieldLink RX4 21 "LineBuffers$Stops" "planned" "I", .fieldLink RX4 9 "LineBuffers$Stops" "machineOf" "[I", .methodLink RX4 25 arraycopyName, .fieldLink RX4 15 "LineBuffers$Stops" "firstOf" "[I", .fieldLink RX4 18 "LineBuffers$Stops" "durationOf" "[I"] ++ wsX20 ++ wsX40)
def wsX1_keep : List Cond := .code yX1_keep cX1_keep 2 none :: ([.fieldLink RX1 18 "LineBuffers$History" "newest" "I", .fieldLink RX1 11 "LineBuffers$History" "places" "[LLineBuffers$Line;", .fieldLink RX1 26 "LineBuffers$History" "saved" "I", .methodLink RX1 22 yX2_copy, .static yX2_copy, .initialized RX2, .code yX2_copy cX2_copy 3 none, .fieldLink RX2 23 "LineBuffers$Line" "machines" "I", .fieldLink RX2 11 "LineBuffers$Line" "rows" "[[I", .methodLink RX2 27 arraycopyName, .native arraycopyName, .static arraycopyName, .initialized "java/lang/System", .fieldLink RX2 19 "LineBuffers$Line" "stops" "LLineBuffers$Stops;", .fieldLink RX2 37 "LineBuffers$Line" "tick" "I", .methodLink RX2 33 yX4_copy, .static yX4_copy, .initialized RX4, .code yX4_copy cX4_copy 3 none, .fieldLink RX4 21 "LineBuffers$Stops" "planned" "I", .fieldLink RX4 9 "LineBuffers$Stops" "machineOf" "[I", .methodLink RX4 25 arraycopyName, .fieldLink RX4 15 "LineBuffers$Stops" "firstOf" "[I", .fieldLink RX4 18 "LineBuffers$Stops" "durationOf" "[I"] ++ wsX10 ++ wsX20 ++ wsX40)
def wsX1_giveBack : List Cond := .code yX1_giveBack cX1_giveBack 2 none :: ([.fieldLink RX1 26 "LineBuffers$History" "saved" "I", .fieldLink RX1 11 "LineBuffers$History" "places" "[LLineBuffers$Line;", .fieldLink RX1 18 "LineBuffers$History" "newest" "I", .methodLink RX1 22 yX2_copy, .static yX2_copy, .initialized RX2, .code yX2_copy cX2_copy 3 none, .fieldLink RX2 23 "LineBuffers$Line" "machines" "I", .fieldLink RX2 11 "LineBuffers$Line" "rows" "[[I", .methodLink RX2 27 arraycopyName, .native arraycopyName, .static arraycopyName, .initialized "java/lang/System", .fieldLink RX2 19 "LineBuffers$Line" "stops" "LLineBuffers$Stops;", .fieldLink RX2 37 "LineBuffers$Line" "tick" "I", .methodLink RX2 33 yX4_copy, .static yX4_copy, .initialized RX4, .code yX4_copy cX4_copy 3 none, .fieldLink RX4 21 "LineBuffers$Stops" "planned" "I", .fieldLink RX4 9 "LineBuffers$Stops" "machineOf" "[I", .methodLink RX4 25 arraycopyName, .fieldLink RX4 15 "LineBuffers$Stops" "firstOf" "[I", .fieldLink RX4 18 "LineBuffers$Stops" "durationOf" "[I"] ++ wsX10 ++ wsX20 ++ wsX40)
def wsX2_takeApart : List Cond := .code yX2_takeApart cX2_takeApart 1 none :: ([.fieldLink RX2 23 "LineBuffers$Line" "machines" "I", .fieldLink RX2 37 "LineBuffers$Line" "tick" "I", .fieldLink RX2 19 "LineBuffers$Line" "stops" "LLineBuffers$Stops;"] ++ wsX20 ++ wsX40)
def wsX2_empty : List Cond := .code yX2_empty cX2_empty 2 none :: ([])
def wsX2_join : List Cond := .code yX2_join cX2_join 5 (some .int) :: ([.fieldLink RX2 23 "LineBuffers$Line" "machines" "I", .fieldLink RX2 11 "LineBuffers$Line" "rows" "[[I", .methodLink RX2 43 yX2_empty, .static yX2_empty, .initialized RX2, .code yX2_empty cX2_empty 2 none] ++ wsX20)
def wsX2_mark : List Cond := .code yX2_mark cX2_mark 4 none :: ([.fieldLink RX2 23 "LineBuffers$Line" "machines" "I", .fieldLink RX2 11 "LineBuffers$Line" "rows" "[[I"] ++ wsX20)
def wsX2_beginAnew : List Cond := .code yX2_beginAnew cX2_beginAnew 2 none :: ([.fieldLink RX2 37 "LineBuffers$Line" "tick" "I", .fieldLink RX2 23 "LineBuffers$Line" "machines" "I", .fieldLink RX2 11 "LineBuffers$Line" "rows" "[[I", .methodLink RX2 43 yX2_empty, .static yX2_empty, .initialized RX2, .code yX2_empty cX2_empty 2 none] ++ wsX20)
def wsX4_lookAt : List Cond := .code yX4_lookAt cX4_lookAt 6 (some .int) :: ([.constant RX4 37 (2147483647), .fieldLink RX4 38 "LineBuffers$Stops" "downBits" "I", .fieldLink RX4 21 "LineBuffers$Stops" "planned" "I", .fieldLink RX4 15 "LineBuffers$Stops" "firstOf" "[I", .fieldLink RX4 18 "LineBuffers$Stops" "durationOf" "[I", .methodLink RX4 41 Lib.Math.min.name, .static Lib.Math.min.name, .initialized "java/lang/Math", .code Lib.Math.min.name Lib.Math.min.code 2 (some .int), .fieldLink RX4 9 "LineBuffers$Stops" "machineOf" "[I"] ++ wsX40)
def wsX2_chooseSpeed : List Cond := .code yX2_chooseSpeed cX2_chooseSpeed 3 none :: ([.fieldLink RX2 11 "LineBuffers$Line" "rows" "[[I", .fieldLink RX2 23 "LineBuffers$Line" "machines" "I"] ++ wsX20)
def wsX4_isDown : List Cond := .code yX4_isDown cX4_isDown 2 (some .boolean) :: ([.fieldLink RX4 38 "LineBuffers$Stops" "downBits" "I"] ++ wsX40)
def wsX2_noteTurn : List Cond := .code yX2_noteTurn cX2_noteTurn 2 none :: ([])
def wsX2_presentCycle : List Cond := .code yX2_presentCycle cX2_presentCycle 1 (some .int) :: ([])
def wsX2_release : List Cond := .code yX2_release cX2_release 4 none :: ([.fieldLink RX2 11 "LineBuffers$Line" "rows" "[[I", .fieldLink RX2 23 "LineBuffers$Line" "machines" "I", .fieldLink RX2 19 "LineBuffers$Line" "stops" "LLineBuffers$Stops;", .methodLink RX2 61 yX4_isDown, .instanceMethod yX4_isDown, .selects RX4 yX4_isDown yX4_isDown, .initialized RX4, .code yX4_isDown cX4_isDown 2 (some .boolean), .fieldLink RX4 38 "LineBuffers$Stops" "downBits" "I", .methodLink RX2 75 yX2_presentCycle, .static yX2_presentCycle, .initialized RX2, .code yX2_presentCycle cX2_presentCycle 1 (some .int)] ++ wsX20 ++ wsX40)
def wsX2_takeBottle : List Cond := .code yX2_takeBottle cX2_takeBottle 4 none :: ([.fieldLink RX2 11 "LineBuffers$Line" "rows" "[[I", .methodLink RX2 75 yX2_presentCycle, .static yX2_presentCycle, .initialized RX2, .code yX2_presentCycle cX2_presentCycle 1 (some .int)] ++ wsX20)
def wsX2_takeTurn_r1 : List Cond := [Cond.fieldLink RX2 11 "LineBuffers$Line" "rows" "[[I", Cond.fieldLink RX2 19 "LineBuffers$Line" "stops" "LLineBuffers$Stops;", Cond.methodLink RX2 58 yX2_chooseSpeed, Cond.instanceMethod yX2_chooseSpeed, Cond.selects RX2 yX2_chooseSpeed yX2_chooseSpeed, Cond.initialized RX2, Cond.code yX2_chooseSpeed cX2_chooseSpeed 3 none, Cond.fieldLink RX2 23 "LineBuffers$Line" "machines" "I", Cond.methodLink RX2 61 yX4_isDown, Cond.instanceMethod yX4_isDown, Cond.selects RX4 yX4_isDown yX4_isDown, Cond.initialized RX4, Cond.code yX4_isDown cX4_isDown 2 (some .boolean), Cond.fieldLink RX4 38 "LineBuffers$Stops" "downBits" "I", Cond.methodLink RX2 65 yX2_noteTurn, Cond.static yX2_noteTurn, Cond.code yX2_noteTurn cX2_noteTurn 2 none, Cond.methodLink RX2 69 yX2_release, Cond.instanceMethod yX2_release, Cond.selects RX2 yX2_release yX2_release, Cond.code yX2_release cX2_release 4 none, Cond.methodLink RX2 75 yX2_presentCycle, Cond.static yX2_presentCycle, Cond.code yX2_presentCycle cX2_presentCycle 1 (some .int)]
def wsX2_takeTurn_r2 : List Cond := [Cond.methodLink RX2 72 yX2_takeBottle, Cond.instanceMethod yX2_takeBottle, Cond.selects RX2 yX2_takeBottle yX2_takeBottle, Cond.code yX2_takeBottle cX2_takeBottle 4 none]
def wsX2_takeTurn : List Cond := .code yX2_takeTurn cX2_takeTurn 3 none :: ((wsX2_takeTurn_r1 ++ wsX2_takeTurn_r2) ++ wsX20 ++ wsX40)
def wsX2_countFills : List Cond := .code yX2_countFills cX2_countFills 3 none :: ([.fieldLink RX2 23 "LineBuffers$Line" "machines" "I", .fieldLink RX2 11 "LineBuffers$Line" "rows" "[[I"] ++ wsX20)
def wsX2_pass_r1 : List Cond := [Cond.fieldLink RX2 37 "LineBuffers$Line" "tick" "I", Cond.fieldLink RX2 19 "LineBuffers$Line" "stops" "LLineBuffers$Stops;", Cond.fieldLink RX2 23 "LineBuffers$Line" "machines" "I", Cond.methodLink RX2 47 yX4_lookAt, Cond.instanceMethod yX4_lookAt, Cond.selects RX4 yX4_lookAt yX4_lookAt, Cond.initialized RX4, Cond.code yX4_lookAt cX4_lookAt 6 (some .int), Cond.constant RX4 37 (2147483647), Cond.fieldLink RX4 38 "LineBuffers$Stops" "downBits" "I", Cond.fieldLink RX4 21 "LineBuffers$Stops" "planned" "I", Cond.fieldLink RX4 15 "LineBuffers$Stops" "firstOf" "[I", Cond.fieldLink RX4 18 "LineBuffers$Stops" "durationOf" "[I", Cond.methodLink RX4 41 Lib.Math.min.name, Cond.static Lib.Math.min.name, Cond.initialized "java/lang/Math", Cond.code Lib.Math.min.name Lib.Math.min.code 2 (some .int), Cond.fieldLink RX4 9 "LineBuffers$Stops" "machineOf" "[I", Cond.methodLink RX2 51 yX2_takeTurn, Cond.instanceMethod yX2_takeTurn, Cond.selects RX2 yX2_takeTurn yX2_takeTurn, Cond.initialized RX2, Cond.code yX2_takeTurn cX2_takeTurn 3 none, Cond.fieldLink RX2 11 "LineBuffers$Line" "rows" "[[I"]
def wsX2_pass_r2 : List Cond := [Cond.methodLink RX2 58 yX2_chooseSpeed, Cond.instanceMethod yX2_chooseSpeed, Cond.selects RX2 yX2_chooseSpeed yX2_chooseSpeed, Cond.code yX2_chooseSpeed cX2_chooseSpeed 3 none, Cond.methodLink RX2 61 yX4_isDown, Cond.instanceMethod yX4_isDown, Cond.selects RX4 yX4_isDown yX4_isDown, Cond.code yX4_isDown cX4_isDown 2 (some .boolean), Cond.methodLink RX2 65 yX2_noteTurn, Cond.static yX2_noteTurn, Cond.code yX2_noteTurn cX2_noteTurn 2 none, Cond.methodLink RX2 69 yX2_release, Cond.instanceMethod yX2_release, Cond.selects RX2 yX2_release yX2_release, Cond.code yX2_release cX2_release 4 none, Cond.methodLink RX2 75 yX2_presentCycle, Cond.static yX2_presentCycle, Cond.code yX2_presentCycle cX2_presentCycle 1 (some .int), Cond.methodLink RX2 72 yX2_takeBottle, Cond.instanceMethod yX2_takeBottle, Cond.selects RX2 yX2_takeBottle yX2_takeBottle, Cond.code yX2_takeBottle cX2_takeBottle 4 none, Cond.methodLink RX2 55 yX2_countFills, Cond.instanceMethod yX2_countFills]
def wsX2_pass_r3 : List Cond := [Cond.selects RX2 yX2_countFills yX2_countFills, Cond.code yX2_countFills cX2_countFills 3 none]
def wsX2_pass : List Cond := .code yX2_pass cX2_pass 5 none :: ((wsX2_pass_r1 ++ (wsX2_pass_r2 ++ wsX2_pass_r3)) ++ wsX20 ++ wsX40)
def wsX2_bottlesOut : List Cond := .code yX2_bottlesOut cX2_bottlesOut 1 (some .int) :: ([.fieldLink RX2 23 "LineBuffers$Line" "machines" "I", .fieldLink RX2 11 "LineBuffers$Line" "rows" "[[I"] ++ wsX20)
def wsX2_bottlesInside : List Cond := .code yX2_bottlesInside cX2_bottlesInside 3 (some .int) :: ([.fieldLink RX2 23 "LineBuffers$Line" "machines" "I", .fieldLink RX2 11 "LineBuffers$Line" "rows" "[[I"] ++ wsX20)
def wsX2_findLimiting : List Cond := .code yX2_findLimiting cX2_findLimiting 5 (some .int) :: ([.constant RX2 81 (2147483647), .fieldLink RX2 23 "LineBuffers$Line" "machines" "I", .fieldLink RX2 11 "LineBuffers$Line" "rows" "[[I"] ++ wsX20)
def wsX2_upTicks : List Cond := .code yX2_upTicks cX2_upTicks 7 (some .int) :: ([.fieldLink RX2 19 "LineBuffers$Line" "stops" "LLineBuffers$Stops;", .methodLink RX2 89 Lib.Math.min.name, .static Lib.Math.min.name, .initialized "java/lang/Math", .code Lib.Math.min.name Lib.Math.min.code 2 (some .int), .methodLink RX2 47 yX4_lookAt, .instanceMethod yX4_lookAt, .selects RX4 yX4_lookAt yX4_lookAt, .initialized RX4, .code yX4_lookAt cX4_lookAt 6 (some .int), .constant RX4 37 (2147483647), .fieldLink RX4 38 "LineBuffers$Stops" "downBits" "I", .fieldLink RX4 21 "LineBuffers$Stops" "planned" "I", .fieldLink RX4 15 "LineBuffers$Stops" "firstOf" "[I", .fieldLink RX4 18 "LineBuffers$Stops" "durationOf" "[I", .methodLink RX4 41 Lib.Math.min.name, .fieldLink RX4 9 "LineBuffers$Stops" "machineOf" "[I", .methodLink RX2 61 yX4_isDown, .instanceMethod yX4_isDown, .selects RX4 yX4_isDown yX4_isDown, .code yX4_isDown cX4_isDown 2 (some .boolean)] ++ wsX20 ++ wsX40)
def wsX2_mostBottles_r1 : List Cond := [Cond.fieldLink RX2 11 "LineBuffers$Line" "rows" "[[I", Cond.methodLink RX2 86 yX2_upTicks, Cond.instanceMethod yX2_upTicks, Cond.selects RX2 yX2_upTicks yX2_upTicks, Cond.initialized RX2, Cond.code yX2_upTicks cX2_upTicks 7 (some .int), Cond.fieldLink RX2 19 "LineBuffers$Line" "stops" "LLineBuffers$Stops;", Cond.methodLink RX2 89 Lib.Math.min.name, Cond.static Lib.Math.min.name, Cond.initialized "java/lang/Math", Cond.code Lib.Math.min.name Lib.Math.min.code 2 (some .int), Cond.methodLink RX2 47 yX4_lookAt, Cond.instanceMethod yX4_lookAt, Cond.selects RX4 yX4_lookAt yX4_lookAt, Cond.initialized RX4, Cond.code yX4_lookAt cX4_lookAt 6 (some .int), Cond.constant RX4 37 (2147483647), Cond.fieldLink RX4 38 "LineBuffers$Stops" "downBits" "I", Cond.fieldLink RX4 21 "LineBuffers$Stops" "planned" "I", Cond.fieldLink RX4 15 "LineBuffers$Stops" "firstOf" "[I", Cond.fieldLink RX4 18 "LineBuffers$Stops" "durationOf" "[I", Cond.methodLink RX4 41 Lib.Math.min.name, Cond.fieldLink RX4 9 "LineBuffers$Stops" "machineOf" "[I", Cond.methodLink RX2 61 yX4_isDown]
def wsX2_mostBottles_r2 : List Cond := [Cond.instanceMethod yX4_isDown, Cond.selects RX4 yX4_isDown yX4_isDown, Cond.code yX4_isDown cX4_isDown 2 (some .boolean)]
def wsX2_mostBottles : List Cond := .code yX2_mostBottles cX2_mostBottles 4 (some .int) :: ((wsX2_mostBottles_r1 ++ wsX2_mostBottles_r2) ++ wsX20 ++ wsX40)
def wsX2_findSlowest_r1 : List Cond := [Cond.constant RX2 81 (2147483647), Cond.fieldLink RX2 23 "LineBuffers$Line" "machines" "I", Cond.methodLink RX2 82 yX2_mostBottles, Cond.instanceMethod yX2_mostBottles, Cond.selects RX2 yX2_mostBottles yX2_mostBottles, Cond.initialized RX2, Cond.code yX2_mostBottles cX2_mostBottles 4 (some .int), Cond.fieldLink RX2 11 "LineBuffers$Line" "rows" "[[I", Cond.methodLink RX2 86 yX2_upTicks, Cond.instanceMethod yX2_upTicks, Cond.selects RX2 yX2_upTicks yX2_upTicks, Cond.code yX2_upTicks cX2_upTicks 7 (some .int), Cond.fieldLink RX2 19 "LineBuffers$Line" "stops" "LLineBuffers$Stops;", Cond.methodLink RX2 89 Lib.Math.min.name, Cond.static Lib.Math.min.name, Cond.initialized "java/lang/Math", Cond.code Lib.Math.min.name Lib.Math.min.code 2 (some .int), Cond.methodLink RX2 47 yX4_lookAt, Cond.instanceMethod yX4_lookAt, Cond.selects RX4 yX4_lookAt yX4_lookAt, Cond.initialized RX4, Cond.code yX4_lookAt cX4_lookAt 6 (some .int), Cond.constant RX4 37 (2147483647), Cond.fieldLink RX4 38 "LineBuffers$Stops" "downBits" "I"]
def wsX2_findSlowest_r2 : List Cond := [Cond.fieldLink RX4 21 "LineBuffers$Stops" "planned" "I", Cond.fieldLink RX4 15 "LineBuffers$Stops" "firstOf" "[I", Cond.fieldLink RX4 18 "LineBuffers$Stops" "durationOf" "[I", Cond.methodLink RX4 41 Lib.Math.min.name, Cond.fieldLink RX4 9 "LineBuffers$Stops" "machineOf" "[I", Cond.methodLink RX2 61 yX4_isDown, Cond.instanceMethod yX4_isDown, Cond.selects RX4 yX4_isDown yX4_isDown, Cond.code yX4_isDown cX4_isDown 2 (some .boolean)]
def wsX2_findSlowest : List Cond := .code yX2_findSlowest cX2_findSlowest 6 (some .int) :: ((wsX2_findSlowest_r1 ++ wsX2_findSlowest_r2) ++ wsX20 ++ wsX40)
def wsX2_mixInto : List Cond := .code yX2_mixInto cX2_mixInto 7 (some .long) :: ([.constantLong RX2 94 (31), .fieldLink RX2 37 "LineBuffers$Line" "tick" "I", .fieldLink RX2 23 "LineBuffers$Line" "machines" "I", .fieldLink RX2 11 "LineBuffers$Line" "rows" "[[I", .methodLink RX2 96 yX2_bottlesOut, .instanceMethod yX2_bottlesOut, .selects RX2 yX2_bottlesOut yX2_bottlesOut, .initialized RX2, .code yX2_bottlesOut cX2_bottlesOut 1 (some .int)] ++ wsX20)
def wsX3_init : List Cond := .code yX3_init cX3_init 1 none :: ([.methodLink RX3 3 objectInit, .instanceMethod objectInit, .code objectInit ⟨#[0xb1]⟩ 1 none, .arrayClass .int, .fieldLink RX3 9 "LineBuffers$LineText" "bytes" "[I"] ++ wsX30)
def wsX3_put : List Cond := .code yX3_put cX3_put 2 none :: ([.fieldLink RX3 15 "LineBuffers$LineText" "length" "I", .fieldLink RX3 9 "LineBuffers$LineText" "bytes" "[I"] ++ wsX30)
def wsX3_byteAt : List Cond := .code yX3_byteAt cX3_byteAt 2 (some .int) :: ([.fieldLink RX3 15 "LineBuffers$LineText" "length" "I", .fieldLink RX3 9 "LineBuffers$LineText" "bytes" "[I"] ++ wsX30)
def wsX5_isIn : List Cond := .code yX5_isIn cX5_isIn 3 (some .boolean) :: ([])
def wsX3_isDigit : List Cond := .code yX3_isDigit cX3_isDigit 1 (some .boolean) :: ([.static yX5_isIn, .initialized RX5, .code yX5_isIn cX5_isIn 3 (some .boolean)])
def wsX3_readNumber : List Cond := .code yX3_readNumber cX3_readNumber 7 (some .int) :: ([.fieldLink RX3 22 "LineBuffers$LineText" "error" "I", .fieldLink RX3 19 "LineBuffers$LineText" "at" "I", .methodLink RX3 34 yX3_byteAt, .instanceMethod yX3_byteAt, .selects RX3 yX3_byteAt yX3_byteAt, .initialized RX3, .code yX3_byteAt cX3_byteAt 2 (some .int), .fieldLink RX3 15 "LineBuffers$LineText" "length" "I", .fieldLink RX3 9 "LineBuffers$LineText" "bytes" "[I", .methodLink RX3 59 yX3_isDigit, .static yX3_isDigit, .code yX3_isDigit cX3_isDigit 1 (some .boolean), .static yX5_isIn, .initialized RX5, .code yX5_isIn cX5_isIn 3 (some .boolean)] ++ wsX30)
def wsX3_readMachine_r1 : List Cond := [Cond.fieldLink RX3 22 "LineBuffers$LineText" "error" "I", Cond.methodLink RX3 47 yX3_readNumber, Cond.instanceMethod yX3_readNumber, Cond.selects RX3 yX3_readNumber yX3_readNumber, Cond.initialized RX3, Cond.code yX3_readNumber cX3_readNumber 7 (some .int), Cond.fieldLink RX3 19 "LineBuffers$LineText" "at" "I", Cond.methodLink RX3 34 yX3_byteAt, Cond.instanceMethod yX3_byteAt, Cond.selects RX3 yX3_byteAt yX3_byteAt, Cond.code yX3_byteAt cX3_byteAt 2 (some .int), Cond.fieldLink RX3 15 "LineBuffers$LineText" "length" "I", Cond.fieldLink RX3 9 "LineBuffers$LineText" "bytes" "[I", Cond.methodLink RX3 59 yX3_isDigit, Cond.static yX3_isDigit, Cond.code yX3_isDigit cX3_isDigit 1 (some .boolean), Cond.static yX5_isIn, Cond.initialized RX5, Cond.code yX5_isIn cX5_isIn 3 (some .boolean), Cond.methodLink RX3 51 yX2_join, Cond.instanceMethod yX2_join, Cond.selects RX2 yX2_join yX2_join, Cond.initialized RX2, Cond.code yX2_join cX2_join 5 (some .int)]
def wsX3_readMachine_r2 : List Cond := [Cond.fieldLink RX2 23 "LineBuffers$Line" "machines" "I", Cond.fieldLink RX2 11 "LineBuffers$Line" "rows" "[[I", Cond.methodLink RX2 43 yX2_empty, Cond.static yX2_empty, Cond.code yX2_empty cX2_empty 2 none]
def wsX3_readMachine : List Cond := .code yX3_readMachine cX3_readMachine 5 none :: ((wsX3_readMachine_r1 ++ wsX3_readMachine_r2) ++ wsX30 ++ wsX20)
def wsX3_readMarks_r1 : List Cond := [Cond.fieldLink RX3 22 "LineBuffers$LineText" "error" "I", Cond.methodLink RX3 47 yX3_readNumber, Cond.instanceMethod yX3_readNumber, Cond.selects RX3 yX3_readNumber yX3_readNumber, Cond.initialized RX3, Cond.code yX3_readNumber cX3_readNumber 7 (some .int), Cond.fieldLink RX3 19 "LineBuffers$LineText" "at" "I", Cond.methodLink RX3 34 yX3_byteAt, Cond.instanceMethod yX3_byteAt, Cond.selects RX3 yX3_byteAt yX3_byteAt, Cond.code yX3_byteAt cX3_byteAt 2 (some .int), Cond.fieldLink RX3 15 "LineBuffers$LineText" "length" "I", Cond.fieldLink RX3 9 "LineBuffers$LineText" "bytes" "[I", Cond.methodLink RX3 59 yX3_isDigit, Cond.static yX3_isDigit, Cond.code yX3_isDigit cX3_isDigit 1 (some .boolean), Cond.static yX5_isIn, Cond.initialized RX5, Cond.code yX5_isIn cX5_isIn 3 (some .boolean), Cond.methodLink RX3 55 yX2_mark, Cond.instanceMethod yX2_mark, Cond.selects RX2 yX2_mark yX2_mark, Cond.initialized RX2, Cond.code yX2_mark cX2_mark 4 none]
def wsX3_readMarks_r2 : List Cond := [Cond.fieldLink RX2 23 "LineBuffers$Line" "machines" "I", Cond.fieldLink RX2 11 "LineBuffers$Line" "rows" "[[I"]
def wsX3_readMarks : List Cond := .code yX3_readMarks cX3_readMarks 5 none :: ((wsX3_readMarks_r1 ++ wsX3_readMarks_r2) ++ wsX20 ++ wsX30)
def wsX3_readItem_r1 : List Cond := [Cond.fieldLink RX3 19 "LineBuffers$LineText" "at" "I", Cond.fieldLink RX3 22 "LineBuffers$LineText" "error" "I", Cond.methodLink RX3 34 yX3_byteAt, Cond.instanceMethod yX3_byteAt, Cond.selects RX3 yX3_byteAt yX3_byteAt, Cond.initialized RX3, Cond.code yX3_byteAt cX3_byteAt 2 (some .int), Cond.fieldLink RX3 15 "LineBuffers$LineText" "length" "I", Cond.fieldLink RX3 9 "LineBuffers$LineText" "bytes" "[I", Cond.methodLink RX3 41 yX3_readMachine, Cond.instanceMethod yX3_readMachine, Cond.selects RX3 yX3_readMachine yX3_readMachine, Cond.code yX3_readMachine cX3_readMachine 5 none, Cond.methodLink RX3 47 yX3_readNumber, Cond.instanceMethod yX3_readNumber, Cond.selects RX3 yX3_readNumber yX3_readNumber, Cond.code yX3_readNumber cX3_readNumber 7 (some .int), Cond.methodLink RX3 59 yX3_isDigit, Cond.static yX3_isDigit, Cond.code yX3_isDigit cX3_isDigit 1 (some .boolean), Cond.static yX5_isIn, Cond.initialized RX5, Cond.code yX5_isIn cX5_isIn 3 (some .boolean), Cond.methodLink RX3 51 yX2_join]
def wsX3_readItem_r2 : List Cond := [Cond.instanceMethod yX2_join, Cond.selects RX2 yX2_join yX2_join, Cond.initialized RX2, Cond.code yX2_join cX2_join 5 (some .int), Cond.fieldLink RX2 23 "LineBuffers$Line" "machines" "I", Cond.fieldLink RX2 11 "LineBuffers$Line" "rows" "[[I", Cond.methodLink RX2 43 yX2_empty, Cond.static yX2_empty, Cond.code yX2_empty cX2_empty 2 none, Cond.methodLink RX3 44 yX3_readMarks, Cond.instanceMethod yX3_readMarks, Cond.selects RX3 yX3_readMarks yX3_readMarks, Cond.code yX3_readMarks cX3_readMarks 5 none, Cond.methodLink RX3 55 yX2_mark, Cond.instanceMethod yX2_mark, Cond.selects RX2 yX2_mark yX2_mark, Cond.code yX2_mark cX2_mark 4 none]
def wsX3_readItem : List Cond := .code yX3_readItem cX3_readItem 3 none :: ((wsX3_readItem_r1 ++ wsX3_readItem_r2) ++ wsX30 ++ wsX20)
def wsX3_readInto_r1 : List Cond := [Cond.fieldLink RX3 19 "LineBuffers$LineText" "at" "I", Cond.fieldLink RX3 22 "LineBuffers$LineText" "error" "I", Cond.fieldLink RX3 15 "LineBuffers$LineText" "length" "I", Cond.methodLink RX3 25 yX2_takeApart, Cond.instanceMethod yX2_takeApart, Cond.selects RX2 yX2_takeApart yX2_takeApart, Cond.initialized RX2, Cond.code yX2_takeApart cX2_takeApart 1 none, Cond.fieldLink RX2 23 "LineBuffers$Line" "machines" "I", Cond.fieldLink RX2 37 "LineBuffers$Line" "tick" "I", Cond.fieldLink RX2 19 "LineBuffers$Line" "stops" "LLineBuffers$Stops;", Cond.methodLink RX3 30 yX3_readItem, Cond.instanceMethod yX3_readItem, Cond.selects RX3 yX3_readItem yX3_readItem, Cond.initialized RX3, Cond.code yX3_readItem cX3_readItem 3 none, Cond.methodLink RX3 34 yX3_byteAt, Cond.instanceMethod yX3_byteAt, Cond.selects RX3 yX3_byteAt yX3_byteAt, Cond.code yX3_byteAt cX3_byteAt 2 (some .int), Cond.fieldLink RX3 9 "LineBuffers$LineText" "bytes" "[I", Cond.methodLink RX3 41 yX3_readMachine, Cond.instanceMethod yX3_readMachine, Cond.selects RX3 yX3_readMachine yX3_readMachine]
def wsX3_readInto_r2 : List Cond := [Cond.code yX3_readMachine cX3_readMachine 5 none, Cond.methodLink RX3 47 yX3_readNumber, Cond.instanceMethod yX3_readNumber, Cond.selects RX3 yX3_readNumber yX3_readNumber, Cond.code yX3_readNumber cX3_readNumber 7 (some .int), Cond.methodLink RX3 59 yX3_isDigit, Cond.static yX3_isDigit, Cond.code yX3_isDigit cX3_isDigit 1 (some .boolean), Cond.static yX5_isIn, Cond.initialized RX5, Cond.code yX5_isIn cX5_isIn 3 (some .boolean), Cond.methodLink RX3 51 yX2_join, Cond.instanceMethod yX2_join, Cond.selects RX2 yX2_join yX2_join, Cond.code yX2_join cX2_join 5 (some .int), Cond.fieldLink RX2 11 "LineBuffers$Line" "rows" "[[I", Cond.methodLink RX2 43 yX2_empty, Cond.static yX2_empty, Cond.code yX2_empty cX2_empty 2 none, Cond.methodLink RX3 44 yX3_readMarks, Cond.instanceMethod yX3_readMarks, Cond.selects RX3 yX3_readMarks yX3_readMarks, Cond.code yX3_readMarks cX3_readMarks 5 none, Cond.methodLink RX3 55 yX2_mark]
def wsX3_readInto_r3 : List Cond := [Cond.instanceMethod yX2_mark, Cond.selects RX2 yX2_mark yX2_mark, Cond.code yX2_mark cX2_mark 4 none]
def wsX3_readInto : List Cond := .code yX3_readInto cX3_readInto 3 (some .int) :: ((wsX3_readInto_r1 ++ (wsX3_readInto_r2 ++ wsX3_readInto_r3)) ++ wsX30 ++ wsX20 ++ wsX40)
def wsX4_plan : List Cond := .code yX4_plan cX4_plan 4 none :: ([.fieldLink RX4 21 "LineBuffers$Stops" "planned" "I", .fieldLink RX4 9 "LineBuffers$Stops" "machineOf" "[I", .fieldLink RX4 15 "LineBuffers$Stops" "firstOf" "[I", .fieldLink RX4 18 "LineBuffers$Stops" "durationOf" "[I"] ++ wsX40)
def wsX4_dropAfter : List Cond := .code yX4_dropAfter cX4_dropAfter 4 (some .int) :: ([.fieldLink RX4 21 "LineBuffers$Stops" "planned" "I", .fieldLink RX4 15 "LineBuffers$Stops" "firstOf" "[I", .fieldLink RX4 9 "LineBuffers$Stops" "machineOf" "[I", .fieldLink RX4 18 "LineBuffers$Stops" "durationOf" "[I", .methodLink RX4 31 yX4_plan, .instanceMethod yX4_plan, .selects RX4 yX4_plan yX4_plan, .initialized RX4, .code yX4_plan cX4_plan 4 none] ++ wsX40)
def wsX4_value : List Cond := .code yX4_value cX4_value 3 (some .int) :: ([.fieldLink RX4 9 "LineBuffers$Stops" "machineOf" "[I", .fieldLink RX4 15 "LineBuffers$Stops" "firstOf" "[I", .fieldLink RX4 18 "LineBuffers$Stops" "durationOf" "[I"] ++ wsX40)
def wsX4_mixInto : List Cond := .code yX4_mixInto cX4_mixInto 7 (some .long) :: ([.constantLong RX4 47 (31), .fieldLink RX4 21 "LineBuffers$Stops" "planned" "I", .methodLink RX4 49 yX4_value, .instanceMethod yX4_value, .selects RX4 yX4_value yX4_value, .initialized RX4, .code yX4_value cX4_value 3 (some .int), .fieldLink RX4 9 "LineBuffers$Stops" "machineOf" "[I", .fieldLink RX4 15 "LineBuffers$Stops" "firstOf" "[I", .fieldLink RX4 18 "LineBuffers$Stops" "durationOf" "[I"] ++ wsX40)
def wsX5_init_r1 : List Cond := [Cond.methodLink RX5 1 objectInit, Cond.instanceMethod objectInit, Cond.code objectInit ⟨#[0xb1]⟩ 1 none, Cond.classLink RX5 7 RX2, Cond.instantiable RX2 4, Cond.initialized RX2, Cond.fieldLink RX5 10 "LineBuffers" "line" "LLineBuffers$Line;", Cond.fieldLink RX5 16 "LineBuffers" "trial" "LLineBuffers$Line;", Cond.classLink RX5 19 RX1, Cond.instantiable RX1 3, Cond.initialized RX1, Cond.fieldLink RX5 22 "LineBuffers" "history" "LLineBuffers$History;", Cond.classLink RX5 26 RX3, Cond.instantiable RX3 4, Cond.initialized RX3, Cond.fieldLink RX5 29 "LineBuffers" "text" "LLineBuffers$LineText;", Cond.instanceMethod yX2_init, Cond.code yX2_init cX2_init 1 none, Cond.methodLink RX2 3 objectInit, Cond.classLink RX2 9 "[[I", Cond.arrayClass .int, Cond.fieldLink RX2 11 "LineBuffers$Line" "rows" "[[I", Cond.classLink RX2 16 RX4, Cond.instantiable RX4 5]
def wsX5_init_r2 : List Cond := [Cond.initialized RX4, Cond.fieldLink RX2 19 "LineBuffers$Line" "stops" "LLineBuffers$Stops;", Cond.instanceMethod yX4_init, Cond.code yX4_init cX4_init 1 none, Cond.methodLink RX4 3 objectInit, Cond.fieldLink RX4 9 "LineBuffers$Stops" "machineOf" "[I", Cond.fieldLink RX4 15 "LineBuffers$Stops" "firstOf" "[I", Cond.fieldLink RX4 18 "LineBuffers$Stops" "durationOf" "[I", Cond.methodLink RX5 21 yX1_init, Cond.instanceMethod yX1_init, Cond.code yX1_init cX1_init 2 none, Cond.methodLink RX1 3 objectInit, Cond.classLink RX1 9 RX2, Cond.fieldLink RX1 11 "LineBuffers$History" "places" "[LLineBuffers$Line;", Cond.instanceMethod yX3_init, Cond.code yX3_init cX3_init 1 none, Cond.methodLink RX3 3 objectInit, Cond.fieldLink RX3 9 "LineBuffers$LineText" "bytes" "[I"]
def wsX5_init : List Cond := .code yX5_init cX5_init 1 none :: ((wsX5_init_r1 ++ wsX5_init_r2) ++ wsX20 ++ wsX50 ++ wsX10 ++ wsX30 ++ wsX40)
def wsX5_areCycles : List Cond := .code yX5_areCycles cX5_areCycles 2 (some .boolean) :: ([.methodLink RX5 37 yX5_isIn, .static yX5_isIn, .initialized RX5, .code yX5_isIn cX5_isIn 3 (some .boolean)])
def wsX5_addMachine_r1 : List Cond := [Cond.classLink RX5 41 "java/lang/IllegalArgumentException", Cond.initialized "java/lang/IllegalArgumentException", Cond.classLink RX5 55 "java/lang/IllegalStateException", Cond.initialized "java/lang/IllegalStateException", Cond.fieldLink RX5 10 "LineBuffers" "line" "LLineBuffers$Line;", Cond.fieldLink RX5 22 "LineBuffers" "history" "LLineBuffers$History;", Cond.methodLink RX5 33 yX5_areCycles, Cond.static yX5_areCycles, Cond.initialized RX5, Cond.code yX5_areCycles cX5_areCycles 2 (some .boolean), Cond.methodLink RX5 37 yX5_isIn, Cond.static yX5_isIn, Cond.code yX5_isIn cX5_isIn 3 (some .boolean), Cond.methodLink RX5 60 yX1_keep, Cond.instanceMethod yX1_keep, Cond.selects RX1 yX1_keep yX1_keep, Cond.initialized RX1, Cond.code yX1_keep cX1_keep 2 none, Cond.fieldLink RX1 18 "LineBuffers$History" "newest" "I", Cond.fieldLink RX1 11 "LineBuffers$History" "places" "[LLineBuffers$Line;", Cond.fieldLink RX1 26 "LineBuffers$History" "saved" "I", Cond.methodLink RX1 22 yX2_copy, Cond.static yX2_copy, Cond.initialized RX2]
def wsX5_addMachine_r2 : List Cond := [Cond.code yX2_copy cX2_copy 3 none, Cond.fieldLink RX2 23 "LineBuffers$Line" "machines" "I", Cond.fieldLink RX2 11 "LineBuffers$Line" "rows" "[[I", Cond.methodLink RX2 27 arraycopyName, Cond.native arraycopyName, Cond.static arraycopyName, Cond.initialized "java/lang/System", Cond.fieldLink RX2 19 "LineBuffers$Line" "stops" "LLineBuffers$Stops;", Cond.fieldLink RX2 37 "LineBuffers$Line" "tick" "I", Cond.methodLink RX2 33 yX4_copy, Cond.static yX4_copy, Cond.initialized RX4, Cond.code yX4_copy cX4_copy 3 none, Cond.fieldLink RX4 21 "LineBuffers$Stops" "planned" "I", Cond.fieldLink RX4 9 "LineBuffers$Stops" "machineOf" "[I", Cond.methodLink RX4 25 arraycopyName, Cond.fieldLink RX4 15 "LineBuffers$Stops" "firstOf" "[I", Cond.fieldLink RX4 18 "LineBuffers$Stops" "durationOf" "[I", Cond.methodLink RX5 64 yX2_join, Cond.instanceMethod yX2_join, Cond.selects RX2 yX2_join yX2_join, Cond.code yX2_join cX2_join 5 (some .int), Cond.methodLink RX2 43 yX2_empty, Cond.static yX2_empty]
def wsX5_addMachine_r3 : List Cond := [Cond.code yX2_empty cX2_empty 2 none]
def wsX5_addMachine : List Cond := .code yX5_addMachine cX5_addMachine 4 (some .int) :: ((wsX5_addMachine_r1 ++ (wsX5_addMachine_r2 ++ wsX5_addMachine_r3)) ++ wsX50 ++ wsX20 ++ wsX10 ++ wsX40 ++ (vx_atS RX5 45 "java/lang/IllegalArgumentException" ["java/lang/RuntimeException", "java/lang/Exception"]).filter goodWord ++ (vx_atS RX5 59 "java/lang/IllegalStateException" ["java/lang/RuntimeException", "java/lang/Exception"]).filter goodWord)
def wsX5_needMachine : List Cond := .code yX5_needMachine cX5_needMachine 2 none :: ([.classLink RX5 116 "java/lang/IndexOutOfBoundsException", .initialized "java/lang/IndexOutOfBoundsException", .fieldLink RX5 10 "LineBuffers" "line" "LLineBuffers$Line;"] ++ wsX50 ++ wsX20 ++ (vx_atS RX5 120 "java/lang/IndexOutOfBoundsException" ["java/lang/RuntimeException", "java/lang/Exception"]).filter goodWord)
def wsX5_setMachine_r1 : List Cond := [Cond.classLink RX5 41 "java/lang/IllegalArgumentException", Cond.initialized "java/lang/IllegalArgumentException", Cond.fieldLink RX5 22 "LineBuffers" "history" "LLineBuffers$History;", Cond.fieldLink RX5 10 "LineBuffers" "line" "LLineBuffers$Line;", Cond.methodLink RX5 68 yX5_needMachine, Cond.instanceMethod yX5_needMachine, Cond.selects RX5 yX5_needMachine yX5_needMachine, Cond.initialized RX5, Cond.code yX5_needMachine cX5_needMachine 2 none, Cond.classLink RX5 116 "java/lang/IndexOutOfBoundsException", Cond.initialized "java/lang/IndexOutOfBoundsException", Cond.methodLink RX5 33 yX5_areCycles, Cond.static yX5_areCycles, Cond.code yX5_areCycles cX5_areCycles 2 (some .boolean), Cond.methodLink RX5 37 yX5_isIn, Cond.static yX5_isIn, Cond.code yX5_isIn cX5_isIn 3 (some .boolean), Cond.methodLink RX5 60 yX1_keep, Cond.instanceMethod yX1_keep, Cond.selects RX1 yX1_keep yX1_keep, Cond.initialized RX1, Cond.code yX1_keep cX1_keep 2 none, Cond.fieldLink RX1 18 "LineBuffers$History" "newest" "I", Cond.fieldLink RX1 11 "LineBuffers$History" "places" "[LLineBuffers$Line;"]
def wsX5_setMachine_r2 : List Cond := [Cond.fieldLink RX1 26 "LineBuffers$History" "saved" "I", Cond.methodLink RX1 22 yX2_copy, Cond.static yX2_copy, Cond.initialized RX2, Cond.code yX2_copy cX2_copy 3 none, Cond.fieldLink RX2 23 "LineBuffers$Line" "machines" "I", Cond.fieldLink RX2 11 "LineBuffers$Line" "rows" "[[I", Cond.methodLink RX2 27 arraycopyName, Cond.native arraycopyName, Cond.static arraycopyName, Cond.initialized "java/lang/System", Cond.fieldLink RX2 19 "LineBuffers$Line" "stops" "LLineBuffers$Stops;", Cond.fieldLink RX2 37 "LineBuffers$Line" "tick" "I", Cond.methodLink RX2 33 yX4_copy, Cond.static yX4_copy, Cond.initialized RX4, Cond.code yX4_copy cX4_copy 3 none, Cond.fieldLink RX4 21 "LineBuffers$Stops" "planned" "I", Cond.fieldLink RX4 9 "LineBuffers$Stops" "machineOf" "[I", Cond.methodLink RX4 25 arraycopyName, Cond.fieldLink RX4 15 "LineBuffers$Stops" "firstOf" "[I", Cond.fieldLink RX4 18 "LineBuffers$Stops" "durationOf" "[I", Cond.methodLink RX5 78 yX2_mark, Cond.instanceMethod yX2_mark]
def wsX5_setMachine_r3 : List Cond := [Cond.selects RX2 yX2_mark yX2_mark, Cond.code yX2_mark cX2_mark 4 none]
def wsX5_setMachine : List Cond := .code yX5_setMachine cX5_setMachine 7 (some .int) :: ((wsX5_setMachine_r1 ++ (wsX5_setMachine_r2 ++ wsX5_setMachine_r3)) ++ wsX50 ++ wsX20 ++ wsX10 ++ wsX40 ++ (vx_atS RX5 45 "java/lang/IllegalArgumentException" ["java/lang/RuntimeException", "java/lang/Exception"]).filter goodWord ++ (vx_atS RX5 120 "java/lang/IndexOutOfBoundsException" ["java/lang/RuntimeException", "java/lang/Exception"]).filter goodWord)
def wsX5_setCapacity_r1 : List Cond := [Cond.classLink RX5 41 "java/lang/IllegalArgumentException", Cond.initialized "java/lang/IllegalArgumentException", Cond.fieldLink RX5 22 "LineBuffers" "history" "LLineBuffers$History;", Cond.fieldLink RX5 10 "LineBuffers" "line" "LLineBuffers$Line;", Cond.methodLink RX5 68 yX5_needMachine, Cond.instanceMethod yX5_needMachine, Cond.selects RX5 yX5_needMachine yX5_needMachine, Cond.initialized RX5, Cond.code yX5_needMachine cX5_needMachine 2 none, Cond.classLink RX5 116 "java/lang/IndexOutOfBoundsException", Cond.initialized "java/lang/IndexOutOfBoundsException", Cond.methodLink RX5 37 yX5_isIn, Cond.static yX5_isIn, Cond.code yX5_isIn cX5_isIn 3 (some .boolean), Cond.methodLink RX5 60 yX1_keep, Cond.instanceMethod yX1_keep, Cond.selects RX1 yX1_keep yX1_keep, Cond.initialized RX1, Cond.code yX1_keep cX1_keep 2 none, Cond.fieldLink RX1 18 "LineBuffers$History" "newest" "I", Cond.fieldLink RX1 11 "LineBuffers$History" "places" "[LLineBuffers$Line;", Cond.fieldLink RX1 26 "LineBuffers$History" "saved" "I", Cond.methodLink RX1 22 yX2_copy, Cond.static yX2_copy]
def wsX5_setCapacity_r2 : List Cond := [Cond.initialized RX2, Cond.code yX2_copy cX2_copy 3 none, Cond.fieldLink RX2 23 "LineBuffers$Line" "machines" "I", Cond.fieldLink RX2 11 "LineBuffers$Line" "rows" "[[I", Cond.methodLink RX2 27 arraycopyName, Cond.native arraycopyName, Cond.static arraycopyName, Cond.initialized "java/lang/System", Cond.fieldLink RX2 19 "LineBuffers$Line" "stops" "LLineBuffers$Stops;", Cond.fieldLink RX2 37 "LineBuffers$Line" "tick" "I", Cond.methodLink RX2 33 yX4_copy, Cond.static yX4_copy, Cond.initialized RX4, Cond.code yX4_copy cX4_copy 3 none, Cond.fieldLink RX4 21 "LineBuffers$Stops" "planned" "I", Cond.fieldLink RX4 9 "LineBuffers$Stops" "machineOf" "[I", Cond.methodLink RX4 25 arraycopyName, Cond.fieldLink RX4 15 "LineBuffers$Stops" "firstOf" "[I", Cond.fieldLink RX4 18 "LineBuffers$Stops" "durationOf" "[I"]
def wsX5_setCapacity : List Cond := .code yX5_setCapacity cX5_setCapacity 4 (some .int) :: ((wsX5_setCapacity_r1 ++ wsX5_setCapacity_r2) ++ wsX50 ++ wsX20 ++ wsX10 ++ wsX40 ++ (vx_atS RX5 45 "java/lang/IllegalArgumentException" ["java/lang/RuntimeException", "java/lang/Exception"]).filter goodWord ++ (vx_atS RX5 120 "java/lang/IndexOutOfBoundsException" ["java/lang/RuntimeException", "java/lang/Exception"]).filter goodWord)
def wsX5_addStop_r1 : List Cond := [Cond.classLink RX5 41 "java/lang/IllegalArgumentException", Cond.initialized "java/lang/IllegalArgumentException", Cond.classLink RX5 55 "java/lang/IllegalStateException", Cond.initialized "java/lang/IllegalStateException", Cond.fieldLink RX5 10 "LineBuffers" "line" "LLineBuffers$Line;", Cond.fieldLink RX5 22 "LineBuffers" "history" "LLineBuffers$History;", Cond.methodLink RX5 68 yX5_needMachine, Cond.instanceMethod yX5_needMachine, Cond.selects RX5 yX5_needMachine yX5_needMachine, Cond.initialized RX5, Cond.code yX5_needMachine cX5_needMachine 2 none, Cond.classLink RX5 116 "java/lang/IndexOutOfBoundsException", Cond.initialized "java/lang/IndexOutOfBoundsException", Cond.methodLink RX5 37 yX5_isIn, Cond.static yX5_isIn, Cond.code yX5_isIn cX5_isIn 3 (some .boolean), Cond.methodLink RX5 60 yX1_keep, Cond.instanceMethod yX1_keep, Cond.selects RX1 yX1_keep yX1_keep, Cond.initialized RX1, Cond.code yX1_keep cX1_keep 2 none, Cond.fieldLink RX1 18 "LineBuffers$History" "newest" "I", Cond.fieldLink RX1 11 "LineBuffers$History" "places" "[LLineBuffers$Line;", Cond.fieldLink RX1 26 "LineBuffers$History" "saved" "I"]
def wsX5_addStop_r2 : List Cond := [Cond.methodLink RX1 22 yX2_copy, Cond.static yX2_copy, Cond.initialized RX2, Cond.code yX2_copy cX2_copy 3 none, Cond.fieldLink RX2 23 "LineBuffers$Line" "machines" "I", Cond.fieldLink RX2 11 "LineBuffers$Line" "rows" "[[I", Cond.methodLink RX2 27 arraycopyName, Cond.native arraycopyName, Cond.static arraycopyName, Cond.initialized "java/lang/System", Cond.fieldLink RX2 19 "LineBuffers$Line" "stops" "LLineBuffers$Stops;", Cond.fieldLink RX2 37 "LineBuffers$Line" "tick" "I", Cond.methodLink RX2 33 yX4_copy, Cond.static yX4_copy, Cond.initialized RX4, Cond.code yX4_copy cX4_copy 3 none, Cond.fieldLink RX4 21 "LineBuffers$Stops" "planned" "I", Cond.fieldLink RX4 9 "LineBuffers$Stops" "machineOf" "[I", Cond.methodLink RX4 25 arraycopyName, Cond.fieldLink RX4 15 "LineBuffers$Stops" "firstOf" "[I", Cond.fieldLink RX4 18 "LineBuffers$Stops" "durationOf" "[I", Cond.methodLink RX5 97 yX4_plan, Cond.instanceMethod yX4_plan, Cond.selects RX4 yX4_plan yX4_plan]
def wsX5_addStop_r3 : List Cond := [Cond.code yX4_plan cX4_plan 4 none]
def wsX5_addStop : List Cond := .code yX5_addStop cX5_addStop 4 (some .int) :: ((wsX5_addStop_r1 ++ (wsX5_addStop_r2 ++ wsX5_addStop_r3)) ++ wsX50 ++ wsX20 ++ wsX40 ++ wsX10 ++ (vx_atS RX5 45 "java/lang/IllegalArgumentException" ["java/lang/RuntimeException", "java/lang/Exception"]).filter goodWord ++ (vx_atS RX5 59 "java/lang/IllegalStateException" ["java/lang/RuntimeException", "java/lang/Exception"]).filter goodWord ++ (vx_atS RX5 120 "java/lang/IndexOutOfBoundsException" ["java/lang/RuntimeException", "java/lang/Exception"]).filter goodWord)
def wsX5_addRandomStops_r1 : List Cond := [Cond.classLink RX5 41 "java/lang/IllegalArgumentException", Cond.initialized "java/lang/IllegalArgumentException", Cond.classLink RX5 55 "java/lang/IllegalStateException", Cond.initialized "java/lang/IllegalStateException", Cond.constant RX5 100 (999999), Cond.fieldLink RX5 10 "LineBuffers" "line" "LLineBuffers$Line;", Cond.fieldLink RX5 22 "LineBuffers" "history" "LLineBuffers$History;", Cond.classLink RX5 105 RX0, Cond.instantiable RX0 1, Cond.initialized RX0, Cond.methodLink RX5 68 yX5_needMachine, Cond.instanceMethod yX5_needMachine, Cond.selects RX5 yX5_needMachine yX5_needMachine, Cond.initialized RX5, Cond.code yX5_needMachine cX5_needMachine 2 none, Cond.classLink RX5 116 "java/lang/IndexOutOfBoundsException", Cond.initialized "java/lang/IndexOutOfBoundsException", Cond.methodLink RX5 37 yX5_isIn, Cond.static yX5_isIn, Cond.code yX5_isIn cX5_isIn 3 (some .boolean), Cond.methodLink RX5 60 yX1_keep, Cond.instanceMethod yX1_keep, Cond.selects RX1 yX1_keep yX1_keep, Cond.initialized RX1]
def wsX5_addRandomStops_r2 : List Cond := [Cond.code yX1_keep cX1_keep 2 none, Cond.fieldLink RX1 18 "LineBuffers$History" "newest" "I", Cond.fieldLink RX1 11 "LineBuffers$History" "places" "[LLineBuffers$Line;", Cond.fieldLink RX1 26 "LineBuffers$History" "saved" "I", Cond.methodLink RX1 22 yX2_copy, Cond.static yX2_copy, Cond.initialized RX2, Cond.code yX2_copy cX2_copy 3 none, Cond.fieldLink RX2 23 "LineBuffers$Line" "machines" "I", Cond.fieldLink RX2 11 "LineBuffers$Line" "rows" "[[I", Cond.methodLink RX2 27 arraycopyName, Cond.native arraycopyName, Cond.static arraycopyName, Cond.initialized "java/lang/System", Cond.fieldLink RX2 19 "LineBuffers$Line" "stops" "LLineBuffers$Stops;", Cond.fieldLink RX2 37 "LineBuffers$Line" "tick" "I", Cond.methodLink RX2 33 yX4_copy, Cond.static yX4_copy, Cond.initialized RX4, Cond.code yX4_copy cX4_copy 3 none, Cond.fieldLink RX4 21 "LineBuffers$Stops" "planned" "I", Cond.fieldLink RX4 9 "LineBuffers$Stops" "machineOf" "[I", Cond.methodLink RX4 25 arraycopyName, Cond.fieldLink RX4 15 "LineBuffers$Stops" "firstOf" "[I"]
def wsX5_addRandomStops_r3 : List Cond := [Cond.fieldLink RX4 18 "LineBuffers$Stops" "durationOf" "[I", Cond.methodLink RX5 107 yX0_init, Cond.instanceMethod yX0_init, Cond.code yX0_init cX0_init 2 none, Cond.methodLink RX0 1 objectInit, Cond.instanceMethod objectInit, Cond.code objectInit ⟨#[0xb1]⟩ 1 none, Cond.fieldLink RX0 7 "LineBuffers$Draws" "state" "J", Cond.methodLink RX5 109 yX0_drawBelow, Cond.instanceMethod yX0_drawBelow, Cond.selects RX0 yX0_drawBelow yX0_drawBelow, Cond.code yX0_drawBelow cX0_drawBelow 2 (some .int), Cond.constantLong RX0 13 (1103515245), Cond.constantLong RX0 15 (12345), Cond.constantLong RX0 17 (2147483648), Cond.constantLong RX0 19 (65536), Cond.methodLink RX5 97 yX4_plan, Cond.instanceMethod yX4_plan, Cond.selects RX4 yX4_plan yX4_plan, Cond.code yX4_plan cX4_plan 4 none]
def wsX5_addRandomStops : List Cond := .code yX5_addRandomStops cX5_addRandomStops 11 (some .int) :: ((wsX5_addRandomStops_r1 ++ (wsX5_addRandomStops_r2 ++ wsX5_addRandomStops_r3)) ++ wsX50 ++ wsX20 ++ wsX40 ++ wsX00 ++ wsX10 ++ (vx_atS RX5 45 "java/lang/IllegalArgumentException" ["java/lang/RuntimeException", "java/lang/Exception"]).filter goodWord ++ (vx_atS RX5 59 "java/lang/IllegalStateException" ["java/lang/RuntimeException", "java/lang/Exception"]).filter goodWord ++ (vx_atS RX5 120 "java/lang/IndexOutOfBoundsException" ["java/lang/RuntimeException", "java/lang/Exception"]).filter goodWord)
def wsX5_clearStops_r1 : List Cond := [Cond.fieldLink RX5 22 "LineBuffers" "history" "LLineBuffers$History;", Cond.fieldLink RX5 10 "LineBuffers" "line" "LLineBuffers$Line;", Cond.methodLink RX5 60 yX1_keep, Cond.instanceMethod yX1_keep, Cond.selects RX1 yX1_keep yX1_keep, Cond.initialized RX1, Cond.code yX1_keep cX1_keep 2 none, Cond.fieldLink RX1 18 "LineBuffers$History" "newest" "I", Cond.fieldLink RX1 11 "LineBuffers$History" "places" "[LLineBuffers$Line;", Cond.fieldLink RX1 26 "LineBuffers$History" "saved" "I", Cond.methodLink RX1 22 yX2_copy, Cond.static yX2_copy, Cond.initialized RX2, Cond.code yX2_copy cX2_copy 3 none, Cond.fieldLink RX2 23 "LineBuffers$Line" "machines" "I", Cond.fieldLink RX2 11 "LineBuffers$Line" "rows" "[[I", Cond.methodLink RX2 27 arraycopyName, Cond.native arraycopyName, Cond.static arraycopyName, Cond.initialized "java/lang/System", Cond.fieldLink RX2 19 "LineBuffers$Line" "stops" "LLineBuffers$Stops;", Cond.fieldLink RX2 37 "LineBuffers$Line" "tick" "I", Cond.methodLink RX2 33 yX4_copy, Cond.static yX4_copy]
def wsX5_clearStops_r2 : List Cond := [Cond.initialized RX4, Cond.code yX4_copy cX4_copy 3 none, Cond.fieldLink RX4 21 "LineBuffers$Stops" "planned" "I", Cond.fieldLink RX4 9 "LineBuffers$Stops" "machineOf" "[I", Cond.methodLink RX4 25 arraycopyName, Cond.fieldLink RX4 15 "LineBuffers$Stops" "firstOf" "[I", Cond.fieldLink RX4 18 "LineBuffers$Stops" "durationOf" "[I", Cond.methodLink RX5 113 yX4_dropAfter, Cond.instanceMethod yX4_dropAfter, Cond.selects RX4 yX4_dropAfter yX4_dropAfter, Cond.code yX4_dropAfter cX4_dropAfter 4 (some .int), Cond.methodLink RX4 31 yX4_plan, Cond.instanceMethod yX4_plan, Cond.selects RX4 yX4_plan yX4_plan, Cond.code yX4_plan cX4_plan 4 none]
def wsX5_clearStops : List Cond := .code yX5_clearStops cX5_clearStops 1 (some .int) :: ((wsX5_clearStops_r1 ++ wsX5_clearStops_r2) ++ wsX50 ++ wsX20 ++ wsX10 ++ wsX40)
def wsX5_size : List Cond := .code yX5_size cX5_size 2 (some .int) :: ([.fieldLink RX5 10 "LineBuffers" "line" "LLineBuffers$Line;"] ++ wsX50 ++ wsX20 ++ wsX40)
def wsX5_needWhat : List Cond := .code yX5_needWhat cX5_needWhat 2 none :: ([.classLink RX5 41 "java/lang/IllegalArgumentException", .initialized "java/lang/IllegalArgumentException"] ++ (vx_atS RX5 45 "java/lang/IllegalArgumentException" ["java/lang/RuntimeException", "java/lang/Exception"]).filter goodWord)
def wsX5_stop : List Cond := .code yX5_stop cX5_stop 3 (some .int) :: ([.classLink RX5 116 "java/lang/IndexOutOfBoundsException", .initialized "java/lang/IndexOutOfBoundsException", .fieldLink RX5 10 "LineBuffers" "line" "LLineBuffers$Line;", .methodLink RX5 121 yX5_needWhat, .static yX5_needWhat, .initialized RX5, .code yX5_needWhat cX5_needWhat 2 none, .classLink RX5 41 "java/lang/IllegalArgumentException", .initialized "java/lang/IllegalArgumentException", .methodLink RX5 125 yX4_value, .instanceMethod yX4_value, .selects RX4 yX4_value yX4_value, .initialized RX4, .code yX4_value cX4_value 3 (some .int), .fieldLink RX4 9 "LineBuffers$Stops" "machineOf" "[I", .fieldLink RX4 15 "LineBuffers$Stops" "firstOf" "[I", .fieldLink RX4 18 "LineBuffers$Stops" "durationOf" "[I"] ++ wsX50 ++ wsX20 ++ wsX40 ++ (vx_atS RX5 120 "java/lang/IndexOutOfBoundsException" ["java/lang/RuntimeException", "java/lang/Exception"]).filter goodWord ++ (vx_atS RX5 45 "java/lang/IllegalArgumentException" ["java/lang/RuntimeException", "java/lang/Exception"]).filter goodWord)
def wsX5_needMachines : List Cond := .code yX5_needMachines cX5_needMachines 2 none :: ([.classLink RX5 55 "java/lang/IllegalStateException", .initialized "java/lang/IllegalStateException", .fieldLink RX5 10 "LineBuffers" "line" "LLineBuffers$Line;"] ++ wsX50 ++ wsX20 ++ (vx_atS RX5 59 "java/lang/IllegalStateException" ["java/lang/RuntimeException", "java/lang/Exception"]).filter goodWord)
def wsX5_run_r1 : List Cond := [Cond.classLink RX5 41 "java/lang/IllegalArgumentException", Cond.initialized "java/lang/IllegalArgumentException", Cond.classLink RX5 55 "java/lang/IllegalStateException", Cond.initialized "java/lang/IllegalStateException", Cond.fieldLink RX5 10 "LineBuffers" "line" "LLineBuffers$Line;", Cond.fieldLink RX5 22 "LineBuffers" "history" "LLineBuffers$History;", Cond.methodLink RX5 37 yX5_isIn, Cond.static yX5_isIn, Cond.initialized RX5, Cond.code yX5_isIn cX5_isIn 3 (some .boolean), Cond.methodLink RX5 131 yX5_needMachines, Cond.instanceMethod yX5_needMachines, Cond.selects RX5 yX5_needMachines yX5_needMachines, Cond.code yX5_needMachines cX5_needMachines 2 none, Cond.methodLink RX5 60 yX1_keep, Cond.instanceMethod yX1_keep, Cond.selects RX1 yX1_keep yX1_keep, Cond.initialized RX1, Cond.code yX1_keep cX1_keep 2 none, Cond.fieldLink RX1 18 "LineBuffers$History" "newest" "I", Cond.fieldLink RX1 11 "LineBuffers$History" "places" "[LLineBuffers$Line;", Cond.fieldLink RX1 26 "LineBuffers$History" "saved" "I", Cond.methodLink RX1 22 yX2_copy, Cond.static yX2_copy]
def wsX5_run_r2 : List Cond := [Cond.initialized RX2, Cond.code yX2_copy cX2_copy 3 none, Cond.fieldLink RX2 23 "LineBuffers$Line" "machines" "I", Cond.fieldLink RX2 11 "LineBuffers$Line" "rows" "[[I", Cond.methodLink RX2 27 arraycopyName, Cond.native arraycopyName, Cond.static arraycopyName, Cond.initialized "java/lang/System", Cond.fieldLink RX2 19 "LineBuffers$Line" "stops" "LLineBuffers$Stops;", Cond.fieldLink RX2 37 "LineBuffers$Line" "tick" "I", Cond.methodLink RX2 33 yX4_copy, Cond.static yX4_copy, Cond.initialized RX4, Cond.code yX4_copy cX4_copy 3 none, Cond.fieldLink RX4 21 "LineBuffers$Stops" "planned" "I", Cond.fieldLink RX4 9 "LineBuffers$Stops" "machineOf" "[I", Cond.methodLink RX4 25 arraycopyName, Cond.fieldLink RX4 15 "LineBuffers$Stops" "firstOf" "[I", Cond.fieldLink RX4 18 "LineBuffers$Stops" "durationOf" "[I", Cond.methodLink RX5 136 yX2_bottlesOut, Cond.instanceMethod yX2_bottlesOut, Cond.selects RX2 yX2_bottlesOut yX2_bottlesOut, Cond.code yX2_bottlesOut cX2_bottlesOut 1 (some .int), Cond.methodLink RX5 140 yX2_pass]
def wsX5_run_r3 : List Cond := [Cond.instanceMethod yX2_pass, Cond.selects RX2 yX2_pass yX2_pass, Cond.code yX2_pass cX2_pass 5 none, Cond.methodLink RX2 47 yX4_lookAt, Cond.instanceMethod yX4_lookAt, Cond.selects RX4 yX4_lookAt yX4_lookAt, Cond.code yX4_lookAt cX4_lookAt 6 (some .int), Cond.constant RX4 37 (2147483647), Cond.fieldLink RX4 38 "LineBuffers$Stops" "downBits" "I", Cond.methodLink RX4 41 Lib.Math.min.name, Cond.static Lib.Math.min.name, Cond.initialized "java/lang/Math", Cond.code Lib.Math.min.name Lib.Math.min.code 2 (some .int), Cond.methodLink RX2 51 yX2_takeTurn, Cond.instanceMethod yX2_takeTurn, Cond.selects RX2 yX2_takeTurn yX2_takeTurn, Cond.code yX2_takeTurn cX2_takeTurn 3 none, Cond.methodLink RX2 58 yX2_chooseSpeed, Cond.instanceMethod yX2_chooseSpeed, Cond.selects RX2 yX2_chooseSpeed yX2_chooseSpeed, Cond.code yX2_chooseSpeed cX2_chooseSpeed 3 none, Cond.methodLink RX2 61 yX4_isDown, Cond.instanceMethod yX4_isDown, Cond.selects RX4 yX4_isDown yX4_isDown]
def wsX5_run_r4 : List Cond := [Cond.code yX4_isDown cX4_isDown 2 (some .boolean), Cond.methodLink RX2 65 yX2_noteTurn, Cond.static yX2_noteTurn, Cond.code yX2_noteTurn cX2_noteTurn 2 none, Cond.methodLink RX2 69 yX2_release, Cond.instanceMethod yX2_release, Cond.selects RX2 yX2_release yX2_release, Cond.code yX2_release cX2_release 4 none, Cond.methodLink RX2 75 yX2_presentCycle, Cond.static yX2_presentCycle, Cond.code yX2_presentCycle cX2_presentCycle 1 (some .int), Cond.methodLink RX2 72 yX2_takeBottle, Cond.instanceMethod yX2_takeBottle, Cond.selects RX2 yX2_takeBottle yX2_takeBottle, Cond.code yX2_takeBottle cX2_takeBottle 4 none, Cond.methodLink RX2 55 yX2_countFills, Cond.instanceMethod yX2_countFills, Cond.selects RX2 yX2_countFills yX2_countFills, Cond.code yX2_countFills cX2_countFills 3 none]
def wsX5_run : List Cond := .code yX5_run cX5_run 3 (some .int) :: ((wsX5_run_r1 ++ (wsX5_run_r2 ++ (wsX5_run_r3 ++ wsX5_run_r4))) ++ wsX50 ++ wsX20 ++ wsX10 ++ wsX40 ++ (vx_atS RX5 45 "java/lang/IllegalArgumentException" ["java/lang/RuntimeException", "java/lang/Exception"]).filter goodWord ++ (vx_atS RX5 59 "java/lang/IllegalStateException" ["java/lang/RuntimeException", "java/lang/Exception"]).filter goodWord)
def wsX5_restart_r1 : List Cond := [Cond.fieldLink RX5 22 "LineBuffers" "history" "LLineBuffers$History;", Cond.fieldLink RX5 10 "LineBuffers" "line" "LLineBuffers$Line;", Cond.methodLink RX5 60 yX1_keep, Cond.instanceMethod yX1_keep, Cond.selects RX1 yX1_keep yX1_keep, Cond.initialized RX1, Cond.code yX1_keep cX1_keep 2 none, Cond.fieldLink RX1 18 "LineBuffers$History" "newest" "I", Cond.fieldLink RX1 11 "LineBuffers$History" "places" "[LLineBuffers$Line;", Cond.fieldLink RX1 26 "LineBuffers$History" "saved" "I", Cond.methodLink RX1 22 yX2_copy, Cond.static yX2_copy, Cond.initialized RX2, Cond.code yX2_copy cX2_copy 3 none, Cond.fieldLink RX2 23 "LineBuffers$Line" "machines" "I", Cond.fieldLink RX2 11 "LineBuffers$Line" "rows" "[[I", Cond.methodLink RX2 27 arraycopyName, Cond.native arraycopyName, Cond.static arraycopyName, Cond.initialized "java/lang/System", Cond.fieldLink RX2 19 "LineBuffers$Line" "stops" "LLineBuffers$Stops;", Cond.fieldLink RX2 37 "LineBuffers$Line" "tick" "I", Cond.methodLink RX2 33 yX4_copy, Cond.static yX4_copy]
def wsX5_restart_r2 : List Cond := [Cond.initialized RX4, Cond.code yX4_copy cX4_copy 3 none, Cond.fieldLink RX4 21 "LineBuffers$Stops" "planned" "I", Cond.fieldLink RX4 9 "LineBuffers$Stops" "machineOf" "[I", Cond.methodLink RX4 25 arraycopyName, Cond.fieldLink RX4 15 "LineBuffers$Stops" "firstOf" "[I", Cond.fieldLink RX4 18 "LineBuffers$Stops" "durationOf" "[I", Cond.methodLink RX5 143 yX2_beginAnew, Cond.instanceMethod yX2_beginAnew, Cond.selects RX2 yX2_beginAnew yX2_beginAnew, Cond.code yX2_beginAnew cX2_beginAnew 2 none, Cond.methodLink RX2 43 yX2_empty, Cond.static yX2_empty, Cond.code yX2_empty cX2_empty 2 none]
def wsX5_restart : List Cond := .code yX5_restart cX5_restart 2 (some .int) :: ((wsX5_restart_r1 ++ wsX5_restart_r2) ++ wsX50 ++ wsX20 ++ wsX10 ++ wsX40)
def wsX5_now : List Cond := .code yX5_now cX5_now 1 (some .int) :: ([.fieldLink RX5 10 "LineBuffers" "line" "LLineBuffers$Line;"] ++ wsX50 ++ wsX20)
def wsX5_output : List Cond := .code yX5_output cX5_output 1 (some .int) :: ([.fieldLink RX5 10 "LineBuffers" "line" "LLineBuffers$Line;", .methodLink RX5 136 yX2_bottlesOut, .instanceMethod yX2_bottlesOut, .selects RX2 yX2_bottlesOut yX2_bottlesOut, .initialized RX2, .code yX2_bottlesOut cX2_bottlesOut 1 (some .int), .fieldLink RX2 23 "LineBuffers$Line" "machines" "I", .fieldLink RX2 11 "LineBuffers$Line" "rows" "[[I"] ++ wsX50 ++ wsX20)
def wsX5_setting : List Cond := .code yX5_setting cX5_setting 3 (some .int) :: ([.fieldLink RX5 10 "LineBuffers" "line" "LLineBuffers$Line;", .methodLink RX5 68 yX5_needMachine, .instanceMethod yX5_needMachine, .selects RX5 yX5_needMachine yX5_needMachine, .initialized RX5, .code yX5_needMachine cX5_needMachine 2 none, .classLink RX5 116 "java/lang/IndexOutOfBoundsException", .initialized "java/lang/IndexOutOfBoundsException", .methodLink RX5 121 yX5_needWhat, .static yX5_needWhat, .code yX5_needWhat cX5_needWhat 2 none, .classLink RX5 41 "java/lang/IllegalArgumentException", .initialized "java/lang/IllegalArgumentException"] ++ wsX50 ++ wsX20 ++ (vx_atS RX5 120 "java/lang/IndexOutOfBoundsException" ["java/lang/RuntimeException", "java/lang/Exception"]).filter goodWord ++ (vx_atS RX5 45 "java/lang/IllegalArgumentException" ["java/lang/RuntimeException", "java/lang/Exception"]).filter goodWord)
def wsX5_machine : List Cond := .code yX5_machine cX5_machine 3 (some .int) :: ([.fieldLink RX5 10 "LineBuffers" "line" "LLineBuffers$Line;", .methodLink RX5 68 yX5_needMachine, .instanceMethod yX5_needMachine, .selects RX5 yX5_needMachine yX5_needMachine, .initialized RX5, .code yX5_needMachine cX5_needMachine 2 none, .classLink RX5 116 "java/lang/IndexOutOfBoundsException", .initialized "java/lang/IndexOutOfBoundsException", .methodLink RX5 121 yX5_needWhat, .static yX5_needWhat, .code yX5_needWhat cX5_needWhat 2 none, .classLink RX5 41 "java/lang/IllegalArgumentException", .initialized "java/lang/IllegalArgumentException"] ++ wsX50 ++ wsX20 ++ (vx_atS RX5 120 "java/lang/IndexOutOfBoundsException" ["java/lang/RuntimeException", "java/lang/Exception"]).filter goodWord ++ (vx_atS RX5 45 "java/lang/IllegalArgumentException" ["java/lang/RuntimeException", "java/lang/Exception"]).filter goodWord)
def wsX5_count : List Cond := .code yX5_count cX5_count 3 (some .int) :: ([.fieldLink RX5 10 "LineBuffers" "line" "LLineBuffers$Line;", .methodLink RX5 68 yX5_needMachine, .instanceMethod yX5_needMachine, .selects RX5 yX5_needMachine yX5_needMachine, .initialized RX5, .code yX5_needMachine cX5_needMachine 2 none, .classLink RX5 116 "java/lang/IndexOutOfBoundsException", .initialized "java/lang/IndexOutOfBoundsException", .methodLink RX5 121 yX5_needWhat, .static yX5_needWhat, .code yX5_needWhat cX5_needWhat 2 none, .classLink RX5 41 "java/lang/IllegalArgumentException", .initialized "java/lang/IllegalArgumentException"] ++ wsX50 ++ wsX20 ++ (vx_atS RX5 120 "java/lang/IndexOutOfBoundsException" ["java/lang/RuntimeException", "java/lang/Exception"]).filter goodWord ++ (vx_atS RX5 45 "java/lang/IllegalArgumentException" ["java/lang/RuntimeException", "java/lang/Exception"]).filter goodWord)
def wsX5_meanFill : List Cond := .code yX5_meanFill cX5_meanFill 2 (some .double) :: ([.fieldLink RX5 10 "LineBuffers" "line" "LLineBuffers$Line;", .methodLink RX5 68 yX5_needMachine, .instanceMethod yX5_needMachine, .selects RX5 yX5_needMachine yX5_needMachine, .initialized RX5, .code yX5_needMachine cX5_needMachine 2 none, .classLink RX5 116 "java/lang/IndexOutOfBoundsException", .initialized "java/lang/IndexOutOfBoundsException"] ++ wsX50 ++ wsX20 ++ (vx_atS RX5 120 "java/lang/IndexOutOfBoundsException" ["java/lang/RuntimeException", "java/lang/Exception"]).filter goodWord)
def wsX5_inside : List Cond := .code yX5_inside cX5_inside 1 (some .int) :: ([.fieldLink RX5 10 "LineBuffers" "line" "LLineBuffers$Line;", .methodLink RX5 146 yX2_bottlesInside, .instanceMethod yX2_bottlesInside, .selects RX2 yX2_bottlesInside yX2_bottlesInside, .initialized RX2, .code yX2_bottlesInside cX2_bottlesInside 3 (some .int), .fieldLink RX2 23 "LineBuffers$Line" "machines" "I", .fieldLink RX2 11 "LineBuffers$Line" "rows" "[[I"] ++ wsX50 ++ wsX20)
def wsX5_needHorizon : List Cond := .code yX5_needHorizon cX5_needHorizon 2 none :: ([.classLink RX5 41 "java/lang/IllegalArgumentException", .initialized "java/lang/IllegalArgumentException", .methodLink RX5 37 yX5_isIn, .static yX5_isIn, .initialized RX5, .code yX5_isIn cX5_isIn 3 (some .boolean)] ++ (vx_atS RX5 45 "java/lang/IllegalArgumentException" ["java/lang/RuntimeException", "java/lang/Exception"]).filter goodWord)
def wsX5_bound_r1 : List Cond := [Cond.fieldLink RX5 10 "LineBuffers" "line" "LLineBuffers$Line;", Cond.methodLink RX5 149 yX5_needHorizon, Cond.static yX5_needHorizon, Cond.initialized RX5, Cond.code yX5_needHorizon cX5_needHorizon 2 none, Cond.classLink RX5 41 "java/lang/IllegalArgumentException", Cond.initialized "java/lang/IllegalArgumentException", Cond.methodLink RX5 37 yX5_isIn, Cond.static yX5_isIn, Cond.code yX5_isIn cX5_isIn 3 (some .boolean), Cond.methodLink RX5 131 yX5_needMachines, Cond.instanceMethod yX5_needMachines, Cond.selects RX5 yX5_needMachines yX5_needMachines, Cond.code yX5_needMachines cX5_needMachines 2 none, Cond.classLink RX5 55 "java/lang/IllegalStateException", Cond.initialized "java/lang/IllegalStateException", Cond.methodLink RX5 152 yX2_findSlowest, Cond.instanceMethod yX2_findSlowest, Cond.selects RX2 yX2_findSlowest yX2_findSlowest, Cond.initialized RX2, Cond.code yX2_findSlowest cX2_findSlowest 6 (some .int), Cond.constant RX2 81 (2147483647), Cond.fieldLink RX2 23 "LineBuffers$Line" "machines" "I", Cond.methodLink RX2 82 yX2_mostBottles]
def wsX5_bound_r2 : List Cond := [Cond.instanceMethod yX2_mostBottles, Cond.selects RX2 yX2_mostBottles yX2_mostBottles, Cond.code yX2_mostBottles cX2_mostBottles 4 (some .int), Cond.fieldLink RX2 11 "LineBuffers$Line" "rows" "[[I", Cond.methodLink RX2 86 yX2_upTicks, Cond.instanceMethod yX2_upTicks, Cond.selects RX2 yX2_upTicks yX2_upTicks, Cond.code yX2_upTicks cX2_upTicks 7 (some .int), Cond.fieldLink RX2 19 "LineBuffers$Line" "stops" "LLineBuffers$Stops;", Cond.methodLink RX2 89 Lib.Math.min.name, Cond.static Lib.Math.min.name, Cond.initialized "java/lang/Math", Cond.code Lib.Math.min.name Lib.Math.min.code 2 (some .int), Cond.methodLink RX2 47 yX4_lookAt, Cond.instanceMethod yX4_lookAt, Cond.selects RX4 yX4_lookAt yX4_lookAt, Cond.initialized RX4, Cond.code yX4_lookAt cX4_lookAt 6 (some .int), Cond.constant RX4 37 (2147483647), Cond.fieldLink RX4 38 "LineBuffers$Stops" "downBits" "I", Cond.fieldLink RX4 21 "LineBuffers$Stops" "planned" "I", Cond.fieldLink RX4 15 "LineBuffers$Stops" "firstOf" "[I", Cond.fieldLink RX4 18 "LineBuffers$Stops" "durationOf" "[I", Cond.methodLink RX4 41 Lib.Math.min.name]
def wsX5_bound_r3 : List Cond := [Cond.fieldLink RX4 9 "LineBuffers$Stops" "machineOf" "[I", Cond.methodLink RX2 61 yX4_isDown, Cond.instanceMethod yX4_isDown, Cond.selects RX4 yX4_isDown yX4_isDown, Cond.code yX4_isDown cX4_isDown 2 (some .boolean), Cond.methodLink RX5 155 yX2_mostBottles]
def wsX5_bound : List Cond := .code yX5_bound cX5_bound 2 (some .int) :: ((wsX5_bound_r1 ++ (wsX5_bound_r2 ++ wsX5_bound_r3)) ++ wsX50 ++ wsX20 ++ wsX40 ++ (vx_atS RX5 45 "java/lang/IllegalArgumentException" ["java/lang/RuntimeException", "java/lang/Exception"]).filter goodWord ++ (vx_atS RX5 59 "java/lang/IllegalStateException" ["java/lang/RuntimeException", "java/lang/Exception"]).filter goodWord)
def wsX5_limiting : List Cond := .code yX5_limiting cX5_limiting 1 (some .int) :: ([.fieldLink RX5 10 "LineBuffers" "line" "LLineBuffers$Line;", .methodLink RX5 131 yX5_needMachines, .instanceMethod yX5_needMachines, .selects RX5 yX5_needMachines yX5_needMachines, .initialized RX5, .code yX5_needMachines cX5_needMachines 2 none, .classLink RX5 55 "java/lang/IllegalStateException", .initialized "java/lang/IllegalStateException", .methodLink RX5 158 yX2_findLimiting, .instanceMethod yX2_findLimiting, .selects RX2 yX2_findLimiting yX2_findLimiting, .initialized RX2, .code yX2_findLimiting cX2_findLimiting 5 (some .int), .constant RX2 81 (2147483647), .fieldLink RX2 23 "LineBuffers$Line" "machines" "I", .fieldLink RX2 11 "LineBuffers$Line" "rows" "[[I"] ++ wsX50 ++ wsX20 ++ (vx_atS RX5 59 "java/lang/IllegalStateException" ["java/lang/RuntimeException", "java/lang/Exception"]).filter goodWord)
def wsX5_slowest_r1 : List Cond := [Cond.fieldLink RX5 10 "LineBuffers" "line" "LLineBuffers$Line;", Cond.methodLink RX5 149 yX5_needHorizon, Cond.static yX5_needHorizon, Cond.initialized RX5, Cond.code yX5_needHorizon cX5_needHorizon 2 none, Cond.classLink RX5 41 "java/lang/IllegalArgumentException", Cond.initialized "java/lang/IllegalArgumentException", Cond.methodLink RX5 37 yX5_isIn, Cond.static yX5_isIn, Cond.code yX5_isIn cX5_isIn 3 (some .boolean), Cond.methodLink RX5 131 yX5_needMachines, Cond.instanceMethod yX5_needMachines, Cond.selects RX5 yX5_needMachines yX5_needMachines, Cond.code yX5_needMachines cX5_needMachines 2 none, Cond.classLink RX5 55 "java/lang/IllegalStateException", Cond.initialized "java/lang/IllegalStateException", Cond.methodLink RX5 152 yX2_findSlowest, Cond.instanceMethod yX2_findSlowest, Cond.selects RX2 yX2_findSlowest yX2_findSlowest, Cond.initialized RX2, Cond.code yX2_findSlowest cX2_findSlowest 6 (some .int), Cond.constant RX2 81 (2147483647), Cond.fieldLink RX2 23 "LineBuffers$Line" "machines" "I", Cond.methodLink RX2 82 yX2_mostBottles]
def wsX5_slowest_r2 : List Cond := [Cond.instanceMethod yX2_mostBottles, Cond.selects RX2 yX2_mostBottles yX2_mostBottles, Cond.code yX2_mostBottles cX2_mostBottles 4 (some .int), Cond.fieldLink RX2 11 "LineBuffers$Line" "rows" "[[I", Cond.methodLink RX2 86 yX2_upTicks, Cond.instanceMethod yX2_upTicks, Cond.selects RX2 yX2_upTicks yX2_upTicks, Cond.code yX2_upTicks cX2_upTicks 7 (some .int), Cond.fieldLink RX2 19 "LineBuffers$Line" "stops" "LLineBuffers$Stops;", Cond.methodLink RX2 89 Lib.Math.min.name, Cond.static Lib.Math.min.name, Cond.initialized "java/lang/Math", Cond.code Lib.Math.min.name Lib.Math.min.code 2 (some .int), Cond.methodLink RX2 47 yX4_lookAt, Cond.instanceMethod yX4_lookAt, Cond.selects RX4 yX4_lookAt yX4_lookAt, Cond.initialized RX4, Cond.code yX4_lookAt cX4_lookAt 6 (some .int), Cond.constant RX4 37 (2147483647), Cond.fieldLink RX4 38 "LineBuffers$Stops" "downBits" "I", Cond.fieldLink RX4 21 "LineBuffers$Stops" "planned" "I", Cond.fieldLink RX4 15 "LineBuffers$Stops" "firstOf" "[I", Cond.fieldLink RX4 18 "LineBuffers$Stops" "durationOf" "[I", Cond.methodLink RX4 41 Lib.Math.min.name]
def wsX5_slowest_r3 : List Cond := [Cond.fieldLink RX4 9 "LineBuffers$Stops" "machineOf" "[I", Cond.methodLink RX2 61 yX4_isDown, Cond.instanceMethod yX4_isDown, Cond.selects RX4 yX4_isDown yX4_isDown, Cond.code yX4_isDown cX4_isDown 2 (some .boolean)]
def wsX5_slowest : List Cond := .code yX5_slowest cX5_slowest 2 (some .int) :: ((wsX5_slowest_r1 ++ (wsX5_slowest_r2 ++ wsX5_slowest_r3)) ++ wsX50 ++ wsX20 ++ wsX40 ++ (vx_atS RX5 45 "java/lang/IllegalArgumentException" ["java/lang/RuntimeException", "java/lang/Exception"]).filter goodWord ++ (vx_atS RX5 59 "java/lang/IllegalStateException" ["java/lang/RuntimeException", "java/lang/Exception"]).filter goodWord)
def wsX5_tryCapacity_r1 : List Cond := [Cond.fieldLink RX5 10 "LineBuffers" "line" "LLineBuffers$Line;", Cond.fieldLink RX5 16 "LineBuffers" "trial" "LLineBuffers$Line;", Cond.methodLink RX5 187 yX2_copy, Cond.static yX2_copy, Cond.initialized RX2, Cond.code yX2_copy cX2_copy 3 none, Cond.fieldLink RX2 23 "LineBuffers$Line" "machines" "I", Cond.fieldLink RX2 11 "LineBuffers$Line" "rows" "[[I", Cond.methodLink RX2 27 arraycopyName, Cond.native arraycopyName, Cond.static arraycopyName, Cond.initialized "java/lang/System", Cond.fieldLink RX2 19 "LineBuffers$Line" "stops" "LLineBuffers$Stops;", Cond.fieldLink RX2 37 "LineBuffers$Line" "tick" "I", Cond.methodLink RX2 33 yX4_copy, Cond.static yX4_copy, Cond.initialized RX4, Cond.code yX4_copy cX4_copy 3 none, Cond.fieldLink RX4 21 "LineBuffers$Stops" "planned" "I", Cond.fieldLink RX4 9 "LineBuffers$Stops" "machineOf" "[I", Cond.methodLink RX4 25 arraycopyName, Cond.fieldLink RX4 15 "LineBuffers$Stops" "firstOf" "[I", Cond.fieldLink RX4 18 "LineBuffers$Stops" "durationOf" "[I", Cond.methodLink RX5 143 yX2_beginAnew]
def wsX5_tryCapacity_r2 : List Cond := [Cond.instanceMethod yX2_beginAnew, Cond.selects RX2 yX2_beginAnew yX2_beginAnew, Cond.code yX2_beginAnew cX2_beginAnew 2 none, Cond.methodLink RX2 43 yX2_empty, Cond.static yX2_empty, Cond.code yX2_empty cX2_empty 2 none, Cond.methodLink RX5 140 yX2_pass, Cond.instanceMethod yX2_pass, Cond.selects RX2 yX2_pass yX2_pass, Cond.code yX2_pass cX2_pass 5 none, Cond.methodLink RX2 47 yX4_lookAt, Cond.instanceMethod yX4_lookAt, Cond.selects RX4 yX4_lookAt yX4_lookAt, Cond.code yX4_lookAt cX4_lookAt 6 (some .int), Cond.constant RX4 37 (2147483647), Cond.fieldLink RX4 38 "LineBuffers$Stops" "downBits" "I", Cond.methodLink RX4 41 Lib.Math.min.name, Cond.static Lib.Math.min.name, Cond.initialized "java/lang/Math", Cond.code Lib.Math.min.name Lib.Math.min.code 2 (some .int), Cond.methodLink RX2 51 yX2_takeTurn, Cond.instanceMethod yX2_takeTurn, Cond.selects RX2 yX2_takeTurn yX2_takeTurn, Cond.code yX2_takeTurn cX2_takeTurn 3 none]
def wsX5_tryCapacity_r3 : List Cond := [Cond.methodLink RX2 58 yX2_chooseSpeed, Cond.instanceMethod yX2_chooseSpeed, Cond.selects RX2 yX2_chooseSpeed yX2_chooseSpeed, Cond.code yX2_chooseSpeed cX2_chooseSpeed 3 none, Cond.methodLink RX2 61 yX4_isDown, Cond.instanceMethod yX4_isDown, Cond.selects RX4 yX4_isDown yX4_isDown, Cond.code yX4_isDown cX4_isDown 2 (some .boolean), Cond.methodLink RX2 65 yX2_noteTurn, Cond.static yX2_noteTurn, Cond.code yX2_noteTurn cX2_noteTurn 2 none, Cond.methodLink RX2 69 yX2_release, Cond.instanceMethod yX2_release, Cond.selects RX2 yX2_release yX2_release, Cond.code yX2_release cX2_release 4 none, Cond.methodLink RX2 75 yX2_presentCycle, Cond.static yX2_presentCycle, Cond.code yX2_presentCycle cX2_presentCycle 1 (some .int), Cond.methodLink RX2 72 yX2_takeBottle, Cond.instanceMethod yX2_takeBottle, Cond.selects RX2 yX2_takeBottle yX2_takeBottle, Cond.code yX2_takeBottle cX2_takeBottle 4 none, Cond.methodLink RX2 55 yX2_countFills, Cond.instanceMethod yX2_countFills]
def wsX5_tryCapacity_r4 : List Cond := [Cond.selects RX2 yX2_countFills yX2_countFills, Cond.code yX2_countFills cX2_countFills 3 none, Cond.methodLink RX5 136 yX2_bottlesOut, Cond.instanceMethod yX2_bottlesOut, Cond.selects RX2 yX2_bottlesOut yX2_bottlesOut, Cond.code yX2_bottlesOut cX2_bottlesOut 1 (some .int)]
def wsX5_tryCapacity : List Cond := .code yX5_tryCapacity cX5_tryCapacity 4 (some .int) :: ((wsX5_tryCapacity_r1 ++ (wsX5_tryCapacity_r2 ++ (wsX5_tryCapacity_r3 ++ wsX5_tryCapacity_r4))) ++ wsX50 ++ wsX20 ++ wsX40)
def wsX5_outputWith_r1 : List Cond := [Cond.classLink RX5 41 "java/lang/IllegalArgumentException", Cond.initialized "java/lang/IllegalArgumentException", Cond.methodLink RX5 68 yX5_needMachine, Cond.instanceMethod yX5_needMachine, Cond.selects RX5 yX5_needMachine yX5_needMachine, Cond.initialized RX5, Cond.code yX5_needMachine cX5_needMachine 2 none, Cond.classLink RX5 116 "java/lang/IndexOutOfBoundsException", Cond.initialized "java/lang/IndexOutOfBoundsException", Cond.fieldLink RX5 10 "LineBuffers" "line" "LLineBuffers$Line;", Cond.methodLink RX5 37 yX5_isIn, Cond.static yX5_isIn, Cond.code yX5_isIn cX5_isIn 3 (some .boolean), Cond.methodLink RX5 149 yX5_needHorizon, Cond.static yX5_needHorizon, Cond.code yX5_needHorizon cX5_needHorizon 2 none, Cond.methodLink RX5 161 yX5_tryCapacity, Cond.instanceMethod yX5_tryCapacity, Cond.selects RX5 yX5_tryCapacity yX5_tryCapacity, Cond.code yX5_tryCapacity cX5_tryCapacity 4 (some .int), Cond.fieldLink RX5 16 "LineBuffers" "trial" "LLineBuffers$Line;", Cond.methodLink RX5 187 yX2_copy, Cond.static yX2_copy, Cond.initialized RX2]
def wsX5_outputWith_r2 : List Cond := [Cond.code yX2_copy cX2_copy 3 none, Cond.fieldLink RX2 23 "LineBuffers$Line" "machines" "I", Cond.fieldLink RX2 11 "LineBuffers$Line" "rows" "[[I", Cond.methodLink RX2 27 arraycopyName, Cond.native arraycopyName, Cond.static arraycopyName, Cond.initialized "java/lang/System", Cond.fieldLink RX2 19 "LineBuffers$Line" "stops" "LLineBuffers$Stops;", Cond.fieldLink RX2 37 "LineBuffers$Line" "tick" "I", Cond.methodLink RX2 33 yX4_copy, Cond.static yX4_copy, Cond.initialized RX4, Cond.code yX4_copy cX4_copy 3 none, Cond.fieldLink RX4 21 "LineBuffers$Stops" "planned" "I", Cond.fieldLink RX4 9 "LineBuffers$Stops" "machineOf" "[I", Cond.methodLink RX4 25 arraycopyName, Cond.fieldLink RX4 15 "LineBuffers$Stops" "firstOf" "[I", Cond.fieldLink RX4 18 "LineBuffers$Stops" "durationOf" "[I", Cond.methodLink RX5 143 yX2_beginAnew, Cond.instanceMethod yX2_beginAnew, Cond.selects RX2 yX2_beginAnew yX2_beginAnew, Cond.code yX2_beginAnew cX2_beginAnew 2 none, Cond.methodLink RX2 43 yX2_empty, Cond.static yX2_empty]
def wsX5_outputWith_r3 : List Cond := [Cond.code yX2_empty cX2_empty 2 none, Cond.methodLink RX5 140 yX2_pass, Cond.instanceMethod yX2_pass, Cond.selects RX2 yX2_pass yX2_pass, Cond.code yX2_pass cX2_pass 5 none, Cond.methodLink RX2 47 yX4_lookAt, Cond.instanceMethod yX4_lookAt, Cond.selects RX4 yX4_lookAt yX4_lookAt, Cond.code yX4_lookAt cX4_lookAt 6 (some .int), Cond.constant RX4 37 (2147483647), Cond.fieldLink RX4 38 "LineBuffers$Stops" "downBits" "I", Cond.methodLink RX4 41 Lib.Math.min.name, Cond.static Lib.Math.min.name, Cond.initialized "java/lang/Math", Cond.code Lib.Math.min.name Lib.Math.min.code 2 (some .int), Cond.methodLink RX2 51 yX2_takeTurn, Cond.instanceMethod yX2_takeTurn, Cond.selects RX2 yX2_takeTurn yX2_takeTurn, Cond.code yX2_takeTurn cX2_takeTurn 3 none, Cond.methodLink RX2 58 yX2_chooseSpeed, Cond.instanceMethod yX2_chooseSpeed, Cond.selects RX2 yX2_chooseSpeed yX2_chooseSpeed, Cond.code yX2_chooseSpeed cX2_chooseSpeed 3 none, Cond.methodLink RX2 61 yX4_isDown]
def wsX5_outputWith_r4 : List Cond := [Cond.instanceMethod yX4_isDown, Cond.selects RX4 yX4_isDown yX4_isDown, Cond.code yX4_isDown cX4_isDown 2 (some .boolean), Cond.methodLink RX2 65 yX2_noteTurn, Cond.static yX2_noteTurn, Cond.code yX2_noteTurn cX2_noteTurn 2 none, Cond.methodLink RX2 69 yX2_release, Cond.instanceMethod yX2_release, Cond.selects RX2 yX2_release yX2_release, Cond.code yX2_release cX2_release 4 none, Cond.methodLink RX2 75 yX2_presentCycle, Cond.static yX2_presentCycle, Cond.code yX2_presentCycle cX2_presentCycle 1 (some .int), Cond.methodLink RX2 72 yX2_takeBottle, Cond.instanceMethod yX2_takeBottle, Cond.selects RX2 yX2_takeBottle yX2_takeBottle, Cond.code yX2_takeBottle cX2_takeBottle 4 none, Cond.methodLink RX2 55 yX2_countFills, Cond.instanceMethod yX2_countFills, Cond.selects RX2 yX2_countFills yX2_countFills, Cond.code yX2_countFills cX2_countFills 3 none, Cond.methodLink RX5 136 yX2_bottlesOut, Cond.instanceMethod yX2_bottlesOut, Cond.selects RX2 yX2_bottlesOut yX2_bottlesOut]
def wsX5_outputWith_r5 : List Cond := [Cond.code yX2_bottlesOut cX2_bottlesOut 1 (some .int)]
def wsX5_outputWith : List Cond := .code yX5_outputWith cX5_outputWith 4 (some .int) :: ((wsX5_outputWith_r1 ++ (wsX5_outputWith_r2 ++ (wsX5_outputWith_r3 ++ (wsX5_outputWith_r4 ++ wsX5_outputWith_r5)))) ++ wsX50 ++ wsX20 ++ wsX40 ++ (vx_atS RX5 45 "java/lang/IllegalArgumentException" ["java/lang/RuntimeException", "java/lang/Exception"]).filter goodWord ++ (vx_atS RX5 120 "java/lang/IndexOutOfBoundsException" ["java/lang/RuntimeException", "java/lang/Exception"]).filter goodWord)
def wsX5_capacityFor_r1 : List Cond := [Cond.classLink RX5 41 "java/lang/IllegalArgumentException", Cond.initialized "java/lang/IllegalArgumentException", Cond.fieldLink RX5 10 "LineBuffers" "line" "LLineBuffers$Line;", Cond.fieldLink RX5 16 "LineBuffers" "trial" "LLineBuffers$Line;", Cond.methodLink RX5 68 yX5_needMachine, Cond.instanceMethod yX5_needMachine, Cond.selects RX5 yX5_needMachine yX5_needMachine, Cond.initialized RX5, Cond.code yX5_needMachine cX5_needMachine 2 none, Cond.classLink RX5 116 "java/lang/IndexOutOfBoundsException", Cond.initialized "java/lang/IndexOutOfBoundsException", Cond.methodLink RX5 149 yX5_needHorizon, Cond.static yX5_needHorizon, Cond.code yX5_needHorizon cX5_needHorizon 2 none, Cond.methodLink RX5 37 yX5_isIn, Cond.static yX5_isIn, Cond.code yX5_isIn cX5_isIn 3 (some .boolean), Cond.methodLink RX5 152 yX2_findSlowest, Cond.instanceMethod yX2_findSlowest, Cond.selects RX2 yX2_findSlowest yX2_findSlowest, Cond.initialized RX2, Cond.code yX2_findSlowest cX2_findSlowest 6 (some .int), Cond.constant RX2 81 (2147483647), Cond.fieldLink RX2 23 "LineBuffers$Line" "machines" "I"]
def wsX5_capacityFor_r2 : List Cond := [Cond.methodLink RX2 82 yX2_mostBottles, Cond.instanceMethod yX2_mostBottles, Cond.selects RX2 yX2_mostBottles yX2_mostBottles, Cond.code yX2_mostBottles cX2_mostBottles 4 (some .int), Cond.fieldLink RX2 11 "LineBuffers$Line" "rows" "[[I", Cond.methodLink RX2 86 yX2_upTicks, Cond.instanceMethod yX2_upTicks, Cond.selects RX2 yX2_upTicks yX2_upTicks, Cond.code yX2_upTicks cX2_upTicks 7 (some .int), Cond.fieldLink RX2 19 "LineBuffers$Line" "stops" "LLineBuffers$Stops;", Cond.methodLink RX2 89 Lib.Math.min.name, Cond.static Lib.Math.min.name, Cond.initialized "java/lang/Math", Cond.code Lib.Math.min.name Lib.Math.min.code 2 (some .int), Cond.methodLink RX2 47 yX4_lookAt, Cond.instanceMethod yX4_lookAt, Cond.selects RX4 yX4_lookAt yX4_lookAt, Cond.initialized RX4, Cond.code yX4_lookAt cX4_lookAt 6 (some .int), Cond.constant RX4 37 (2147483647), Cond.fieldLink RX4 38 "LineBuffers$Stops" "downBits" "I", Cond.fieldLink RX4 21 "LineBuffers$Stops" "planned" "I", Cond.fieldLink RX4 15 "LineBuffers$Stops" "firstOf" "[I", Cond.fieldLink RX4 18 "LineBuffers$Stops" "durationOf" "[I"]
def wsX5_capacityFor_r3 : List Cond := [Cond.methodLink RX4 41 Lib.Math.min.name, Cond.fieldLink RX4 9 "LineBuffers$Stops" "machineOf" "[I", Cond.methodLink RX2 61 yX4_isDown, Cond.instanceMethod yX4_isDown, Cond.selects RX4 yX4_isDown yX4_isDown, Cond.code yX4_isDown cX4_isDown 2 (some .boolean), Cond.methodLink RX5 155 yX2_mostBottles, Cond.methodLink RX5 161 yX5_tryCapacity, Cond.instanceMethod yX5_tryCapacity, Cond.selects RX5 yX5_tryCapacity yX5_tryCapacity, Cond.code yX5_tryCapacity cX5_tryCapacity 4 (some .int), Cond.methodLink RX5 187 yX2_copy, Cond.static yX2_copy, Cond.code yX2_copy cX2_copy 3 none, Cond.methodLink RX2 27 arraycopyName, Cond.native arraycopyName, Cond.static arraycopyName, Cond.initialized "java/lang/System", Cond.fieldLink RX2 37 "LineBuffers$Line" "tick" "I", Cond.methodLink RX2 33 yX4_copy, Cond.static yX4_copy, Cond.code yX4_copy cX4_copy 3 none, Cond.methodLink RX4 25 arraycopyName, Cond.methodLink RX5 143 yX2_beginAnew]
def wsX5_capacityFor_r4 : List Cond := [Cond.instanceMethod yX2_beginAnew, Cond.selects RX2 yX2_beginAnew yX2_beginAnew, Cond.code yX2_beginAnew cX2_beginAnew 2 none, Cond.methodLink RX2 43 yX2_empty, Cond.static yX2_empty, Cond.code yX2_empty cX2_empty 2 none, Cond.methodLink RX5 140 yX2_pass, Cond.instanceMethod yX2_pass, Cond.selects RX2 yX2_pass yX2_pass, Cond.code yX2_pass cX2_pass 5 none, Cond.methodLink RX2 51 yX2_takeTurn, Cond.instanceMethod yX2_takeTurn, Cond.selects RX2 yX2_takeTurn yX2_takeTurn, Cond.code yX2_takeTurn cX2_takeTurn 3 none, Cond.methodLink RX2 58 yX2_chooseSpeed, Cond.instanceMethod yX2_chooseSpeed, Cond.selects RX2 yX2_chooseSpeed yX2_chooseSpeed, Cond.code yX2_chooseSpeed cX2_chooseSpeed 3 none, Cond.methodLink RX2 65 yX2_noteTurn, Cond.static yX2_noteTurn, Cond.code yX2_noteTurn cX2_noteTurn 2 none, Cond.methodLink RX2 69 yX2_release, Cond.instanceMethod yX2_release, Cond.selects RX2 yX2_release yX2_release]
def wsX5_capacityFor_r5 : List Cond := [Cond.code yX2_release cX2_release 4 none, Cond.methodLink RX2 75 yX2_presentCycle, Cond.static yX2_presentCycle, Cond.code yX2_presentCycle cX2_presentCycle 1 (some .int), Cond.methodLink RX2 72 yX2_takeBottle, Cond.instanceMethod yX2_takeBottle, Cond.selects RX2 yX2_takeBottle yX2_takeBottle, Cond.code yX2_takeBottle cX2_takeBottle 4 none, Cond.methodLink RX2 55 yX2_countFills, Cond.instanceMethod yX2_countFills, Cond.selects RX2 yX2_countFills yX2_countFills, Cond.code yX2_countFills cX2_countFills 3 none, Cond.methodLink RX5 136 yX2_bottlesOut, Cond.instanceMethod yX2_bottlesOut, Cond.selects RX2 yX2_bottlesOut yX2_bottlesOut, Cond.code yX2_bottlesOut cX2_bottlesOut 1 (some .int)]
def wsX5_capacityFor : List Cond := .code yX5_capacityFor cX5_capacityFor 5 (some .int) :: ((wsX5_capacityFor_r1 ++ (wsX5_capacityFor_r2 ++ (wsX5_capacityFor_r3 ++ (wsX5_capacityFor_r4 ++ wsX5_capacityFor_r5)))) ++ wsX50 ++ wsX20 ++ wsX40 ++ (vx_atS RX5 45 "java/lang/IllegalArgumentException" ["java/lang/RuntimeException", "java/lang/Exception"]).filter goodWord ++ (vx_atS RX5 120 "java/lang/IndexOutOfBoundsException" ["java/lang/RuntimeException", "java/lang/Exception"]).filter goodWord)
def wsX5_bestBuffer_r1 : List Cond := [Cond.classLink RX5 41 "java/lang/IllegalArgumentException", Cond.initialized "java/lang/IllegalArgumentException", Cond.fieldLink RX5 10 "LineBuffers" "line" "LLineBuffers$Line;", Cond.methodLink RX5 168 Lib.Math.min.name, Cond.static Lib.Math.min.name, Cond.initialized "java/lang/Math", Cond.code Lib.Math.min.name Lib.Math.min.code 2 (some .int), Cond.methodLink RX5 149 yX5_needHorizon, Cond.static yX5_needHorizon, Cond.initialized RX5, Cond.code yX5_needHorizon cX5_needHorizon 2 none, Cond.methodLink RX5 37 yX5_isIn, Cond.static yX5_isIn, Cond.code yX5_isIn cX5_isIn 3 (some .boolean), Cond.methodLink RX5 131 yX5_needMachines, Cond.instanceMethod yX5_needMachines, Cond.selects RX5 yX5_needMachines yX5_needMachines, Cond.code yX5_needMachines cX5_needMachines 2 none, Cond.classLink RX5 55 "java/lang/IllegalStateException", Cond.initialized "java/lang/IllegalStateException", Cond.methodLink RX5 161 yX5_tryCapacity, Cond.instanceMethod yX5_tryCapacity, Cond.selects RX5 yX5_tryCapacity yX5_tryCapacity, Cond.code yX5_tryCapacity cX5_tryCapacity 4 (some .int)]
def wsX5_bestBuffer_r2 : List Cond := [Cond.fieldLink RX5 16 "LineBuffers" "trial" "LLineBuffers$Line;", Cond.methodLink RX5 187 yX2_copy, Cond.static yX2_copy, Cond.initialized RX2, Cond.code yX2_copy cX2_copy 3 none, Cond.fieldLink RX2 23 "LineBuffers$Line" "machines" "I", Cond.fieldLink RX2 11 "LineBuffers$Line" "rows" "[[I", Cond.methodLink RX2 27 arraycopyName, Cond.native arraycopyName, Cond.static arraycopyName, Cond.initialized "java/lang/System", Cond.fieldLink RX2 19 "LineBuffers$Line" "stops" "LLineBuffers$Stops;", Cond.fieldLink RX2 37 "LineBuffers$Line" "tick" "I", Cond.methodLink RX2 33 yX4_copy, Cond.static yX4_copy, Cond.initialized RX4, Cond.code yX4_copy cX4_copy 3 none, Cond.fieldLink RX4 21 "LineBuffers$Stops" "planned" "I", Cond.fieldLink RX4 9 "LineBuffers$Stops" "machineOf" "[I", Cond.methodLink RX4 25 arraycopyName, Cond.fieldLink RX4 15 "LineBuffers$Stops" "firstOf" "[I", Cond.fieldLink RX4 18 "LineBuffers$Stops" "durationOf" "[I", Cond.methodLink RX5 143 yX2_beginAnew, Cond.instanceMethod yX2_beginAnew]
def wsX5_bestBuffer_r3 : List Cond := [Cond.selects RX2 yX2_beginAnew yX2_beginAnew, Cond.code yX2_beginAnew cX2_beginAnew 2 none, Cond.methodLink RX2 43 yX2_empty, Cond.static yX2_empty, Cond.code yX2_empty cX2_empty 2 none, Cond.methodLink RX5 140 yX2_pass, Cond.instanceMethod yX2_pass, Cond.selects RX2 yX2_pass yX2_pass, Cond.code yX2_pass cX2_pass 5 none, Cond.methodLink RX2 47 yX4_lookAt, Cond.instanceMethod yX4_lookAt, Cond.selects RX4 yX4_lookAt yX4_lookAt, Cond.code yX4_lookAt cX4_lookAt 6 (some .int), Cond.constant RX4 37 (2147483647), Cond.fieldLink RX4 38 "LineBuffers$Stops" "downBits" "I", Cond.methodLink RX4 41 Lib.Math.min.name, Cond.methodLink RX2 51 yX2_takeTurn, Cond.instanceMethod yX2_takeTurn, Cond.selects RX2 yX2_takeTurn yX2_takeTurn, Cond.code yX2_takeTurn cX2_takeTurn 3 none, Cond.methodLink RX2 58 yX2_chooseSpeed, Cond.instanceMethod yX2_chooseSpeed, Cond.selects RX2 yX2_chooseSpeed yX2_chooseSpeed, Cond.code yX2_chooseSpeed cX2_chooseSpeed 3 none]
def wsX5_bestBuffer_r4 : List Cond := [Cond.methodLink RX2 61 yX4_isDown, Cond.instanceMethod yX4_isDown, Cond.selects RX4 yX4_isDown yX4_isDown, Cond.code yX4_isDown cX4_isDown 2 (some .boolean), Cond.methodLink RX2 65 yX2_noteTurn, Cond.static yX2_noteTurn, Cond.code yX2_noteTurn cX2_noteTurn 2 none, Cond.methodLink RX2 69 yX2_release, Cond.instanceMethod yX2_release, Cond.selects RX2 yX2_release yX2_release, Cond.code yX2_release cX2_release 4 none, Cond.methodLink RX2 75 yX2_presentCycle, Cond.static yX2_presentCycle, Cond.code yX2_presentCycle cX2_presentCycle 1 (some .int), Cond.methodLink RX2 72 yX2_takeBottle, Cond.instanceMethod yX2_takeBottle, Cond.selects RX2 yX2_takeBottle yX2_takeBottle, Cond.code yX2_takeBottle cX2_takeBottle 4 none, Cond.methodLink RX2 55 yX2_countFills, Cond.instanceMethod yX2_countFills, Cond.selects RX2 yX2_countFills yX2_countFills, Cond.code yX2_countFills cX2_countFills 3 none, Cond.methodLink RX5 136 yX2_bottlesOut, Cond.instanceMethod yX2_bottlesOut]
def wsX5_bestBuffer_r5 : List Cond := [Cond.selects RX2 yX2_bottlesOut yX2_bottlesOut, Cond.code yX2_bottlesOut cX2_bottlesOut 1 (some .int)]
def wsX5_bestBuffer : List Cond := .code yX5_bestBuffer cX5_bestBuffer 8 (some .int) :: ((wsX5_bestBuffer_r1 ++ (wsX5_bestBuffer_r2 ++ (wsX5_bestBuffer_r3 ++ (wsX5_bestBuffer_r4 ++ wsX5_bestBuffer_r5)))) ++ wsX50 ++ wsX20 ++ wsX40 ++ (vx_atS RX5 45 "java/lang/IllegalArgumentException" ["java/lang/RuntimeException", "java/lang/Exception"]).filter goodWord ++ (vx_atS RX5 59 "java/lang/IllegalStateException" ["java/lang/RuntimeException", "java/lang/Exception"]).filter goodWord)
def wsX5_append : List Cond := .code yX5_append cX5_append 2 (some .int) :: ([.classLink RX5 41 "java/lang/IllegalArgumentException", .initialized "java/lang/IllegalArgumentException", .classLink RX5 55 "java/lang/IllegalStateException", .initialized "java/lang/IllegalStateException", .fieldLink RX5 29 "LineBuffers" "text" "LLineBuffers$LineText;", .methodLink RX5 37 yX5_isIn, .static yX5_isIn, .initialized RX5, .code yX5_isIn cX5_isIn 3 (some .boolean), .methodLink RX5 180 yX3_put, .instanceMethod yX3_put, .selects RX3 yX3_put yX3_put, .initialized RX3, .code yX3_put cX3_put 2 none, .fieldLink RX3 15 "LineBuffers$LineText" "length" "I", .fieldLink RX3 9 "LineBuffers$LineText" "bytes" "[I"] ++ wsX50 ++ wsX30 ++ (vx_atS RX5 45 "java/lang/IllegalArgumentException" ["java/lang/RuntimeException", "java/lang/Exception"]).filter goodWord ++ (vx_atS RX5 59 "java/lang/IllegalStateException" ["java/lang/RuntimeException", "java/lang/Exception"]).filter goodWord)
def wsX5_clearText : List Cond := .code yX5_clearText cX5_clearText 2 (some .int) :: ([.fieldLink RX5 29 "LineBuffers" "text" "LLineBuffers$LineText;"] ++ wsX50 ++ wsX30)
def wsX5_parse_r1 : List Cond := [Cond.fieldLink RX5 29 "LineBuffers" "text" "LLineBuffers$LineText;", Cond.fieldLink RX5 16 "LineBuffers" "trial" "LLineBuffers$Line;", Cond.fieldLink RX5 22 "LineBuffers" "history" "LLineBuffers$History;", Cond.fieldLink RX5 10 "LineBuffers" "line" "LLineBuffers$Line;", Cond.methodLink RX5 183 yX3_readInto, Cond.instanceMethod yX3_readInto, Cond.selects RX3 yX3_readInto yX3_readInto, Cond.initialized RX3, Cond.code yX3_readInto cX3_readInto 3 (some .int), Cond.fieldLink RX3 19 "LineBuffers$LineText" "at" "I", Cond.fieldLink RX3 22 "LineBuffers$LineText" "error" "I", Cond.fieldLink RX3 15 "LineBuffers$LineText" "length" "I", Cond.methodLink RX3 25 yX2_takeApart, Cond.instanceMethod yX2_takeApart, Cond.selects RX2 yX2_takeApart yX2_takeApart, Cond.initialized RX2, Cond.code yX2_takeApart cX2_takeApart 1 none, Cond.fieldLink RX2 23 "LineBuffers$Line" "machines" "I", Cond.fieldLink RX2 37 "LineBuffers$Line" "tick" "I", Cond.fieldLink RX2 19 "LineBuffers$Line" "stops" "LLineBuffers$Stops;", Cond.methodLink RX3 30 yX3_readItem, Cond.instanceMethod yX3_readItem, Cond.selects RX3 yX3_readItem yX3_readItem, Cond.code yX3_readItem cX3_readItem 3 none]
def wsX5_parse_r2 : List Cond := [Cond.methodLink RX3 34 yX3_byteAt, Cond.instanceMethod yX3_byteAt, Cond.selects RX3 yX3_byteAt yX3_byteAt, Cond.code yX3_byteAt cX3_byteAt 2 (some .int), Cond.fieldLink RX3 9 "LineBuffers$LineText" "bytes" "[I", Cond.methodLink RX3 41 yX3_readMachine, Cond.instanceMethod yX3_readMachine, Cond.selects RX3 yX3_readMachine yX3_readMachine, Cond.code yX3_readMachine cX3_readMachine 5 none, Cond.methodLink RX3 47 yX3_readNumber, Cond.instanceMethod yX3_readNumber, Cond.selects RX3 yX3_readNumber yX3_readNumber, Cond.code yX3_readNumber cX3_readNumber 7 (some .int), Cond.methodLink RX3 59 yX3_isDigit, Cond.static yX3_isDigit, Cond.code yX3_isDigit cX3_isDigit 1 (some .boolean), Cond.static yX5_isIn, Cond.initialized RX5, Cond.code yX5_isIn cX5_isIn 3 (some .boolean), Cond.methodLink RX3 51 yX2_join, Cond.instanceMethod yX2_join, Cond.selects RX2 yX2_join yX2_join, Cond.code yX2_join cX2_join 5 (some .int), Cond.fieldLink RX2 11 "LineBuffers$Line" "rows" "[[I"]
def wsX5_parse_r3 : List Cond := [Cond.methodLink RX2 43 yX2_empty, Cond.static yX2_empty, Cond.code yX2_empty cX2_empty 2 none, Cond.methodLink RX3 44 yX3_readMarks, Cond.instanceMethod yX3_readMarks, Cond.selects RX3 yX3_readMarks yX3_readMarks, Cond.code yX3_readMarks cX3_readMarks 5 none, Cond.methodLink RX3 55 yX2_mark, Cond.instanceMethod yX2_mark, Cond.selects RX2 yX2_mark yX2_mark, Cond.code yX2_mark cX2_mark 4 none, Cond.methodLink RX5 60 yX1_keep, Cond.instanceMethod yX1_keep, Cond.selects RX1 yX1_keep yX1_keep, Cond.initialized RX1, Cond.code yX1_keep cX1_keep 2 none, Cond.fieldLink RX1 18 "LineBuffers$History" "newest" "I", Cond.fieldLink RX1 11 "LineBuffers$History" "places" "[LLineBuffers$Line;", Cond.fieldLink RX1 26 "LineBuffers$History" "saved" "I", Cond.methodLink RX1 22 yX2_copy, Cond.static yX2_copy, Cond.code yX2_copy cX2_copy 3 none, Cond.methodLink RX2 27 arraycopyName, Cond.native arraycopyName]
def wsX5_parse_r4 : List Cond := [Cond.static arraycopyName, Cond.initialized "java/lang/System", Cond.methodLink RX2 33 yX4_copy, Cond.static yX4_copy, Cond.initialized RX4, Cond.code yX4_copy cX4_copy 3 none, Cond.fieldLink RX4 21 "LineBuffers$Stops" "planned" "I", Cond.fieldLink RX4 9 "LineBuffers$Stops" "machineOf" "[I", Cond.methodLink RX4 25 arraycopyName, Cond.fieldLink RX4 15 "LineBuffers$Stops" "firstOf" "[I", Cond.fieldLink RX4 18 "LineBuffers$Stops" "durationOf" "[I", Cond.methodLink RX5 187 yX2_copy]
def wsX5_parse : List Cond := .code yX5_parse cX5_parse 2 (some .int) :: ((wsX5_parse_r1 ++ (wsX5_parse_r2 ++ (wsX5_parse_r3 ++ wsX5_parse_r4))) ++ wsX50 ++ wsX20 ++ wsX30 ++ wsX40 ++ wsX10)
def wsX5_undo_r1 : List Cond := [Cond.classLink RX5 55 "java/lang/IllegalStateException", Cond.initialized "java/lang/IllegalStateException", Cond.fieldLink RX5 22 "LineBuffers" "history" "LLineBuffers$History;", Cond.fieldLink RX5 10 "LineBuffers" "line" "LLineBuffers$Line;", Cond.methodLink RX5 196 yX1_giveBack, Cond.instanceMethod yX1_giveBack, Cond.selects RX1 yX1_giveBack yX1_giveBack, Cond.initialized RX1, Cond.code yX1_giveBack cX1_giveBack 2 none, Cond.fieldLink RX1 26 "LineBuffers$History" "saved" "I", Cond.fieldLink RX1 11 "LineBuffers$History" "places" "[LLineBuffers$Line;", Cond.fieldLink RX1 18 "LineBuffers$History" "newest" "I", Cond.methodLink RX1 22 yX2_copy, Cond.static yX2_copy, Cond.initialized RX2, Cond.code yX2_copy cX2_copy 3 none, Cond.fieldLink RX2 23 "LineBuffers$Line" "machines" "I", Cond.fieldLink RX2 11 "LineBuffers$Line" "rows" "[[I", Cond.methodLink RX2 27 arraycopyName, Cond.native arraycopyName, Cond.static arraycopyName, Cond.initialized "java/lang/System", Cond.fieldLink RX2 19 "LineBuffers$Line" "stops" "LLineBuffers$Stops;", Cond.fieldLink RX2 37 "LineBuffers$Line" "tick" "I"]
def wsX5_undo_r2 : List Cond := [Cond.methodLink RX2 33 yX4_copy, Cond.static yX4_copy, Cond.initialized RX4, Cond.code yX4_copy cX4_copy 3 none, Cond.fieldLink RX4 21 "LineBuffers$Stops" "planned" "I", Cond.fieldLink RX4 9 "LineBuffers$Stops" "machineOf" "[I", Cond.methodLink RX4 25 arraycopyName, Cond.fieldLink RX4 15 "LineBuffers$Stops" "firstOf" "[I", Cond.fieldLink RX4 18 "LineBuffers$Stops" "durationOf" "[I"]
def wsX5_undo : List Cond := .code yX5_undo cX5_undo 1 (some .int) :: ((wsX5_undo_r1 ++ wsX5_undo_r2) ++ wsX50 ++ wsX10 ++ wsX20 ++ wsX40 ++ (vx_atS RX5 59 "java/lang/IllegalStateException" ["java/lang/RuntimeException", "java/lang/Exception"]).filter goodWord)
def wsX5_digest_r1 : List Cond := [Cond.constantLong RX5 199 (3109), Cond.constantLong RX5 201 (31), Cond.fieldLink RX5 29 "LineBuffers" "text" "LLineBuffers$LineText;", Cond.fieldLink RX5 10 "LineBuffers" "line" "LLineBuffers$Line;", Cond.fieldLink RX5 22 "LineBuffers" "history" "LLineBuffers$History;", Cond.methodLink RX5 203 yX2_mixInto, Cond.instanceMethod yX2_mixInto, Cond.selects RX2 yX2_mixInto yX2_mixInto, Cond.initialized RX2, Cond.code yX2_mixInto cX2_mixInto 7 (some .long), Cond.constantLong RX2 94 (31), Cond.fieldLink RX2 37 "LineBuffers$Line" "tick" "I", Cond.fieldLink RX2 23 "LineBuffers$Line" "machines" "I", Cond.fieldLink RX2 11 "LineBuffers$Line" "rows" "[[I", Cond.methodLink RX2 96 yX2_bottlesOut, Cond.instanceMethod yX2_bottlesOut, Cond.selects RX2 yX2_bottlesOut yX2_bottlesOut, Cond.code yX2_bottlesOut cX2_bottlesOut 1 (some .int), Cond.methodLink RX5 207 yX4_mixInto, Cond.instanceMethod yX4_mixInto, Cond.selects RX4 yX4_mixInto yX4_mixInto, Cond.initialized RX4, Cond.code yX4_mixInto cX4_mixInto 7 (some .long), Cond.constantLong RX4 47 (31)]
def wsX5_digest_r2 : List Cond := [Cond.fieldLink RX4 21 "LineBuffers$Stops" "planned" "I", Cond.methodLink RX4 49 yX4_value, Cond.instanceMethod yX4_value, Cond.selects RX4 yX4_value yX4_value, Cond.code yX4_value cX4_value 3 (some .int), Cond.fieldLink RX4 9 "LineBuffers$Stops" "machineOf" "[I", Cond.fieldLink RX4 15 "LineBuffers$Stops" "firstOf" "[I", Cond.fieldLink RX4 18 "LineBuffers$Stops" "durationOf" "[I", Cond.methodLink RX5 146 yX2_bottlesInside, Cond.instanceMethod yX2_bottlesInside, Cond.selects RX2 yX2_bottlesInside yX2_bottlesInside, Cond.code yX2_bottlesInside cX2_bottlesInside 3 (some .int)]
def wsX5_digest : List Cond := .code yX5_digest cX5_digest 3 (some .long) :: ((wsX5_digest_r1 ++ wsX5_digest_r2) ++ wsX50 ++ wsX30 ++ wsX20 ++ wsX10 ++ wsX40)
def wsX6_init : List Cond := .code yX6_init cX6_init 1 none :: ([.methodLink RX6 1 objectInit, .instanceMethod objectInit, .code objectInit ⟨#[0xb1]⟩ 1 none, .arrayClass .int, .fieldLink RX6 7 "LineBuffersModel" "now" "[I", .fieldLink RX6 13 "LineBuffersModel" "past" "[I", .fieldLink RX6 16 "LineBuffersModel" "aside" "[I", .fieldLink RX6 19 "LineBuffersModel" "text" "[I", .fieldLink RX6 22 "LineBuffersModel" "down" "[I"] ++ wsX60)
def wsX6_thrown : List Cond := .code yX6_thrown cX6_thrown 1 (some .int) :: ([.fieldLink RX6 25 "LineBuffersModel" "refusal" "I"] ++ wsX60)
def wsX6_refused : List Cond := .code yX6_refused cX6_refused 2 (some .boolean) :: ([.fieldLink RX6 25 "LineBuffersModel" "refusal" "I"] ++ wsX60)
def wsX6_within : List Cond := .code yX6_within cX6_within 3 (some .boolean) :: ([])
def wsX6_isMachine : List Cond := .code yX6_isMachine cX6_isMachine 2 (some .boolean) :: ([.fieldLink RX6 7 "LineBuffersModel" "now" "[I", .methodLink RX6 29 yX6_within, .static yX6_within, .initialized RX6, .code yX6_within cX6_within 3 (some .boolean)] ++ wsX60)
def wsX6_of : List Cond := .code yX6_of cX6_of 1 (some .int) :: ([])
def wsX6_saves : List Cond := .code yX6_saves cX6_saves 2 none :: ([.fieldLink RX6 33 "LineBuffersModel" "saved" "I", .fieldLink RX6 13 "LineBuffersModel" "past" "[I", .fieldLink RX6 7 "LineBuffersModel" "now" "[I"] ++ wsX60)
def wsX6_undo : List Cond := .code yX6_undo cX6_undo 2 (some .int) :: ([.fieldLink RX6 33 "LineBuffersModel" "saved" "I", .fieldLink RX6 7 "LineBuffersModel" "now" "[I", .fieldLink RX6 13 "LineBuffersModel" "past" "[I", .methodLink RX6 36 yX6_refused, .instanceMethod yX6_refused, .selects RX6 yX6_refused yX6_refused, .initialized RX6, .code yX6_refused cX6_refused 2 (some .boolean), .fieldLink RX6 25 "LineBuffersModel" "refusal" "I"] ++ wsX60)
def wsX6_keeps : List Cond := .code yX6_keeps cX6_keeps 2 none :: ([.fieldLink RX6 16 "LineBuffersModel" "aside" "[I", .fieldLink RX6 7 "LineBuffersModel" "now" "[I"] ++ wsX60)
def wsX6_takesBack : List Cond := .code yX6_takesBack cX6_takesBack 2 none :: ([.fieldLink RX6 7 "LineBuffersModel" "now" "[I", .fieldLink RX6 16 "LineBuffersModel" "aside" "[I"] ++ wsX60)
def wsX6_areCycles : List Cond := .code yX6_areCycles cX6_areCycles 2 (some .boolean) :: ([.methodLink RX6 29 yX6_within, .static yX6_within, .initialized RX6, .code yX6_within cX6_within 3 (some .boolean)])
def wsX6_isCapacity : List Cond := .code yX6_isCapacity cX6_isCapacity 1 (some .boolean) :: ([.methodLink RX6 29 yX6_within, .static yX6_within, .initialized RX6, .code yX6_within cX6_within 3 (some .boolean)])
def wsX6_adds : List Cond := .code yX6_adds cX6_adds 6 none :: ([.fieldLink RX6 7 "LineBuffersModel" "now" "[I", .methodLink RX6 40 yX6_of, .static yX6_of, .initialized RX6, .code yX6_of cX6_of 1 (some .int)] ++ wsX60)
def wsX6_addMachine_r1 : List Cond := [Cond.fieldLink RX6 7 "LineBuffersModel" "now" "[I", Cond.methodLink RX6 44 yX6_areCycles, Cond.static yX6_areCycles, Cond.initialized RX6, Cond.code yX6_areCycles cX6_areCycles 2 (some .boolean), Cond.methodLink RX6 29 yX6_within, Cond.static yX6_within, Cond.code yX6_within cX6_within 3 (some .boolean), Cond.methodLink RX6 48 yX6_isCapacity, Cond.static yX6_isCapacity, Cond.code yX6_isCapacity cX6_isCapacity 1 (some .boolean), Cond.methodLink RX6 36 yX6_refused, Cond.instanceMethod yX6_refused, Cond.selects RX6 yX6_refused yX6_refused, Cond.code yX6_refused cX6_refused 2 (some .boolean), Cond.fieldLink RX6 25 "LineBuffersModel" "refusal" "I", Cond.methodLink RX6 51 yX6_saves, Cond.instanceMethod yX6_saves, Cond.selects RX6 yX6_saves yX6_saves, Cond.code yX6_saves cX6_saves 2 none, Cond.fieldLink RX6 33 "LineBuffersModel" "saved" "I", Cond.fieldLink RX6 13 "LineBuffersModel" "past" "[I", Cond.methodLink RX6 54 yX6_adds, Cond.instanceMethod yX6_adds]
def wsX6_addMachine_r2 : List Cond := [Cond.selects RX6 yX6_adds yX6_adds, Cond.code yX6_adds cX6_adds 6 none, Cond.methodLink RX6 40 yX6_of, Cond.static yX6_of, Cond.code yX6_of cX6_of 1 (some .int)]
def wsX6_addMachine : List Cond := .code yX6_addMachine cX6_addMachine 4 (some .int) :: ((wsX6_addMachine_r1 ++ wsX6_addMachine_r2) ++ wsX60)
def wsX6_areMarks : List Cond := .code yX6_areMarks cX6_areMarks 2 (some .boolean) :: ([.methodLink RX6 29 yX6_within, .static yX6_within, .initialized RX6, .code yX6_within cX6_within 3 (some .boolean)])
def wsX6_setMachine_r1 : List Cond := [Cond.fieldLink RX6 7 "LineBuffersModel" "now" "[I", Cond.methodLink RX6 58 yX6_isMachine, Cond.instanceMethod yX6_isMachine, Cond.selects RX6 yX6_isMachine yX6_isMachine, Cond.initialized RX6, Cond.code yX6_isMachine cX6_isMachine 2 (some .boolean), Cond.methodLink RX6 29 yX6_within, Cond.static yX6_within, Cond.code yX6_within cX6_within 3 (some .boolean), Cond.methodLink RX6 44 yX6_areCycles, Cond.static yX6_areCycles, Cond.code yX6_areCycles cX6_areCycles 2 (some .boolean), Cond.methodLink RX6 61 yX6_areMarks, Cond.static yX6_areMarks, Cond.code yX6_areMarks cX6_areMarks 2 (some .boolean), Cond.methodLink RX6 36 yX6_refused, Cond.instanceMethod yX6_refused, Cond.selects RX6 yX6_refused yX6_refused, Cond.code yX6_refused cX6_refused 2 (some .boolean), Cond.fieldLink RX6 25 "LineBuffersModel" "refusal" "I", Cond.methodLink RX6 51 yX6_saves, Cond.instanceMethod yX6_saves, Cond.selects RX6 yX6_saves yX6_saves, Cond.code yX6_saves cX6_saves 2 none]
def wsX6_setMachine_r2 : List Cond := [Cond.fieldLink RX6 33 "LineBuffersModel" "saved" "I", Cond.fieldLink RX6 13 "LineBuffersModel" "past" "[I", Cond.methodLink RX6 40 yX6_of, Cond.static yX6_of, Cond.code yX6_of cX6_of 1 (some .int)]
def wsX6_setMachine : List Cond := .code yX6_setMachine cX6_setMachine 8 (some .int) :: ((wsX6_setMachine_r1 ++ wsX6_setMachine_r2) ++ wsX60)
def wsX6_setCapacity_r1 : List Cond := [Cond.fieldLink RX6 7 "LineBuffersModel" "now" "[I", Cond.methodLink RX6 58 yX6_isMachine, Cond.instanceMethod yX6_isMachine, Cond.selects RX6 yX6_isMachine yX6_isMachine, Cond.initialized RX6, Cond.code yX6_isMachine cX6_isMachine 2 (some .boolean), Cond.methodLink RX6 29 yX6_within, Cond.static yX6_within, Cond.code yX6_within cX6_within 3 (some .boolean), Cond.methodLink RX6 48 yX6_isCapacity, Cond.static yX6_isCapacity, Cond.code yX6_isCapacity cX6_isCapacity 1 (some .boolean), Cond.methodLink RX6 36 yX6_refused, Cond.instanceMethod yX6_refused, Cond.selects RX6 yX6_refused yX6_refused, Cond.code yX6_refused cX6_refused 2 (some .boolean), Cond.fieldLink RX6 25 "LineBuffersModel" "refusal" "I", Cond.methodLink RX6 51 yX6_saves, Cond.instanceMethod yX6_saves, Cond.selects RX6 yX6_saves yX6_saves, Cond.code yX6_saves cX6_saves 2 none, Cond.fieldLink RX6 33 "LineBuffersModel" "saved" "I", Cond.fieldLink RX6 13 "LineBuffersModel" "past" "[I", Cond.methodLink RX6 40 yX6_of]
def wsX6_setCapacity_r2 : List Cond := [Cond.static yX6_of, Cond.code yX6_of cX6_of 1 (some .int)]
def wsX6_setCapacity : List Cond := .code yX6_setCapacity cX6_setCapacity 4 (some .int) :: ((wsX6_setCapacity_r1 ++ wsX6_setCapacity_r2) ++ wsX60)
def wsX6_plans : List Cond := .code yX6_plans cX6_plans 5 none :: ([.fieldLink RX6 7 "LineBuffersModel" "now" "[I"] ++ wsX60)
def wsX6_addStop : List Cond := .code yX6_addStop cX6_addStop 5 (some .int) :: ([.fieldLink RX6 7 "LineBuffersModel" "now" "[I", .methodLink RX6 29 yX6_within, .static yX6_within, .initialized RX6, .code yX6_within cX6_within 3 (some .boolean), .methodLink RX6 58 yX6_isMachine, .instanceMethod yX6_isMachine, .selects RX6 yX6_isMachine yX6_isMachine, .code yX6_isMachine cX6_isMachine 2 (some .boolean), .methodLink RX6 36 yX6_refused, .instanceMethod yX6_refused, .selects RX6 yX6_refused yX6_refused, .code yX6_refused cX6_refused 2 (some .boolean), .fieldLink RX6 25 "LineBuffersModel" "refusal" "I", .methodLink RX6 51 yX6_saves, .instanceMethod yX6_saves, .selects RX6 yX6_saves yX6_saves, .code yX6_saves cX6_saves 2 none, .fieldLink RX6 33 "LineBuffersModel" "saved" "I", .fieldLink RX6 13 "LineBuffersModel" "past" "[I", .methodLink RX6 64 yX6_plans, .instanceMethod yX6_plans, .selects RX6 yX6_plans yX6_plans, .code yX6_plans cX6_plans 5 none] ++ wsX60)
def wsX6_draws : List Cond := .code yX6_draws cX6_draws 1 (some .int) :: ([.constantLong RX6 67 (1103515245), .fieldLink RX6 69 "LineBuffersModel" "draw" "J", .constantLong RX6 73 (12345), .constantLong RX6 75 (2147483648), .constantLong RX6 77 (65536)] ++ wsX60)
def wsX6_addRandomStops_r1 : List Cond := [Cond.constant RX6 79 (999999), Cond.fieldLink RX6 7 "LineBuffersModel" "now" "[I", Cond.fieldLink RX6 69 "LineBuffersModel" "draw" "J", Cond.methodLink RX6 29 yX6_within, Cond.static yX6_within, Cond.initialized RX6, Cond.code yX6_within cX6_within 3 (some .boolean), Cond.methodLink RX6 58 yX6_isMachine, Cond.instanceMethod yX6_isMachine, Cond.selects RX6 yX6_isMachine yX6_isMachine, Cond.code yX6_isMachine cX6_isMachine 2 (some .boolean), Cond.methodLink RX6 36 yX6_refused, Cond.instanceMethod yX6_refused, Cond.selects RX6 yX6_refused yX6_refused, Cond.code yX6_refused cX6_refused 2 (some .boolean), Cond.fieldLink RX6 25 "LineBuffersModel" "refusal" "I", Cond.methodLink RX6 51 yX6_saves, Cond.instanceMethod yX6_saves, Cond.selects RX6 yX6_saves yX6_saves, Cond.code yX6_saves cX6_saves 2 none, Cond.fieldLink RX6 33 "LineBuffersModel" "saved" "I", Cond.fieldLink RX6 13 "LineBuffersModel" "past" "[I", Cond.methodLink RX6 80 yX6_draws, Cond.instanceMethod yX6_draws]
def wsX6_addRandomStops_r2 : List Cond := [Cond.selects RX6 yX6_draws yX6_draws, Cond.code yX6_draws cX6_draws 1 (some .int), Cond.constantLong RX6 67 (1103515245), Cond.constantLong RX6 73 (12345), Cond.constantLong RX6 75 (2147483648), Cond.constantLong RX6 77 (65536), Cond.methodLink RX6 64 yX6_plans, Cond.instanceMethod yX6_plans, Cond.selects RX6 yX6_plans yX6_plans, Cond.code yX6_plans cX6_plans 5 none]
def wsX6_addRandomStops : List Cond := .code yX6_addRandomStops cX6_addRandomStops 12 (some .int) :: ((wsX6_addRandomStops_r1 ++ wsX6_addRandomStops_r2) ++ wsX60)
def wsX6_clearStops : List Cond := .code yX6_clearStops cX6_clearStops 5 (some .int) :: ([.fieldLink RX6 25 "LineBuffersModel" "refusal" "I", .fieldLink RX6 7 "LineBuffersModel" "now" "[I", .methodLink RX6 51 yX6_saves, .instanceMethod yX6_saves, .selects RX6 yX6_saves yX6_saves, .initialized RX6, .code yX6_saves cX6_saves 2 none, .fieldLink RX6 33 "LineBuffersModel" "saved" "I", .fieldLink RX6 13 "LineBuffersModel" "past" "[I"] ++ wsX60)
def wsX6_size : List Cond := .code yX6_size cX6_size 2 (some .int) :: ([.fieldLink RX6 25 "LineBuffersModel" "refusal" "I", .fieldLink RX6 7 "LineBuffersModel" "now" "[I"] ++ wsX60)
def wsX6_stop : List Cond := .code yX6_stop cX6_stop 3 (some .int) :: ([.fieldLink RX6 7 "LineBuffersModel" "now" "[I", .methodLink RX6 29 yX6_within, .static yX6_within, .initialized RX6, .code yX6_within cX6_within 3 (some .boolean), .methodLink RX6 36 yX6_refused, .instanceMethod yX6_refused, .selects RX6 yX6_refused yX6_refused, .code yX6_refused cX6_refused 2 (some .boolean), .fieldLink RX6 25 "LineBuffersModel" "refusal" "I"] ++ wsX60)
def wsX6_laysDown : List Cond := .code yX6_laysDown cX6_laysDown 7 none :: ([.fieldLink RX6 22 "LineBuffersModel" "down" "[I", .fieldLink RX6 7 "LineBuffersModel" "now" "[I"] ++ wsX60)
def wsX6_isDown : List Cond := .code yX6_isDown cX6_isDown 3 (some .boolean) :: ([.fieldLink RX6 22 "LineBuffersModel" "down" "[I"] ++ wsX60)
def wsX6_cycle : List Cond := .code yX6_cycle cX6_cycle 2 (some .int) :: ([.fieldLink RX6 7 "LineBuffersModel" "now" "[I"] ++ wsX60)
def wsX6_speeds : List Cond := .code yX6_speeds cX6_speeds 5 none :: ([.fieldLink RX6 7 "LineBuffersModel" "now" "[I", .methodLink RX6 40 yX6_of, .static yX6_of, .initialized RX6, .code yX6_of cX6_of 1 (some .int)] ++ wsX60)
def wsX6_leaves : List Cond := .code yX6_leaves cX6_leaves 6 none :: ([.fieldLink RX6 7 "LineBuffersModel" "now" "[I", .methodLink RX6 40 yX6_of, .static yX6_of, .initialized RX6, .code yX6_of cX6_of 1 (some .int), .methodLink RX6 84 yX6_isDown, .instanceMethod yX6_isDown, .selects RX6 yX6_isDown yX6_isDown, .code yX6_isDown cX6_isDown 3 (some .boolean), .fieldLink RX6 22 "LineBuffersModel" "down" "[I", .methodLink RX6 87 yX6_cycle, .instanceMethod yX6_cycle, .selects RX6 yX6_cycle yX6_cycle, .code yX6_cycle cX6_cycle 2 (some .int)] ++ wsX60)
def wsX6_takes : List Cond := .code yX6_takes cX6_takes 4 none :: ([.fieldLink RX6 7 "LineBuffersModel" "now" "[I", .methodLink RX6 40 yX6_of, .static yX6_of, .initialized RX6, .code yX6_of cX6_of 1 (some .int), .methodLink RX6 87 yX6_cycle, .instanceMethod yX6_cycle, .selects RX6 yX6_cycle yX6_cycle, .code yX6_cycle cX6_cycle 2 (some .int)] ++ wsX60)
def wsX6_turns_r1 : List Cond := [Cond.fieldLink RX6 7 "LineBuffersModel" "now" "[I", Cond.methodLink RX6 40 yX6_of, Cond.static yX6_of, Cond.initialized RX6, Cond.code yX6_of cX6_of 1 (some .int), Cond.methodLink RX6 90 yX6_speeds, Cond.instanceMethod yX6_speeds, Cond.selects RX6 yX6_speeds yX6_speeds, Cond.code yX6_speeds cX6_speeds 5 none, Cond.methodLink RX6 84 yX6_isDown, Cond.instanceMethod yX6_isDown, Cond.selects RX6 yX6_isDown yX6_isDown, Cond.code yX6_isDown cX6_isDown 3 (some .boolean), Cond.fieldLink RX6 22 "LineBuffersModel" "down" "[I", Cond.methodLink RX6 94 yX6_leaves, Cond.instanceMethod yX6_leaves, Cond.selects RX6 yX6_leaves yX6_leaves, Cond.code yX6_leaves cX6_leaves 6 none, Cond.methodLink RX6 87 yX6_cycle, Cond.instanceMethod yX6_cycle, Cond.selects RX6 yX6_cycle yX6_cycle, Cond.code yX6_cycle cX6_cycle 2 (some .int), Cond.methodLink RX6 98 yX6_takes, Cond.instanceMethod yX6_takes]
def wsX6_turns_r2 : List Cond := [Cond.selects RX6 yX6_takes yX6_takes, Cond.code yX6_takes cX6_takes 4 none]
def wsX6_turns : List Cond := .code yX6_turns cX6_turns 4 (some .int) :: ((wsX6_turns_r1 ++ wsX6_turns_r2) ++ wsX60)
def wsX6_passes_r1 : List Cond := [Cond.fieldLink RX6 7 "LineBuffersModel" "now" "[I", Cond.methodLink RX6 101 yX6_turns, Cond.instanceMethod yX6_turns, Cond.selects RX6 yX6_turns yX6_turns, Cond.initialized RX6, Cond.code yX6_turns cX6_turns 4 (some .int), Cond.methodLink RX6 40 yX6_of, Cond.static yX6_of, Cond.code yX6_of cX6_of 1 (some .int), Cond.methodLink RX6 90 yX6_speeds, Cond.instanceMethod yX6_speeds, Cond.selects RX6 yX6_speeds yX6_speeds, Cond.code yX6_speeds cX6_speeds 5 none, Cond.methodLink RX6 84 yX6_isDown, Cond.instanceMethod yX6_isDown, Cond.selects RX6 yX6_isDown yX6_isDown, Cond.code yX6_isDown cX6_isDown 3 (some .boolean), Cond.fieldLink RX6 22 "LineBuffersModel" "down" "[I", Cond.methodLink RX6 94 yX6_leaves, Cond.instanceMethod yX6_leaves, Cond.selects RX6 yX6_leaves yX6_leaves, Cond.code yX6_leaves cX6_leaves 6 none, Cond.methodLink RX6 87 yX6_cycle, Cond.instanceMethod yX6_cycle]
def wsX6_passes_r2 : List Cond := [Cond.selects RX6 yX6_cycle yX6_cycle, Cond.code yX6_cycle cX6_cycle 2 (some .int), Cond.methodLink RX6 98 yX6_takes, Cond.instanceMethod yX6_takes, Cond.selects RX6 yX6_takes yX6_takes, Cond.code yX6_takes cX6_takes 4 none]
def wsX6_passes : List Cond := .code yX6_passes cX6_passes 3 none :: ((wsX6_passes_r1 ++ wsX6_passes_r2) ++ wsX60)
def wsX6_made : List Cond := .code yX6_made cX6_made 1 (some .int) :: ([.fieldLink RX6 7 "LineBuffersModel" "now" "[I", .methodLink RX6 40 yX6_of, .static yX6_of, .initialized RX6, .code yX6_of cX6_of 1 (some .int)] ++ wsX60)
def wsX6_goes_r1 : List Cond := [Cond.fieldLink RX6 7 "LineBuffersModel" "now" "[I", Cond.methodLink RX6 105 yX6_made, Cond.instanceMethod yX6_made, Cond.selects RX6 yX6_made yX6_made, Cond.initialized RX6, Cond.code yX6_made cX6_made 1 (some .int), Cond.methodLink RX6 40 yX6_of, Cond.static yX6_of, Cond.code yX6_of cX6_of 1 (some .int), Cond.methodLink RX6 108 yX6_laysDown, Cond.instanceMethod yX6_laysDown, Cond.selects RX6 yX6_laysDown yX6_laysDown, Cond.code yX6_laysDown cX6_laysDown 7 none, Cond.fieldLink RX6 22 "LineBuffersModel" "down" "[I", Cond.methodLink RX6 111 yX6_passes, Cond.instanceMethod yX6_passes, Cond.selects RX6 yX6_passes yX6_passes, Cond.code yX6_passes cX6_passes 3 none, Cond.methodLink RX6 101 yX6_turns, Cond.instanceMethod yX6_turns, Cond.selects RX6 yX6_turns yX6_turns, Cond.code yX6_turns cX6_turns 4 (some .int), Cond.methodLink RX6 90 yX6_speeds, Cond.instanceMethod yX6_speeds]
def wsX6_goes_r2 : List Cond := [Cond.selects RX6 yX6_speeds yX6_speeds, Cond.code yX6_speeds cX6_speeds 5 none, Cond.methodLink RX6 84 yX6_isDown, Cond.instanceMethod yX6_isDown, Cond.selects RX6 yX6_isDown yX6_isDown, Cond.code yX6_isDown cX6_isDown 3 (some .boolean), Cond.methodLink RX6 94 yX6_leaves, Cond.instanceMethod yX6_leaves, Cond.selects RX6 yX6_leaves yX6_leaves, Cond.code yX6_leaves cX6_leaves 6 none, Cond.methodLink RX6 87 yX6_cycle, Cond.instanceMethod yX6_cycle, Cond.selects RX6 yX6_cycle yX6_cycle, Cond.code yX6_cycle cX6_cycle 2 (some .int), Cond.methodLink RX6 98 yX6_takes, Cond.instanceMethod yX6_takes, Cond.selects RX6 yX6_takes yX6_takes, Cond.code yX6_takes cX6_takes 4 none]
def wsX6_goes : List Cond := .code yX6_goes cX6_goes 4 (some .int) :: ((wsX6_goes_r1 ++ wsX6_goes_r2) ++ wsX60)
def wsX6_run_r1 : List Cond := [Cond.fieldLink RX6 7 "LineBuffersModel" "now" "[I", Cond.methodLink RX6 29 yX6_within, Cond.static yX6_within, Cond.initialized RX6, Cond.code yX6_within cX6_within 3 (some .boolean), Cond.methodLink RX6 36 yX6_refused, Cond.instanceMethod yX6_refused, Cond.selects RX6 yX6_refused yX6_refused, Cond.code yX6_refused cX6_refused 2 (some .boolean), Cond.fieldLink RX6 25 "LineBuffersModel" "refusal" "I", Cond.methodLink RX6 51 yX6_saves, Cond.instanceMethod yX6_saves, Cond.selects RX6 yX6_saves yX6_saves, Cond.code yX6_saves cX6_saves 2 none, Cond.fieldLink RX6 33 "LineBuffersModel" "saved" "I", Cond.fieldLink RX6 13 "LineBuffersModel" "past" "[I", Cond.methodLink RX6 114 yX6_goes, Cond.instanceMethod yX6_goes, Cond.selects RX6 yX6_goes yX6_goes, Cond.code yX6_goes cX6_goes 4 (some .int), Cond.methodLink RX6 105 yX6_made, Cond.instanceMethod yX6_made, Cond.selects RX6 yX6_made yX6_made, Cond.code yX6_made cX6_made 1 (some .int)]
def wsX6_run_r2 : List Cond := [Cond.methodLink RX6 40 yX6_of, Cond.static yX6_of, Cond.code yX6_of cX6_of 1 (some .int), Cond.methodLink RX6 108 yX6_laysDown, Cond.instanceMethod yX6_laysDown, Cond.selects RX6 yX6_laysDown yX6_laysDown, Cond.code yX6_laysDown cX6_laysDown 7 none, Cond.fieldLink RX6 22 "LineBuffersModel" "down" "[I", Cond.methodLink RX6 111 yX6_passes, Cond.instanceMethod yX6_passes, Cond.selects RX6 yX6_passes yX6_passes, Cond.code yX6_passes cX6_passes 3 none, Cond.methodLink RX6 101 yX6_turns, Cond.instanceMethod yX6_turns, Cond.selects RX6 yX6_turns yX6_turns, Cond.code yX6_turns cX6_turns 4 (some .int), Cond.methodLink RX6 90 yX6_speeds, Cond.instanceMethod yX6_speeds, Cond.selects RX6 yX6_speeds yX6_speeds, Cond.code yX6_speeds cX6_speeds 5 none, Cond.methodLink RX6 84 yX6_isDown, Cond.instanceMethod yX6_isDown, Cond.selects RX6 yX6_isDown yX6_isDown, Cond.code yX6_isDown cX6_isDown 3 (some .boolean)]
def wsX6_run_r3 : List Cond := [Cond.methodLink RX6 94 yX6_leaves, Cond.instanceMethod yX6_leaves, Cond.selects RX6 yX6_leaves yX6_leaves, Cond.code yX6_leaves cX6_leaves 6 none, Cond.methodLink RX6 87 yX6_cycle, Cond.instanceMethod yX6_cycle, Cond.selects RX6 yX6_cycle yX6_cycle, Cond.code yX6_cycle cX6_cycle 2 (some .int), Cond.methodLink RX6 98 yX6_takes, Cond.instanceMethod yX6_takes, Cond.selects RX6 yX6_takes yX6_takes, Cond.code yX6_takes cX6_takes 4 none]
def wsX6_run : List Cond := .code yX6_run cX6_run 2 (some .int) :: ((wsX6_run_r1 ++ (wsX6_run_r2 ++ wsX6_run_r3)) ++ wsX60)
def wsX6_empties : List Cond := .code yX6_empties cX6_empties 4 none :: ([.fieldLink RX6 7 "LineBuffersModel" "now" "[I", .methodLink RX6 40 yX6_of, .static yX6_of, .initialized RX6, .code yX6_of cX6_of 1 (some .int)] ++ wsX60)
def wsX6_restart : List Cond := .code yX6_restart cX6_restart 2 (some .int) :: ([.fieldLink RX6 25 "LineBuffersModel" "refusal" "I", .fieldLink RX6 7 "LineBuffersModel" "now" "[I", .methodLink RX6 51 yX6_saves, .instanceMethod yX6_saves, .selects RX6 yX6_saves yX6_saves, .initialized RX6, .code yX6_saves cX6_saves 2 none, .fieldLink RX6 33 "LineBuffersModel" "saved" "I", .fieldLink RX6 13 "LineBuffersModel" "past" "[I", .methodLink RX6 117 yX6_empties, .instanceMethod yX6_empties, .selects RX6 yX6_empties yX6_empties, .code yX6_empties cX6_empties 4 none, .methodLink RX6 40 yX6_of, .static yX6_of, .code yX6_of cX6_of 1 (some .int)] ++ wsX60)
def wsX6_now : List Cond := .code yX6_now cX6_now 1 (some .int) :: ([.fieldLink RX6 25 "LineBuffersModel" "refusal" "I", .fieldLink RX6 7 "LineBuffersModel" "now" "[I"] ++ wsX60)
def wsX6_output : List Cond := .code yX6_output cX6_output 1 (some .int) :: ([.fieldLink RX6 25 "LineBuffersModel" "refusal" "I", .methodLink RX6 105 yX6_made, .instanceMethod yX6_made, .selects RX6 yX6_made yX6_made, .initialized RX6, .code yX6_made cX6_made 1 (some .int), .fieldLink RX6 7 "LineBuffersModel" "now" "[I", .methodLink RX6 40 yX6_of, .static yX6_of, .code yX6_of cX6_of 1 (some .int)] ++ wsX60)
def wsX6_setting : List Cond := .code yX6_setting cX6_setting 3 (some .int) :: ([.fieldLink RX6 7 "LineBuffersModel" "now" "[I", .methodLink RX6 58 yX6_isMachine, .instanceMethod yX6_isMachine, .selects RX6 yX6_isMachine yX6_isMachine, .initialized RX6, .code yX6_isMachine cX6_isMachine 2 (some .boolean), .methodLink RX6 29 yX6_within, .static yX6_within, .code yX6_within cX6_within 3 (some .boolean), .methodLink RX6 36 yX6_refused, .instanceMethod yX6_refused, .selects RX6 yX6_refused yX6_refused, .code yX6_refused cX6_refused 2 (some .boolean), .fieldLink RX6 25 "LineBuffersModel" "refusal" "I", .methodLink RX6 40 yX6_of, .static yX6_of, .code yX6_of cX6_of 1 (some .int)] ++ wsX60)
def wsX6_tellMachine : List Cond := .code yX6_tellMachine cX6_tellMachine 3 (some .int) :: ([.fieldLink RX6 7 "LineBuffersModel" "now" "[I", .methodLink RX6 40 yX6_of, .static yX6_of, .initialized RX6, .code yX6_of cX6_of 1 (some .int)] ++ wsX60)
def wsX6_machine : List Cond := .code yX6_machine cX6_machine 3 (some .int) :: ([.methodLink RX6 58 yX6_isMachine, .instanceMethod yX6_isMachine, .selects RX6 yX6_isMachine yX6_isMachine, .initialized RX6, .code yX6_isMachine cX6_isMachine 2 (some .boolean), .fieldLink RX6 7 "LineBuffersModel" "now" "[I", .methodLink RX6 29 yX6_within, .static yX6_within, .code yX6_within cX6_within 3 (some .boolean), .methodLink RX6 36 yX6_refused, .instanceMethod yX6_refused, .selects RX6 yX6_refused yX6_refused, .code yX6_refused cX6_refused 2 (some .boolean), .fieldLink RX6 25 "LineBuffersModel" "refusal" "I", .methodLink RX6 120 yX6_tellMachine, .instanceMethod yX6_tellMachine, .selects RX6 yX6_tellMachine yX6_tellMachine, .code yX6_tellMachine cX6_tellMachine 3 (some .int), .methodLink RX6 40 yX6_of, .static yX6_of, .code yX6_of cX6_of 1 (some .int)] ++ wsX60)
def wsX6_count : List Cond := .code yX6_count cX6_count 3 (some .int) :: ([.fieldLink RX6 7 "LineBuffersModel" "now" "[I", .methodLink RX6 58 yX6_isMachine, .instanceMethod yX6_isMachine, .selects RX6 yX6_isMachine yX6_isMachine, .initialized RX6, .code yX6_isMachine cX6_isMachine 2 (some .boolean), .methodLink RX6 29 yX6_within, .static yX6_within, .code yX6_within cX6_within 3 (some .boolean), .methodLink RX6 36 yX6_refused, .instanceMethod yX6_refused, .selects RX6 yX6_refused yX6_refused, .code yX6_refused cX6_refused 2 (some .boolean), .fieldLink RX6 25 "LineBuffersModel" "refusal" "I", .methodLink RX6 40 yX6_of, .static yX6_of, .code yX6_of cX6_of 1 (some .int)] ++ wsX60)
def wsX6_meanFill : List Cond := .code yX6_meanFill cX6_meanFill 2 (some .double) :: ([.fieldLink RX6 7 "LineBuffersModel" "now" "[I", .methodLink RX6 58 yX6_isMachine, .instanceMethod yX6_isMachine, .selects RX6 yX6_isMachine yX6_isMachine, .initialized RX6, .code yX6_isMachine cX6_isMachine 2 (some .boolean), .methodLink RX6 29 yX6_within, .static yX6_within, .code yX6_within cX6_within 3 (some .boolean), .methodLink RX6 36 yX6_refused, .instanceMethod yX6_refused, .selects RX6 yX6_refused yX6_refused, .code yX6_refused cX6_refused 2 (some .boolean), .fieldLink RX6 25 "LineBuffersModel" "refusal" "I", .methodLink RX6 40 yX6_of, .static yX6_of, .code yX6_of cX6_of 1 (some .int)] ++ wsX60)
def wsX6_bottles : List Cond := .code yX6_bottles cX6_bottles 3 (some .int) :: ([.fieldLink RX6 7 "LineBuffersModel" "now" "[I", .methodLink RX6 40 yX6_of, .static yX6_of, .initialized RX6, .code yX6_of cX6_of 1 (some .int)] ++ wsX60)
def wsX6_inside : List Cond := .code yX6_inside cX6_inside 1 (some .int) :: ([.fieldLink RX6 25 "LineBuffersModel" "refusal" "I", .methodLink RX6 123 yX6_bottles, .instanceMethod yX6_bottles, .selects RX6 yX6_bottles yX6_bottles, .initialized RX6, .code yX6_bottles cX6_bottles 3 (some .int), .fieldLink RX6 7 "LineBuffersModel" "now" "[I", .methodLink RX6 40 yX6_of, .static yX6_of, .code yX6_of cX6_of 1 (some .int)] ++ wsX60)
def wsX6_most : List Cond := .code yX6_most cX6_most 5 (some .int) :: ([.fieldLink RX6 7 "LineBuffersModel" "now" "[I", .methodLink RX6 84 yX6_isDown, .instanceMethod yX6_isDown, .selects RX6 yX6_isDown yX6_isDown, .initialized RX6, .code yX6_isDown cX6_isDown 3 (some .boolean), .fieldLink RX6 22 "LineBuffersModel" "down" "[I", .methodLink RX6 40 yX6_of, .static yX6_of, .code yX6_of cX6_of 1 (some .int)] ++ wsX60)
def wsX6_slowestOf : List Cond := .code yX6_slowestOf cX6_slowestOf 4 (some .int) :: ([.fieldLink RX6 7 "LineBuffersModel" "now" "[I", .methodLink RX6 108 yX6_laysDown, .instanceMethod yX6_laysDown, .selects RX6 yX6_laysDown yX6_laysDown, .initialized RX6, .code yX6_laysDown cX6_laysDown 7 none, .fieldLink RX6 22 "LineBuffersModel" "down" "[I", .methodLink RX6 126 yX6_most, .instanceMethod yX6_most, .selects RX6 yX6_most yX6_most, .code yX6_most cX6_most 5 (some .int), .methodLink RX6 84 yX6_isDown, .instanceMethod yX6_isDown, .selects RX6 yX6_isDown yX6_isDown, .code yX6_isDown cX6_isDown 3 (some .boolean), .methodLink RX6 40 yX6_of, .static yX6_of, .code yX6_of cX6_of 1 (some .int)] ++ wsX60)
def wsX6_refusedLimit : List Cond := .code yX6_refusedLimit cX6_refusedLimit 2 (some .boolean) :: ([.fieldLink RX6 7 "LineBuffersModel" "now" "[I", .methodLink RX6 29 yX6_within, .static yX6_within, .initialized RX6, .code yX6_within cX6_within 3 (some .boolean), .methodLink RX6 36 yX6_refused, .instanceMethod yX6_refused, .selects RX6 yX6_refused yX6_refused, .code yX6_refused cX6_refused 2 (some .boolean), .fieldLink RX6 25 "LineBuffersModel" "refusal" "I"] ++ wsX60)
def wsX6_bound_r1 : List Cond := [Cond.methodLink RX6 129 yX6_refusedLimit, Cond.instanceMethod yX6_refusedLimit, Cond.selects RX6 yX6_refusedLimit yX6_refusedLimit, Cond.initialized RX6, Cond.code yX6_refusedLimit cX6_refusedLimit 2 (some .boolean), Cond.fieldLink RX6 7 "LineBuffersModel" "now" "[I", Cond.methodLink RX6 29 yX6_within, Cond.static yX6_within, Cond.code yX6_within cX6_within 3 (some .boolean), Cond.methodLink RX6 36 yX6_refused, Cond.instanceMethod yX6_refused, Cond.selects RX6 yX6_refused yX6_refused, Cond.code yX6_refused cX6_refused 2 (some .boolean), Cond.fieldLink RX6 25 "LineBuffersModel" "refusal" "I", Cond.methodLink RX6 132 yX6_slowestOf, Cond.instanceMethod yX6_slowestOf, Cond.selects RX6 yX6_slowestOf yX6_slowestOf, Cond.code yX6_slowestOf cX6_slowestOf 4 (some .int), Cond.methodLink RX6 108 yX6_laysDown, Cond.instanceMethod yX6_laysDown, Cond.selects RX6 yX6_laysDown yX6_laysDown, Cond.code yX6_laysDown cX6_laysDown 7 none, Cond.fieldLink RX6 22 "LineBuffersModel" "down" "[I", Cond.methodLink RX6 126 yX6_most]
def wsX6_bound_r2 : List Cond := [Cond.instanceMethod yX6_most, Cond.selects RX6 yX6_most yX6_most, Cond.code yX6_most cX6_most 5 (some .int), Cond.methodLink RX6 84 yX6_isDown, Cond.instanceMethod yX6_isDown, Cond.selects RX6 yX6_isDown yX6_isDown, Cond.code yX6_isDown cX6_isDown 3 (some .boolean), Cond.methodLink RX6 40 yX6_of, Cond.static yX6_of, Cond.code yX6_of cX6_of 1 (some .int)]
def wsX6_bound : List Cond := .code yX6_bound cX6_bound 2 (some .int) :: ((wsX6_bound_r1 ++ wsX6_bound_r2) ++ wsX60)
def wsX6_slowest_r1 : List Cond := [Cond.methodLink RX6 129 yX6_refusedLimit, Cond.instanceMethod yX6_refusedLimit, Cond.selects RX6 yX6_refusedLimit yX6_refusedLimit, Cond.initialized RX6, Cond.code yX6_refusedLimit cX6_refusedLimit 2 (some .boolean), Cond.fieldLink RX6 7 "LineBuffersModel" "now" "[I", Cond.methodLink RX6 29 yX6_within, Cond.static yX6_within, Cond.code yX6_within cX6_within 3 (some .boolean), Cond.methodLink RX6 36 yX6_refused, Cond.instanceMethod yX6_refused, Cond.selects RX6 yX6_refused yX6_refused, Cond.code yX6_refused cX6_refused 2 (some .boolean), Cond.fieldLink RX6 25 "LineBuffersModel" "refusal" "I", Cond.methodLink RX6 132 yX6_slowestOf, Cond.instanceMethod yX6_slowestOf, Cond.selects RX6 yX6_slowestOf yX6_slowestOf, Cond.code yX6_slowestOf cX6_slowestOf 4 (some .int), Cond.methodLink RX6 108 yX6_laysDown, Cond.instanceMethod yX6_laysDown, Cond.selects RX6 yX6_laysDown yX6_laysDown, Cond.code yX6_laysDown cX6_laysDown 7 none, Cond.fieldLink RX6 22 "LineBuffersModel" "down" "[I", Cond.methodLink RX6 126 yX6_most]
def wsX6_slowest_r2 : List Cond := [Cond.instanceMethod yX6_most, Cond.selects RX6 yX6_most yX6_most, Cond.code yX6_most cX6_most 5 (some .int), Cond.methodLink RX6 84 yX6_isDown, Cond.instanceMethod yX6_isDown, Cond.selects RX6 yX6_isDown yX6_isDown, Cond.code yX6_isDown cX6_isDown 3 (some .boolean), Cond.methodLink RX6 40 yX6_of, Cond.static yX6_of, Cond.code yX6_of cX6_of 1 (some .int)]
def wsX6_slowest : List Cond := .code yX6_slowest cX6_slowest 2 (some .int) :: ((wsX6_slowest_r1 ++ wsX6_slowest_r2) ++ wsX60)
def wsX6_idle : List Cond := .code yX6_idle cX6_idle 2 (some .int) :: ([.fieldLink RX6 7 "LineBuffersModel" "now" "[I", .methodLink RX6 40 yX6_of, .static yX6_of, .initialized RX6, .code yX6_of cX6_of 1 (some .int)] ++ wsX60)
def wsX6_limiting : List Cond := .code yX6_limiting cX6_limiting 3 (some .int) :: ([.fieldLink RX6 7 "LineBuffersModel" "now" "[I", .methodLink RX6 36 yX6_refused, .instanceMethod yX6_refused, .selects RX6 yX6_refused yX6_refused, .initialized RX6, .code yX6_refused cX6_refused 2 (some .boolean), .fieldLink RX6 25 "LineBuffersModel" "refusal" "I", .methodLink RX6 135 yX6_idle, .instanceMethod yX6_idle, .selects RX6 yX6_idle yX6_idle, .code yX6_idle cX6_idle 2 (some .int), .methodLink RX6 40 yX6_of, .static yX6_of, .code yX6_of cX6_of 1 (some .int)] ++ wsX60)
def wsX6_madeWith_r1 : List Cond := [Cond.fieldLink RX6 7 "LineBuffersModel" "now" "[I", Cond.methodLink RX6 138 yX6_keeps, Cond.instanceMethod yX6_keeps, Cond.selects RX6 yX6_keeps yX6_keeps, Cond.initialized RX6, Cond.code yX6_keeps cX6_keeps 2 none, Cond.fieldLink RX6 16 "LineBuffersModel" "aside" "[I", Cond.methodLink RX6 40 yX6_of, Cond.static yX6_of, Cond.code yX6_of cX6_of 1 (some .int), Cond.methodLink RX6 117 yX6_empties, Cond.instanceMethod yX6_empties, Cond.selects RX6 yX6_empties yX6_empties, Cond.code yX6_empties cX6_empties 4 none, Cond.methodLink RX6 114 yX6_goes, Cond.instanceMethod yX6_goes, Cond.selects RX6 yX6_goes yX6_goes, Cond.code yX6_goes cX6_goes 4 (some .int), Cond.methodLink RX6 105 yX6_made, Cond.instanceMethod yX6_made, Cond.selects RX6 yX6_made yX6_made, Cond.code yX6_made cX6_made 1 (some .int), Cond.methodLink RX6 108 yX6_laysDown, Cond.instanceMethod yX6_laysDown]
def wsX6_madeWith_r2 : List Cond := [Cond.selects RX6 yX6_laysDown yX6_laysDown, Cond.code yX6_laysDown cX6_laysDown 7 none, Cond.fieldLink RX6 22 "LineBuffersModel" "down" "[I", Cond.methodLink RX6 111 yX6_passes, Cond.instanceMethod yX6_passes, Cond.selects RX6 yX6_passes yX6_passes, Cond.code yX6_passes cX6_passes 3 none, Cond.methodLink RX6 101 yX6_turns, Cond.instanceMethod yX6_turns, Cond.selects RX6 yX6_turns yX6_turns, Cond.code yX6_turns cX6_turns 4 (some .int), Cond.methodLink RX6 90 yX6_speeds, Cond.instanceMethod yX6_speeds, Cond.selects RX6 yX6_speeds yX6_speeds, Cond.code yX6_speeds cX6_speeds 5 none, Cond.methodLink RX6 84 yX6_isDown, Cond.instanceMethod yX6_isDown, Cond.selects RX6 yX6_isDown yX6_isDown, Cond.code yX6_isDown cX6_isDown 3 (some .boolean), Cond.methodLink RX6 94 yX6_leaves, Cond.instanceMethod yX6_leaves, Cond.selects RX6 yX6_leaves yX6_leaves, Cond.code yX6_leaves cX6_leaves 6 none, Cond.methodLink RX6 87 yX6_cycle]
def wsX6_madeWith_r3 : List Cond := [Cond.instanceMethod yX6_cycle, Cond.selects RX6 yX6_cycle yX6_cycle, Cond.code yX6_cycle cX6_cycle 2 (some .int), Cond.methodLink RX6 98 yX6_takes, Cond.instanceMethod yX6_takes, Cond.selects RX6 yX6_takes yX6_takes, Cond.code yX6_takes cX6_takes 4 none, Cond.methodLink RX6 141 yX6_takesBack, Cond.instanceMethod yX6_takesBack, Cond.selects RX6 yX6_takesBack yX6_takesBack, Cond.code yX6_takesBack cX6_takesBack 2 none]
def wsX6_madeWith : List Cond := .code yX6_madeWith cX6_madeWith 5 (some .int) :: ((wsX6_madeWith_r1 ++ (wsX6_madeWith_r2 ++ wsX6_madeWith_r3)) ++ wsX60)
def wsX6_areTicks : List Cond := .code yX6_areTicks cX6_areTicks 1 (some .boolean) :: ([.methodLink RX6 29 yX6_within, .static yX6_within, .initialized RX6, .code yX6_within cX6_within 3 (some .boolean)])
def wsX6_outputWith_r1 : List Cond := [Cond.methodLink RX6 58 yX6_isMachine, Cond.instanceMethod yX6_isMachine, Cond.selects RX6 yX6_isMachine yX6_isMachine, Cond.initialized RX6, Cond.code yX6_isMachine cX6_isMachine 2 (some .boolean), Cond.fieldLink RX6 7 "LineBuffersModel" "now" "[I", Cond.methodLink RX6 29 yX6_within, Cond.static yX6_within, Cond.code yX6_within cX6_within 3 (some .boolean), Cond.methodLink RX6 48 yX6_isCapacity, Cond.static yX6_isCapacity, Cond.code yX6_isCapacity cX6_isCapacity 1 (some .boolean), Cond.methodLink RX6 144 yX6_areTicks, Cond.static yX6_areTicks, Cond.code yX6_areTicks cX6_areTicks 1 (some .boolean), Cond.methodLink RX6 36 yX6_refused, Cond.instanceMethod yX6_refused, Cond.selects RX6 yX6_refused yX6_refused, Cond.code yX6_refused cX6_refused 2 (some .boolean), Cond.fieldLink RX6 25 "LineBuffersModel" "refusal" "I", Cond.methodLink RX6 147 yX6_madeWith, Cond.instanceMethod yX6_madeWith, Cond.selects RX6 yX6_madeWith yX6_madeWith, Cond.code yX6_madeWith cX6_madeWith 5 (some .int)]
def wsX6_outputWith_r2 : List Cond := [Cond.methodLink RX6 138 yX6_keeps, Cond.instanceMethod yX6_keeps, Cond.selects RX6 yX6_keeps yX6_keeps, Cond.code yX6_keeps cX6_keeps 2 none, Cond.fieldLink RX6 16 "LineBuffersModel" "aside" "[I", Cond.methodLink RX6 40 yX6_of, Cond.static yX6_of, Cond.code yX6_of cX6_of 1 (some .int), Cond.methodLink RX6 117 yX6_empties, Cond.instanceMethod yX6_empties, Cond.selects RX6 yX6_empties yX6_empties, Cond.code yX6_empties cX6_empties 4 none, Cond.methodLink RX6 114 yX6_goes, Cond.instanceMethod yX6_goes, Cond.selects RX6 yX6_goes yX6_goes, Cond.code yX6_goes cX6_goes 4 (some .int), Cond.methodLink RX6 105 yX6_made, Cond.instanceMethod yX6_made, Cond.selects RX6 yX6_made yX6_made, Cond.code yX6_made cX6_made 1 (some .int), Cond.methodLink RX6 108 yX6_laysDown, Cond.instanceMethod yX6_laysDown, Cond.selects RX6 yX6_laysDown yX6_laysDown, Cond.code yX6_laysDown cX6_laysDown 7 none]
def wsX6_outputWith_r3 : List Cond := [Cond.fieldLink RX6 22 "LineBuffersModel" "down" "[I", Cond.methodLink RX6 111 yX6_passes, Cond.instanceMethod yX6_passes, Cond.selects RX6 yX6_passes yX6_passes, Cond.code yX6_passes cX6_passes 3 none, Cond.methodLink RX6 101 yX6_turns, Cond.instanceMethod yX6_turns, Cond.selects RX6 yX6_turns yX6_turns, Cond.code yX6_turns cX6_turns 4 (some .int), Cond.methodLink RX6 90 yX6_speeds, Cond.instanceMethod yX6_speeds, Cond.selects RX6 yX6_speeds yX6_speeds, Cond.code yX6_speeds cX6_speeds 5 none, Cond.methodLink RX6 84 yX6_isDown, Cond.instanceMethod yX6_isDown, Cond.selects RX6 yX6_isDown yX6_isDown, Cond.code yX6_isDown cX6_isDown 3 (some .boolean), Cond.methodLink RX6 94 yX6_leaves, Cond.instanceMethod yX6_leaves, Cond.selects RX6 yX6_leaves yX6_leaves, Cond.code yX6_leaves cX6_leaves 6 none, Cond.methodLink RX6 87 yX6_cycle, Cond.instanceMethod yX6_cycle, Cond.selects RX6 yX6_cycle yX6_cycle]
def wsX6_outputWith_r4 : List Cond := [Cond.code yX6_cycle cX6_cycle 2 (some .int), Cond.methodLink RX6 98 yX6_takes, Cond.instanceMethod yX6_takes, Cond.selects RX6 yX6_takes yX6_takes, Cond.code yX6_takes cX6_takes 4 none, Cond.methodLink RX6 141 yX6_takesBack, Cond.instanceMethod yX6_takesBack, Cond.selects RX6 yX6_takesBack yX6_takesBack, Cond.code yX6_takesBack cX6_takesBack 2 none]
def wsX6_outputWith : List Cond := .code yX6_outputWith cX6_outputWith 4 (some .int) :: ((wsX6_outputWith_r1 ++ (wsX6_outputWith_r2 ++ (wsX6_outputWith_r3 ++ wsX6_outputWith_r4))) ++ wsX60)
def wsX6_capacityFor_r1 : List Cond := [Cond.methodLink RX6 58 yX6_isMachine, Cond.instanceMethod yX6_isMachine, Cond.selects RX6 yX6_isMachine yX6_isMachine, Cond.initialized RX6, Cond.code yX6_isMachine cX6_isMachine 2 (some .boolean), Cond.fieldLink RX6 7 "LineBuffersModel" "now" "[I", Cond.methodLink RX6 29 yX6_within, Cond.static yX6_within, Cond.code yX6_within cX6_within 3 (some .boolean), Cond.methodLink RX6 144 yX6_areTicks, Cond.static yX6_areTicks, Cond.code yX6_areTicks cX6_areTicks 1 (some .boolean), Cond.methodLink RX6 36 yX6_refused, Cond.instanceMethod yX6_refused, Cond.selects RX6 yX6_refused yX6_refused, Cond.code yX6_refused cX6_refused 2 (some .boolean), Cond.fieldLink RX6 25 "LineBuffersModel" "refusal" "I", Cond.methodLink RX6 147 yX6_madeWith, Cond.instanceMethod yX6_madeWith, Cond.selects RX6 yX6_madeWith yX6_madeWith, Cond.code yX6_madeWith cX6_madeWith 5 (some .int), Cond.methodLink RX6 138 yX6_keeps, Cond.instanceMethod yX6_keeps, Cond.selects RX6 yX6_keeps yX6_keeps]
def wsX6_capacityFor_r2 : List Cond := [Cond.code yX6_keeps cX6_keeps 2 none, Cond.fieldLink RX6 16 "LineBuffersModel" "aside" "[I", Cond.methodLink RX6 40 yX6_of, Cond.static yX6_of, Cond.code yX6_of cX6_of 1 (some .int), Cond.methodLink RX6 117 yX6_empties, Cond.instanceMethod yX6_empties, Cond.selects RX6 yX6_empties yX6_empties, Cond.code yX6_empties cX6_empties 4 none, Cond.methodLink RX6 114 yX6_goes, Cond.instanceMethod yX6_goes, Cond.selects RX6 yX6_goes yX6_goes, Cond.code yX6_goes cX6_goes 4 (some .int), Cond.methodLink RX6 105 yX6_made, Cond.instanceMethod yX6_made, Cond.selects RX6 yX6_made yX6_made, Cond.code yX6_made cX6_made 1 (some .int), Cond.methodLink RX6 108 yX6_laysDown, Cond.instanceMethod yX6_laysDown, Cond.selects RX6 yX6_laysDown yX6_laysDown, Cond.code yX6_laysDown cX6_laysDown 7 none, Cond.fieldLink RX6 22 "LineBuffersModel" "down" "[I", Cond.methodLink RX6 111 yX6_passes, Cond.instanceMethod yX6_passes]
def wsX6_capacityFor_r3 : List Cond := [Cond.selects RX6 yX6_passes yX6_passes, Cond.code yX6_passes cX6_passes 3 none, Cond.methodLink RX6 101 yX6_turns, Cond.instanceMethod yX6_turns, Cond.selects RX6 yX6_turns yX6_turns, Cond.code yX6_turns cX6_turns 4 (some .int), Cond.methodLink RX6 90 yX6_speeds, Cond.instanceMethod yX6_speeds, Cond.selects RX6 yX6_speeds yX6_speeds, Cond.code yX6_speeds cX6_speeds 5 none, Cond.methodLink RX6 84 yX6_isDown, Cond.instanceMethod yX6_isDown, Cond.selects RX6 yX6_isDown yX6_isDown, Cond.code yX6_isDown cX6_isDown 3 (some .boolean), Cond.methodLink RX6 94 yX6_leaves, Cond.instanceMethod yX6_leaves, Cond.selects RX6 yX6_leaves yX6_leaves, Cond.code yX6_leaves cX6_leaves 6 none, Cond.methodLink RX6 87 yX6_cycle, Cond.instanceMethod yX6_cycle, Cond.selects RX6 yX6_cycle yX6_cycle, Cond.code yX6_cycle cX6_cycle 2 (some .int), Cond.methodLink RX6 98 yX6_takes, Cond.instanceMethod yX6_takes]
def wsX6_capacityFor_r4 : List Cond := [Cond.selects RX6 yX6_takes yX6_takes, Cond.code yX6_takes cX6_takes 4 none, Cond.methodLink RX6 141 yX6_takesBack, Cond.instanceMethod yX6_takesBack, Cond.selects RX6 yX6_takesBack yX6_takesBack, Cond.code yX6_takesBack cX6_takesBack 2 none]
def wsX6_capacityFor : List Cond := .code yX6_capacityFor cX6_capacityFor 5 (some .int) :: ((wsX6_capacityFor_r1 ++ (wsX6_capacityFor_r2 ++ (wsX6_capacityFor_r3 ++ wsX6_capacityFor_r4))) ++ wsX60)
def wsX6_bestBuffer_r1 : List Cond := [Cond.fieldLink RX6 7 "LineBuffersModel" "now" "[I", Cond.methodLink RX6 144 yX6_areTicks, Cond.static yX6_areTicks, Cond.initialized RX6, Cond.code yX6_areTicks cX6_areTicks 1 (some .boolean), Cond.methodLink RX6 29 yX6_within, Cond.static yX6_within, Cond.code yX6_within cX6_within 3 (some .boolean), Cond.methodLink RX6 36 yX6_refused, Cond.instanceMethod yX6_refused, Cond.selects RX6 yX6_refused yX6_refused, Cond.code yX6_refused cX6_refused 2 (some .boolean), Cond.fieldLink RX6 25 "LineBuffersModel" "refusal" "I", Cond.methodLink RX6 40 yX6_of, Cond.static yX6_of, Cond.code yX6_of cX6_of 1 (some .int), Cond.methodLink RX6 147 yX6_madeWith, Cond.instanceMethod yX6_madeWith, Cond.selects RX6 yX6_madeWith yX6_madeWith, Cond.code yX6_madeWith cX6_madeWith 5 (some .int), Cond.methodLink RX6 138 yX6_keeps, Cond.instanceMethod yX6_keeps, Cond.selects RX6 yX6_keeps yX6_keeps, Cond.code yX6_keeps cX6_keeps 2 none]
def wsX6_bestBuffer_r2 : List Cond := [Cond.fieldLink RX6 16 "LineBuffersModel" "aside" "[I", Cond.methodLink RX6 117 yX6_empties, Cond.instanceMethod yX6_empties, Cond.selects RX6 yX6_empties yX6_empties, Cond.code yX6_empties cX6_empties 4 none, Cond.methodLink RX6 114 yX6_goes, Cond.instanceMethod yX6_goes, Cond.selects RX6 yX6_goes yX6_goes, Cond.code yX6_goes cX6_goes 4 (some .int), Cond.methodLink RX6 105 yX6_made, Cond.instanceMethod yX6_made, Cond.selects RX6 yX6_made yX6_made, Cond.code yX6_made cX6_made 1 (some .int), Cond.methodLink RX6 108 yX6_laysDown, Cond.instanceMethod yX6_laysDown, Cond.selects RX6 yX6_laysDown yX6_laysDown, Cond.code yX6_laysDown cX6_laysDown 7 none, Cond.fieldLink RX6 22 "LineBuffersModel" "down" "[I", Cond.methodLink RX6 111 yX6_passes, Cond.instanceMethod yX6_passes, Cond.selects RX6 yX6_passes yX6_passes, Cond.code yX6_passes cX6_passes 3 none, Cond.methodLink RX6 101 yX6_turns, Cond.instanceMethod yX6_turns]
def wsX6_bestBuffer_r3 : List Cond := [Cond.selects RX6 yX6_turns yX6_turns, Cond.code yX6_turns cX6_turns 4 (some .int), Cond.methodLink RX6 90 yX6_speeds, Cond.instanceMethod yX6_speeds, Cond.selects RX6 yX6_speeds yX6_speeds, Cond.code yX6_speeds cX6_speeds 5 none, Cond.methodLink RX6 84 yX6_isDown, Cond.instanceMethod yX6_isDown, Cond.selects RX6 yX6_isDown yX6_isDown, Cond.code yX6_isDown cX6_isDown 3 (some .boolean), Cond.methodLink RX6 94 yX6_leaves, Cond.instanceMethod yX6_leaves, Cond.selects RX6 yX6_leaves yX6_leaves, Cond.code yX6_leaves cX6_leaves 6 none, Cond.methodLink RX6 87 yX6_cycle, Cond.instanceMethod yX6_cycle, Cond.selects RX6 yX6_cycle yX6_cycle, Cond.code yX6_cycle cX6_cycle 2 (some .int), Cond.methodLink RX6 98 yX6_takes, Cond.instanceMethod yX6_takes, Cond.selects RX6 yX6_takes yX6_takes, Cond.code yX6_takes cX6_takes 4 none, Cond.methodLink RX6 141 yX6_takesBack, Cond.instanceMethod yX6_takesBack]
def wsX6_bestBuffer_r4 : List Cond := [Cond.selects RX6 yX6_takesBack yX6_takesBack, Cond.code yX6_takesBack cX6_takesBack 2 none]
def wsX6_bestBuffer : List Cond := .code yX6_bestBuffer cX6_bestBuffer 8 (some .int) :: ((wsX6_bestBuffer_r1 ++ (wsX6_bestBuffer_r2 ++ (wsX6_bestBuffer_r3 ++ wsX6_bestBuffer_r4))) ++ wsX60)
def wsX6_append : List Cond := .code yX6_append cX6_append 2 (some .int) :: ([.fieldLink RX6 151 "LineBuffersModel" "length" "I", .fieldLink RX6 19 "LineBuffersModel" "text" "[I", .methodLink RX6 29 yX6_within, .static yX6_within, .initialized RX6, .code yX6_within cX6_within 3 (some .boolean), .methodLink RX6 36 yX6_refused, .instanceMethod yX6_refused, .selects RX6 yX6_refused yX6_refused, .code yX6_refused cX6_refused 2 (some .boolean), .fieldLink RX6 25 "LineBuffersModel" "refusal" "I"] ++ wsX60)
def wsX6_clearText : List Cond := .code yX6_clearText cX6_clearText 2 (some .int) :: ([.fieldLink RX6 25 "LineBuffersModel" "refusal" "I", .fieldLink RX6 151 "LineBuffersModel" "length" "I"] ++ wsX60)
def wsX6_isAt : List Cond := .code yX6_isAt cX6_isAt 3 (some .boolean) :: ([.fieldLink RX6 154 "LineBuffersModel" "spot" "I", .fieldLink RX6 151 "LineBuffersModel" "length" "I", .fieldLink RX6 19 "LineBuffersModel" "text" "[I", .methodLink RX6 29 yX6_within, .static yX6_within, .initialized RX6, .code yX6_within cX6_within 3 (some .boolean)] ++ wsX60)
def wsX6_sign : List Cond := .code yX6_sign cX6_sign 3 (some .boolean) :: ([.fieldLink RX6 154 "LineBuffersModel" "spot" "I", .methodLink RX6 157 yX6_isAt, .instanceMethod yX6_isAt, .selects RX6 yX6_isAt yX6_isAt, .initialized RX6, .code yX6_isAt cX6_isAt 3 (some .boolean), .fieldLink RX6 151 "LineBuffersModel" "length" "I", .fieldLink RX6 19 "LineBuffersModel" "text" "[I", .methodLink RX6 29 yX6_within, .static yX6_within, .code yX6_within cX6_within 3 (some .boolean)] ++ wsX60)
def wsX6_number : List Cond := .code yX6_number cX6_number 5 (some .boolean) :: ([.fieldLink RX6 154 "LineBuffersModel" "spot" "I", .fieldLink RX6 160 "LineBuffersModel" "value" "I", .fieldLink RX6 19 "LineBuffersModel" "text" "[I", .methodLink RX6 157 yX6_isAt, .instanceMethod yX6_isAt, .selects RX6 yX6_isAt yX6_isAt, .initialized RX6, .code yX6_isAt cX6_isAt 3 (some .boolean), .fieldLink RX6 151 "LineBuffersModel" "length" "I", .methodLink RX6 29 yX6_within, .static yX6_within, .code yX6_within cX6_within 3 (some .boolean)] ++ wsX60)
def wsX6_readsMachine_r1 : List Cond := [Cond.fieldLink RX6 7 "LineBuffersModel" "now" "[I", Cond.fieldLink RX6 154 "LineBuffersModel" "spot" "I", Cond.fieldLink RX6 160 "LineBuffersModel" "value" "I", Cond.methodLink RX6 163 yX6_number, Cond.instanceMethod yX6_number, Cond.selects RX6 yX6_number yX6_number, Cond.initialized RX6, Cond.code yX6_number cX6_number 5 (some .boolean), Cond.fieldLink RX6 19 "LineBuffersModel" "text" "[I", Cond.methodLink RX6 157 yX6_isAt, Cond.instanceMethod yX6_isAt, Cond.selects RX6 yX6_isAt yX6_isAt, Cond.code yX6_isAt cX6_isAt 3 (some .boolean), Cond.fieldLink RX6 151 "LineBuffersModel" "length" "I", Cond.methodLink RX6 29 yX6_within, Cond.static yX6_within, Cond.code yX6_within cX6_within 3 (some .boolean), Cond.methodLink RX6 166 yX6_sign, Cond.instanceMethod yX6_sign, Cond.selects RX6 yX6_sign yX6_sign, Cond.code yX6_sign cX6_sign 3 (some .boolean), Cond.methodLink RX6 54 yX6_adds, Cond.instanceMethod yX6_adds, Cond.selects RX6 yX6_adds yX6_adds]
def wsX6_readsMachine_r2 : List Cond := [Cond.code yX6_adds cX6_adds 6 none, Cond.methodLink RX6 40 yX6_of, Cond.static yX6_of, Cond.code yX6_of cX6_of 1 (some .int)]
def wsX6_readsMachine : List Cond := .code yX6_readsMachine cX6_readsMachine 3 (some .boolean) :: ((wsX6_readsMachine_r1 ++ wsX6_readsMachine_r2) ++ wsX60)
def wsX6_readsMarks : List Cond := .code yX6_readsMarks cX6_readsMarks 3 (some .boolean) :: ([.fieldLink RX6 154 "LineBuffersModel" "spot" "I", .fieldLink RX6 7 "LineBuffersModel" "now" "[I", .fieldLink RX6 160 "LineBuffersModel" "value" "I", .methodLink RX6 163 yX6_number, .instanceMethod yX6_number, .selects RX6 yX6_number yX6_number, .initialized RX6, .code yX6_number cX6_number 5 (some .boolean), .fieldLink RX6 19 "LineBuffersModel" "text" "[I", .methodLink RX6 157 yX6_isAt, .instanceMethod yX6_isAt, .selects RX6 yX6_isAt yX6_isAt, .code yX6_isAt cX6_isAt 3 (some .boolean), .fieldLink RX6 151 "LineBuffersModel" "length" "I", .methodLink RX6 29 yX6_within, .static yX6_within, .code yX6_within cX6_within 3 (some .boolean), .methodLink RX6 40 yX6_of, .static yX6_of, .code yX6_of cX6_of 1 (some .int), .methodLink RX6 166 yX6_sign, .instanceMethod yX6_sign, .selects RX6 yX6_sign yX6_sign, .code yX6_sign cX6_sign 3 (some .boolean)] ++ wsX60)
def wsX6_parse_r1 : List Cond := [Cond.fieldLink RX6 25 "LineBuffersModel" "refusal" "I", Cond.fieldLink RX6 7 "LineBuffersModel" "now" "[I", Cond.fieldLink RX6 154 "LineBuffersModel" "spot" "I", Cond.fieldLink RX6 151 "LineBuffersModel" "length" "I", Cond.fieldLink RX6 19 "LineBuffersModel" "text" "[I", Cond.fieldLink RX6 16 "LineBuffersModel" "aside" "[I", Cond.methodLink RX6 138 yX6_keeps, Cond.instanceMethod yX6_keeps, Cond.selects RX6 yX6_keeps yX6_keeps, Cond.initialized RX6, Cond.code yX6_keeps cX6_keeps 2 none, Cond.methodLink RX6 169 yX6_readsMachine, Cond.instanceMethod yX6_readsMachine, Cond.selects RX6 yX6_readsMachine yX6_readsMachine, Cond.code yX6_readsMachine cX6_readsMachine 3 (some .boolean), Cond.fieldLink RX6 160 "LineBuffersModel" "value" "I", Cond.methodLink RX6 163 yX6_number, Cond.instanceMethod yX6_number, Cond.selects RX6 yX6_number yX6_number, Cond.code yX6_number cX6_number 5 (some .boolean), Cond.methodLink RX6 157 yX6_isAt, Cond.instanceMethod yX6_isAt, Cond.selects RX6 yX6_isAt yX6_isAt, Cond.code yX6_isAt cX6_isAt 3 (some .boolean)]
def wsX6_parse_r2 : List Cond := [Cond.methodLink RX6 29 yX6_within, Cond.static yX6_within, Cond.code yX6_within cX6_within 3 (some .boolean), Cond.methodLink RX6 166 yX6_sign, Cond.instanceMethod yX6_sign, Cond.selects RX6 yX6_sign yX6_sign, Cond.code yX6_sign cX6_sign 3 (some .boolean), Cond.methodLink RX6 54 yX6_adds, Cond.instanceMethod yX6_adds, Cond.selects RX6 yX6_adds yX6_adds, Cond.code yX6_adds cX6_adds 6 none, Cond.methodLink RX6 40 yX6_of, Cond.static yX6_of, Cond.code yX6_of cX6_of 1 (some .int), Cond.methodLink RX6 173 yX6_readsMarks, Cond.instanceMethod yX6_readsMarks, Cond.selects RX6 yX6_readsMarks yX6_readsMarks, Cond.code yX6_readsMarks cX6_readsMarks 3 (some .boolean), Cond.methodLink RX6 51 yX6_saves, Cond.instanceMethod yX6_saves, Cond.selects RX6 yX6_saves yX6_saves, Cond.code yX6_saves cX6_saves 2 none, Cond.fieldLink RX6 33 "LineBuffersModel" "saved" "I", Cond.fieldLink RX6 13 "LineBuffersModel" "past" "[I"]
def wsX6_parse_r3 : List Cond := [Cond.methodLink RX6 141 yX6_takesBack, Cond.instanceMethod yX6_takesBack, Cond.selects RX6 yX6_takesBack yX6_takesBack, Cond.code yX6_takesBack cX6_takesBack 2 none]
def wsX6_parse : List Cond := .code yX6_parse cX6_parse 4 (some .int) :: ((wsX6_parse_r1 ++ (wsX6_parse_r2 ++ wsX6_parse_r3)) ++ wsX60)
def wsX6_mix : List Cond := .code yX6_mix cX6_mix 2 none :: ([.constantLong RX6 176 (31), .fieldLink RX6 178 "LineBuffersModel" "hash" "J"] ++ wsX60)
def wsX6_digest_r1 : List Cond := [Cond.fieldLink RX6 25 "LineBuffersModel" "refusal" "I", Cond.constantLong RX6 181 (3109), Cond.fieldLink RX6 178 "LineBuffersModel" "hash" "J", Cond.fieldLink RX6 151 "LineBuffersModel" "length" "I", Cond.fieldLink RX6 7 "LineBuffersModel" "now" "[I", Cond.fieldLink RX6 33 "LineBuffersModel" "saved" "I", Cond.methodLink RX6 183 yX6_mix, Cond.instanceMethod yX6_mix, Cond.selects RX6 yX6_mix yX6_mix, Cond.initialized RX6, Cond.code yX6_mix cX6_mix 2 none, Cond.constantLong RX6 176 (31), Cond.methodLink RX6 105 yX6_made, Cond.instanceMethod yX6_made, Cond.selects RX6 yX6_made yX6_made, Cond.code yX6_made cX6_made 1 (some .int), Cond.methodLink RX6 40 yX6_of, Cond.static yX6_of, Cond.code yX6_of cX6_of 1 (some .int), Cond.methodLink RX6 120 yX6_tellMachine, Cond.instanceMethod yX6_tellMachine, Cond.selects RX6 yX6_tellMachine yX6_tellMachine, Cond.code yX6_tellMachine cX6_tellMachine 3 (some .int), Cond.methodLink RX6 123 yX6_bottles]
def wsX6_digest_r2 : List Cond := [Cond.instanceMethod yX6_bottles, Cond.selects RX6 yX6_bottles yX6_bottles, Cond.code yX6_bottles cX6_bottles 3 (some .int)]
def wsX6_digest : List Cond := .code yX6_digest cX6_digest 3 (some .long) :: ((wsX6_digest_r1 ++ wsX6_digest_r2) ++ wsX60)
def wsJ9_min_7cf53 : List Cond := .code yJ9_min_7cf53 cJ9_min_7cf53 2 (some .int) :: ([])
def wsL_addMachine_r1 : List Cond := [Cond.classLink RL 13 "java/lang/IllegalArgumentException", Cond.classLink RL 15 "java/lang/IllegalStateException", Cond.methodLink RL 7 yX5_addMachine, Cond.instanceMethod yX5_addMachine, Cond.selects RX5 yX5_addMachine yX5_addMachine, Cond.initialized RX5, Cond.code yX5_addMachine cX5_addMachine 4 (some .int), Cond.classLink RX5 41 "java/lang/IllegalArgumentException", Cond.initialized "java/lang/IllegalArgumentException", Cond.classLink RX5 55 "java/lang/IllegalStateException", Cond.initialized "java/lang/IllegalStateException", Cond.fieldLink RX5 10 "LineBuffers" "line" "LLineBuffers$Line;", Cond.fieldLink RX5 22 "LineBuffers" "history" "LLineBuffers$History;", Cond.methodLink RX5 33 yX5_areCycles, Cond.static yX5_areCycles, Cond.code yX5_areCycles cX5_areCycles 2 (some .boolean), Cond.methodLink RX5 37 yX5_isIn, Cond.static yX5_isIn, Cond.code yX5_isIn cX5_isIn 3 (some .boolean), Cond.methodLink RX5 60 yX1_keep, Cond.instanceMethod yX1_keep, Cond.selects RX1 yX1_keep yX1_keep, Cond.initialized RX1, Cond.code yX1_keep cX1_keep 2 none]
def wsL_addMachine_r2 : List Cond := [Cond.fieldLink RX1 18 "LineBuffers$History" "newest" "I", Cond.fieldLink RX1 11 "LineBuffers$History" "places" "[LLineBuffers$Line;", Cond.fieldLink RX1 26 "LineBuffers$History" "saved" "I", Cond.methodLink RX1 22 yX2_copy, Cond.static yX2_copy, Cond.initialized RX2, Cond.code yX2_copy cX2_copy 3 none, Cond.fieldLink RX2 23 "LineBuffers$Line" "machines" "I", Cond.fieldLink RX2 11 "LineBuffers$Line" "rows" "[[I", Cond.methodLink RX2 27 arraycopyName, Cond.native arraycopyName, Cond.static arraycopyName, Cond.initialized "java/lang/System", Cond.fieldLink RX2 19 "LineBuffers$Line" "stops" "LLineBuffers$Stops;", Cond.fieldLink RX2 37 "LineBuffers$Line" "tick" "I", Cond.methodLink RX2 33 yX4_copy, Cond.static yX4_copy, Cond.initialized RX4, Cond.code yX4_copy cX4_copy 3 none, Cond.fieldLink RX4 21 "LineBuffers$Stops" "planned" "I", Cond.fieldLink RX4 9 "LineBuffers$Stops" "machineOf" "[I", Cond.methodLink RX4 25 arraycopyName, Cond.fieldLink RX4 15 "LineBuffers$Stops" "firstOf" "[I", Cond.fieldLink RX4 18 "LineBuffers$Stops" "durationOf" "[I"]
def wsL_addMachine_r3 : List Cond := [Cond.methodLink RX5 64 yX2_join, Cond.instanceMethod yX2_join, Cond.selects RX2 yX2_join yX2_join, Cond.code yX2_join cX2_join 5 (some .int), Cond.methodLink RX2 43 yX2_empty, Cond.static yX2_empty, Cond.code yX2_empty cX2_empty 2 none]
def wsL_addMachine : List Cond := .codeWith yL_addMachine cL_addMachine 6 (some .int) [(0, 12, 15, 13), (0, 12, 19, 15)] :: ((wsL_addMachine_r1 ++ (wsL_addMachine_r2 ++ wsL_addMachine_r3)) ++ wsX50 ++ wsX20 ++ wsX10 ++ wsX40 ++ (vx_atS RX5 45 "java/lang/IllegalArgumentException" ["java/lang/RuntimeException", "java/lang/Exception"]).filter goodWord ++ (vx_atS RX5 59 "java/lang/IllegalStateException" ["java/lang/RuntimeException", "java/lang/Exception"]).filter goodWord)
def wsL_setMachine_r1 : List Cond := [Cond.classLink RL 21 "java/lang/IndexOutOfBoundsException", Cond.classLink RL 13 "java/lang/IllegalArgumentException", Cond.methodLink RL 17 yX5_setMachine, Cond.instanceMethod yX5_setMachine, Cond.selects RX5 yX5_setMachine yX5_setMachine, Cond.initialized RX5, Cond.code yX5_setMachine cX5_setMachine 7 (some .int), Cond.classLink RX5 41 "java/lang/IllegalArgumentException", Cond.initialized "java/lang/IllegalArgumentException", Cond.fieldLink RX5 22 "LineBuffers" "history" "LLineBuffers$History;", Cond.fieldLink RX5 10 "LineBuffers" "line" "LLineBuffers$Line;", Cond.methodLink RX5 68 yX5_needMachine, Cond.instanceMethod yX5_needMachine, Cond.selects RX5 yX5_needMachine yX5_needMachine, Cond.code yX5_needMachine cX5_needMachine 2 none, Cond.classLink RX5 116 "java/lang/IndexOutOfBoundsException", Cond.initialized "java/lang/IndexOutOfBoundsException", Cond.methodLink RX5 33 yX5_areCycles, Cond.static yX5_areCycles, Cond.code yX5_areCycles cX5_areCycles 2 (some .boolean), Cond.methodLink RX5 37 yX5_isIn, Cond.static yX5_isIn, Cond.code yX5_isIn cX5_isIn 3 (some .boolean), Cond.methodLink RX5 60 yX1_keep]
def wsL_setMachine_r2 : List Cond := [Cond.instanceMethod yX1_keep, Cond.selects RX1 yX1_keep yX1_keep, Cond.initialized RX1, Cond.code yX1_keep cX1_keep 2 none, Cond.fieldLink RX1 18 "LineBuffers$History" "newest" "I", Cond.fieldLink RX1 11 "LineBuffers$History" "places" "[LLineBuffers$Line;", Cond.fieldLink RX1 26 "LineBuffers$History" "saved" "I", Cond.methodLink RX1 22 yX2_copy, Cond.static yX2_copy, Cond.initialized RX2, Cond.code yX2_copy cX2_copy 3 none, Cond.fieldLink RX2 23 "LineBuffers$Line" "machines" "I", Cond.fieldLink RX2 11 "LineBuffers$Line" "rows" "[[I", Cond.methodLink RX2 27 arraycopyName, Cond.native arraycopyName, Cond.static arraycopyName, Cond.initialized "java/lang/System", Cond.fieldLink RX2 19 "LineBuffers$Line" "stops" "LLineBuffers$Stops;", Cond.fieldLink RX2 37 "LineBuffers$Line" "tick" "I", Cond.methodLink RX2 33 yX4_copy, Cond.static yX4_copy, Cond.initialized RX4, Cond.code yX4_copy cX4_copy 3 none, Cond.fieldLink RX4 21 "LineBuffers$Stops" "planned" "I"]
def wsL_setMachine_r3 : List Cond := [Cond.fieldLink RX4 9 "LineBuffers$Stops" "machineOf" "[I", Cond.methodLink RX4 25 arraycopyName, Cond.fieldLink RX4 15 "LineBuffers$Stops" "firstOf" "[I", Cond.fieldLink RX4 18 "LineBuffers$Stops" "durationOf" "[I", Cond.methodLink RX5 78 yX2_mark, Cond.instanceMethod yX2_mark, Cond.selects RX2 yX2_mark yX2_mark, Cond.code yX2_mark cX2_mark 4 none]
def wsL_setMachine : List Cond := .codeWith yL_setMachine cL_setMachine 8 (some .int) [(0, 16, 19, 21), (0, 16, 23, 13)] :: ((wsL_setMachine_r1 ++ (wsL_setMachine_r2 ++ wsL_setMachine_r3)) ++ wsX50 ++ wsX20 ++ wsX10 ++ wsX40 ++ (vx_atS RX5 45 "java/lang/IllegalArgumentException" ["java/lang/RuntimeException", "java/lang/Exception"]).filter goodWord ++ (vx_atS RX5 120 "java/lang/IndexOutOfBoundsException" ["java/lang/RuntimeException", "java/lang/Exception"]).filter goodWord)
def wsL_setCapacity_r1 : List Cond := [Cond.classLink RL 21 "java/lang/IndexOutOfBoundsException", Cond.classLink RL 13 "java/lang/IllegalArgumentException", Cond.methodLink RL 23 yX5_setCapacity, Cond.instanceMethod yX5_setCapacity, Cond.selects RX5 yX5_setCapacity yX5_setCapacity, Cond.initialized RX5, Cond.code yX5_setCapacity cX5_setCapacity 4 (some .int), Cond.classLink RX5 41 "java/lang/IllegalArgumentException", Cond.initialized "java/lang/IllegalArgumentException", Cond.fieldLink RX5 22 "LineBuffers" "history" "LLineBuffers$History;", Cond.fieldLink RX5 10 "LineBuffers" "line" "LLineBuffers$Line;", Cond.methodLink RX5 68 yX5_needMachine, Cond.instanceMethod yX5_needMachine, Cond.selects RX5 yX5_needMachine yX5_needMachine, Cond.code yX5_needMachine cX5_needMachine 2 none, Cond.classLink RX5 116 "java/lang/IndexOutOfBoundsException", Cond.initialized "java/lang/IndexOutOfBoundsException", Cond.methodLink RX5 37 yX5_isIn, Cond.static yX5_isIn, Cond.code yX5_isIn cX5_isIn 3 (some .boolean), Cond.methodLink RX5 60 yX1_keep, Cond.instanceMethod yX1_keep, Cond.selects RX1 yX1_keep yX1_keep, Cond.initialized RX1]
def wsL_setCapacity_r2 : List Cond := [Cond.code yX1_keep cX1_keep 2 none, Cond.fieldLink RX1 18 "LineBuffers$History" "newest" "I", Cond.fieldLink RX1 11 "LineBuffers$History" "places" "[LLineBuffers$Line;", Cond.fieldLink RX1 26 "LineBuffers$History" "saved" "I", Cond.methodLink RX1 22 yX2_copy, Cond.static yX2_copy, Cond.initialized RX2, Cond.code yX2_copy cX2_copy 3 none, Cond.fieldLink RX2 23 "LineBuffers$Line" "machines" "I", Cond.fieldLink RX2 11 "LineBuffers$Line" "rows" "[[I", Cond.methodLink RX2 27 arraycopyName, Cond.native arraycopyName, Cond.static arraycopyName, Cond.initialized "java/lang/System", Cond.fieldLink RX2 19 "LineBuffers$Line" "stops" "LLineBuffers$Stops;", Cond.fieldLink RX2 37 "LineBuffers$Line" "tick" "I", Cond.methodLink RX2 33 yX4_copy, Cond.static yX4_copy, Cond.initialized RX4, Cond.code yX4_copy cX4_copy 3 none, Cond.fieldLink RX4 21 "LineBuffers$Stops" "planned" "I", Cond.fieldLink RX4 9 "LineBuffers$Stops" "machineOf" "[I", Cond.methodLink RX4 25 arraycopyName, Cond.fieldLink RX4 15 "LineBuffers$Stops" "firstOf" "[I"]
def wsL_setCapacity_r3 : List Cond := [Cond.fieldLink RX4 18 "LineBuffers$Stops" "durationOf" "[I"]
def wsL_setCapacity : List Cond := .codeWith yL_setCapacity cL_setCapacity 5 (some .int) [(0, 10, 13, 21), (0, 10, 17, 13)] :: ((wsL_setCapacity_r1 ++ (wsL_setCapacity_r2 ++ wsL_setCapacity_r3)) ++ wsX50 ++ wsX20 ++ wsX10 ++ wsX40 ++ (vx_atS RX5 45 "java/lang/IllegalArgumentException" ["java/lang/RuntimeException", "java/lang/Exception"]).filter goodWord ++ (vx_atS RX5 120 "java/lang/IndexOutOfBoundsException" ["java/lang/RuntimeException", "java/lang/Exception"]).filter goodWord)
def wsL_addStop_r1 : List Cond := [Cond.classLink RL 21 "java/lang/IndexOutOfBoundsException", Cond.classLink RL 13 "java/lang/IllegalArgumentException", Cond.classLink RL 15 "java/lang/IllegalStateException", Cond.methodLink RL 27 yX5_addStop, Cond.instanceMethod yX5_addStop, Cond.selects RX5 yX5_addStop yX5_addStop, Cond.initialized RX5, Cond.code yX5_addStop cX5_addStop 4 (some .int), Cond.classLink RX5 41 "java/lang/IllegalArgumentException", Cond.initialized "java/lang/IllegalArgumentException", Cond.classLink RX5 55 "java/lang/IllegalStateException", Cond.initialized "java/lang/IllegalStateException", Cond.fieldLink RX5 10 "LineBuffers" "line" "LLineBuffers$Line;", Cond.fieldLink RX5 22 "LineBuffers" "history" "LLineBuffers$History;", Cond.methodLink RX5 68 yX5_needMachine, Cond.instanceMethod yX5_needMachine, Cond.selects RX5 yX5_needMachine yX5_needMachine, Cond.code yX5_needMachine cX5_needMachine 2 none, Cond.classLink RX5 116 "java/lang/IndexOutOfBoundsException", Cond.initialized "java/lang/IndexOutOfBoundsException", Cond.methodLink RX5 37 yX5_isIn, Cond.static yX5_isIn, Cond.code yX5_isIn cX5_isIn 3 (some .boolean), Cond.methodLink RX5 60 yX1_keep]
def wsL_addStop_r2 : List Cond := [Cond.instanceMethod yX1_keep, Cond.selects RX1 yX1_keep yX1_keep, Cond.initialized RX1, Cond.code yX1_keep cX1_keep 2 none, Cond.fieldLink RX1 18 "LineBuffers$History" "newest" "I", Cond.fieldLink RX1 11 "LineBuffers$History" "places" "[LLineBuffers$Line;", Cond.fieldLink RX1 26 "LineBuffers$History" "saved" "I", Cond.methodLink RX1 22 yX2_copy, Cond.static yX2_copy, Cond.initialized RX2, Cond.code yX2_copy cX2_copy 3 none, Cond.fieldLink RX2 23 "LineBuffers$Line" "machines" "I", Cond.fieldLink RX2 11 "LineBuffers$Line" "rows" "[[I", Cond.methodLink RX2 27 arraycopyName, Cond.native arraycopyName, Cond.static arraycopyName, Cond.initialized "java/lang/System", Cond.fieldLink RX2 19 "LineBuffers$Line" "stops" "LLineBuffers$Stops;", Cond.fieldLink RX2 37 "LineBuffers$Line" "tick" "I", Cond.methodLink RX2 33 yX4_copy, Cond.static yX4_copy, Cond.initialized RX4, Cond.code yX4_copy cX4_copy 3 none, Cond.fieldLink RX4 21 "LineBuffers$Stops" "planned" "I"]
def wsL_addStop_r3 : List Cond := [Cond.fieldLink RX4 9 "LineBuffers$Stops" "machineOf" "[I", Cond.methodLink RX4 25 arraycopyName, Cond.fieldLink RX4 15 "LineBuffers$Stops" "firstOf" "[I", Cond.fieldLink RX4 18 "LineBuffers$Stops" "durationOf" "[I", Cond.methodLink RX5 97 yX4_plan, Cond.instanceMethod yX4_plan, Cond.selects RX4 yX4_plan yX4_plan, Cond.code yX4_plan cX4_plan 4 none]
def wsL_addStop : List Cond := .codeWith yL_addStop cL_addStop 6 (some .int) [(0, 12, 15, 21), (0, 12, 19, 13), (0, 12, 23, 15)] :: ((wsL_addStop_r1 ++ (wsL_addStop_r2 ++ wsL_addStop_r3)) ++ wsX50 ++ wsX20 ++ wsX40 ++ wsX10 ++ (vx_atS RX5 45 "java/lang/IllegalArgumentException" ["java/lang/RuntimeException", "java/lang/Exception"]).filter goodWord ++ (vx_atS RX5 59 "java/lang/IllegalStateException" ["java/lang/RuntimeException", "java/lang/Exception"]).filter goodWord ++ (vx_atS RX5 120 "java/lang/IndexOutOfBoundsException" ["java/lang/RuntimeException", "java/lang/Exception"]).filter goodWord)
def wsL_addRandomStops_r1 : List Cond := [Cond.classLink RL 21 "java/lang/IndexOutOfBoundsException", Cond.classLink RL 13 "java/lang/IllegalArgumentException", Cond.classLink RL 15 "java/lang/IllegalStateException", Cond.methodLink RL 30 yX5_addRandomStops, Cond.instanceMethod yX5_addRandomStops, Cond.selects RX5 yX5_addRandomStops yX5_addRandomStops, Cond.initialized RX5, Cond.code yX5_addRandomStops cX5_addRandomStops 11 (some .int), Cond.classLink RX5 41 "java/lang/IllegalArgumentException", Cond.initialized "java/lang/IllegalArgumentException", Cond.classLink RX5 55 "java/lang/IllegalStateException", Cond.initialized "java/lang/IllegalStateException", Cond.constant RX5 100 (999999), Cond.fieldLink RX5 10 "LineBuffers" "line" "LLineBuffers$Line;", Cond.fieldLink RX5 22 "LineBuffers" "history" "LLineBuffers$History;", Cond.classLink RX5 105 RX0, Cond.instantiable RX0 1, Cond.initialized RX0, Cond.methodLink RX5 68 yX5_needMachine, Cond.instanceMethod yX5_needMachine, Cond.selects RX5 yX5_needMachine yX5_needMachine, Cond.code yX5_needMachine cX5_needMachine 2 none, Cond.classLink RX5 116 "java/lang/IndexOutOfBoundsException", Cond.initialized "java/lang/IndexOutOfBoundsException"]
def wsL_addRandomStops_r2 : List Cond := [Cond.methodLink RX5 37 yX5_isIn, Cond.static yX5_isIn, Cond.code yX5_isIn cX5_isIn 3 (some .boolean), Cond.methodLink RX5 60 yX1_keep, Cond.instanceMethod yX1_keep, Cond.selects RX1 yX1_keep yX1_keep, Cond.initialized RX1, Cond.code yX1_keep cX1_keep 2 none, Cond.fieldLink RX1 18 "LineBuffers$History" "newest" "I", Cond.fieldLink RX1 11 "LineBuffers$History" "places" "[LLineBuffers$Line;", Cond.fieldLink RX1 26 "LineBuffers$History" "saved" "I", Cond.methodLink RX1 22 yX2_copy, Cond.static yX2_copy, Cond.initialized RX2, Cond.code yX2_copy cX2_copy 3 none, Cond.fieldLink RX2 23 "LineBuffers$Line" "machines" "I", Cond.fieldLink RX2 11 "LineBuffers$Line" "rows" "[[I", Cond.methodLink RX2 27 arraycopyName, Cond.native arraycopyName, Cond.static arraycopyName, Cond.initialized "java/lang/System", Cond.fieldLink RX2 19 "LineBuffers$Line" "stops" "LLineBuffers$Stops;", Cond.fieldLink RX2 37 "LineBuffers$Line" "tick" "I", Cond.methodLink RX2 33 yX4_copy]
def wsL_addRandomStops_r3 : List Cond := [Cond.static yX4_copy, Cond.initialized RX4, Cond.code yX4_copy cX4_copy 3 none, Cond.fieldLink RX4 21 "LineBuffers$Stops" "planned" "I", Cond.fieldLink RX4 9 "LineBuffers$Stops" "machineOf" "[I", Cond.methodLink RX4 25 arraycopyName, Cond.fieldLink RX4 15 "LineBuffers$Stops" "firstOf" "[I", Cond.fieldLink RX4 18 "LineBuffers$Stops" "durationOf" "[I", Cond.methodLink RX5 107 yX0_init, Cond.instanceMethod yX0_init, Cond.code yX0_init cX0_init 2 none, Cond.methodLink RX0 1 objectInit, Cond.instanceMethod objectInit, Cond.code objectInit ⟨#[0xb1]⟩ 1 none, Cond.fieldLink RX0 7 "LineBuffers$Draws" "state" "J", Cond.methodLink RX5 109 yX0_drawBelow, Cond.instanceMethod yX0_drawBelow, Cond.selects RX0 yX0_drawBelow yX0_drawBelow, Cond.code yX0_drawBelow cX0_drawBelow 2 (some .int), Cond.constantLong RX0 13 (1103515245), Cond.constantLong RX0 15 (12345), Cond.constantLong RX0 17 (2147483648), Cond.constantLong RX0 19 (65536), Cond.methodLink RX5 97 yX4_plan]
def wsL_addRandomStops_r4 : List Cond := [Cond.instanceMethod yX4_plan, Cond.selects RX4 yX4_plan yX4_plan, Cond.code yX4_plan cX4_plan 4 none]
def wsL_addRandomStops : List Cond := .codeWith yL_addRandomStops cL_addRandomStops 8 (some .int) [(0, 16, 19, 21), (0, 16, 23, 13), (0, 16, 27, 15)] :: ((wsL_addRandomStops_r1 ++ (wsL_addRandomStops_r2 ++ (wsL_addRandomStops_r3 ++ wsL_addRandomStops_r4))) ++ wsX50 ++ wsX20 ++ wsX40 ++ wsX00 ++ wsX10 ++ (vx_atS RX5 45 "java/lang/IllegalArgumentException" ["java/lang/RuntimeException", "java/lang/Exception"]).filter goodWord ++ (vx_atS RX5 59 "java/lang/IllegalStateException" ["java/lang/RuntimeException", "java/lang/Exception"]).filter goodWord ++ (vx_atS RX5 120 "java/lang/IndexOutOfBoundsException" ["java/lang/RuntimeException", "java/lang/Exception"]).filter goodWord)
def wsL_stop : List Cond := .codeWith yL_stop cL_stop 5 (some .int) [(0, 10, 13, 21), (0, 10, 17, 13)] :: ([.classLink RL 21 "java/lang/IndexOutOfBoundsException", .classLink RL 13 "java/lang/IllegalArgumentException", .methodLink RL 33 yX5_stop, .instanceMethod yX5_stop, .selects RX5 yX5_stop yX5_stop, .initialized RX5, .code yX5_stop cX5_stop 3 (some .int), .classLink RX5 116 "java/lang/IndexOutOfBoundsException", .initialized "java/lang/IndexOutOfBoundsException", .fieldLink RX5 10 "LineBuffers" "line" "LLineBuffers$Line;", .methodLink RX5 121 yX5_needWhat, .static yX5_needWhat, .code yX5_needWhat cX5_needWhat 2 none, .classLink RX5 41 "java/lang/IllegalArgumentException", .initialized "java/lang/IllegalArgumentException", .methodLink RX5 125 yX4_value, .instanceMethod yX4_value, .selects RX4 yX4_value yX4_value, .initialized RX4, .code yX4_value cX4_value 3 (some .int), .fieldLink RX4 9 "LineBuffers$Stops" "machineOf" "[I", .fieldLink RX4 15 "LineBuffers$Stops" "firstOf" "[I", .fieldLink RX4 18 "LineBuffers$Stops" "durationOf" "[I"] ++ wsX50 ++ wsX20 ++ wsX40 ++ (vx_atS RX5 120 "java/lang/IndexOutOfBoundsException" ["java/lang/RuntimeException", "java/lang/Exception"]).filter goodWord ++ (vx_atS RX5 45 "java/lang/IllegalArgumentException" ["java/lang/RuntimeException", "java/lang/Exception"]).filter goodWord)
def wsL_run_r1 : List Cond := [Cond.classLink RL 13 "java/lang/IllegalArgumentException", Cond.classLink RL 15 "java/lang/IllegalStateException", Cond.methodLink RL 36 yX5_run, Cond.instanceMethod yX5_run, Cond.selects RX5 yX5_run yX5_run, Cond.initialized RX5, Cond.code yX5_run cX5_run 3 (some .int), Cond.classLink RX5 41 "java/lang/IllegalArgumentException", Cond.initialized "java/lang/IllegalArgumentException", Cond.classLink RX5 55 "java/lang/IllegalStateException", Cond.initialized "java/lang/IllegalStateException", Cond.fieldLink RX5 10 "LineBuffers" "line" "LLineBuffers$Line;", Cond.fieldLink RX5 22 "LineBuffers" "history" "LLineBuffers$History;", Cond.methodLink RX5 37 yX5_isIn, Cond.static yX5_isIn, Cond.code yX5_isIn cX5_isIn 3 (some .boolean), Cond.methodLink RX5 131 yX5_needMachines, Cond.instanceMethod yX5_needMachines, Cond.selects RX5 yX5_needMachines yX5_needMachines, Cond.code yX5_needMachines cX5_needMachines 2 none, Cond.methodLink RX5 60 yX1_keep, Cond.instanceMethod yX1_keep, Cond.selects RX1 yX1_keep yX1_keep, Cond.initialized RX1]
def wsL_run_r2 : List Cond := [Cond.code yX1_keep cX1_keep 2 none, Cond.fieldLink RX1 18 "LineBuffers$History" "newest" "I", Cond.fieldLink RX1 11 "LineBuffers$History" "places" "[LLineBuffers$Line;", Cond.fieldLink RX1 26 "LineBuffers$History" "saved" "I", Cond.methodLink RX1 22 yX2_copy, Cond.static yX2_copy, Cond.initialized RX2, Cond.code yX2_copy cX2_copy 3 none, Cond.fieldLink RX2 23 "LineBuffers$Line" "machines" "I", Cond.fieldLink RX2 11 "LineBuffers$Line" "rows" "[[I", Cond.methodLink RX2 27 arraycopyName, Cond.native arraycopyName, Cond.static arraycopyName, Cond.initialized "java/lang/System", Cond.fieldLink RX2 19 "LineBuffers$Line" "stops" "LLineBuffers$Stops;", Cond.fieldLink RX2 37 "LineBuffers$Line" "tick" "I", Cond.methodLink RX2 33 yX4_copy, Cond.static yX4_copy, Cond.initialized RX4, Cond.code yX4_copy cX4_copy 3 none, Cond.fieldLink RX4 21 "LineBuffers$Stops" "planned" "I", Cond.fieldLink RX4 9 "LineBuffers$Stops" "machineOf" "[I", Cond.methodLink RX4 25 arraycopyName, Cond.fieldLink RX4 15 "LineBuffers$Stops" "firstOf" "[I"]
def wsL_run_r3 : List Cond := [Cond.fieldLink RX4 18 "LineBuffers$Stops" "durationOf" "[I", Cond.methodLink RX5 136 yX2_bottlesOut, Cond.instanceMethod yX2_bottlesOut, Cond.selects RX2 yX2_bottlesOut yX2_bottlesOut, Cond.code yX2_bottlesOut cX2_bottlesOut 1 (some .int), Cond.methodLink RX5 140 yX2_pass, Cond.instanceMethod yX2_pass, Cond.selects RX2 yX2_pass yX2_pass, Cond.code yX2_pass cX2_pass 5 none, Cond.methodLink RX2 47 yX4_lookAt, Cond.instanceMethod yX4_lookAt, Cond.selects RX4 yX4_lookAt yX4_lookAt, Cond.code yX4_lookAt cX4_lookAt 6 (some .int), Cond.constant RX4 37 (2147483647), Cond.fieldLink RX4 38 "LineBuffers$Stops" "downBits" "I", Cond.methodLink RX4 41 Lib.Math.min.name, Cond.static Lib.Math.min.name, Cond.initialized "java/lang/Math", Cond.code Lib.Math.min.name Lib.Math.min.code 2 (some .int), Cond.methodLink RX2 51 yX2_takeTurn, Cond.instanceMethod yX2_takeTurn, Cond.selects RX2 yX2_takeTurn yX2_takeTurn, Cond.code yX2_takeTurn cX2_takeTurn 3 none, Cond.methodLink RX2 58 yX2_chooseSpeed]
def wsL_run_r4 : List Cond := [Cond.instanceMethod yX2_chooseSpeed, Cond.selects RX2 yX2_chooseSpeed yX2_chooseSpeed, Cond.code yX2_chooseSpeed cX2_chooseSpeed 3 none, Cond.methodLink RX2 61 yX4_isDown, Cond.instanceMethod yX4_isDown, Cond.selects RX4 yX4_isDown yX4_isDown, Cond.code yX4_isDown cX4_isDown 2 (some .boolean), Cond.methodLink RX2 65 yX2_noteTurn, Cond.static yX2_noteTurn, Cond.code yX2_noteTurn cX2_noteTurn 2 none, Cond.methodLink RX2 69 yX2_release, Cond.instanceMethod yX2_release, Cond.selects RX2 yX2_release yX2_release, Cond.code yX2_release cX2_release 4 none, Cond.methodLink RX2 75 yX2_presentCycle, Cond.static yX2_presentCycle, Cond.code yX2_presentCycle cX2_presentCycle 1 (some .int), Cond.methodLink RX2 72 yX2_takeBottle, Cond.instanceMethod yX2_takeBottle, Cond.selects RX2 yX2_takeBottle yX2_takeBottle, Cond.code yX2_takeBottle cX2_takeBottle 4 none, Cond.methodLink RX2 55 yX2_countFills, Cond.instanceMethod yX2_countFills, Cond.selects RX2 yX2_countFills yX2_countFills]
def wsL_run_r5 : List Cond := [Cond.code yX2_countFills cX2_countFills 3 none]
def wsL_run : List Cond := .codeWith yL_run cL_run 4 (some .int) [(0, 9, 12, 13), (0, 9, 15, 15)] :: ((wsL_run_r1 ++ (wsL_run_r2 ++ (wsL_run_r3 ++ (wsL_run_r4 ++ wsL_run_r5)))) ++ wsX50 ++ wsX20 ++ wsX10 ++ wsX40 ++ (vx_atS RX5 45 "java/lang/IllegalArgumentException" ["java/lang/RuntimeException", "java/lang/Exception"]).filter goodWord ++ (vx_atS RX5 59 "java/lang/IllegalStateException" ["java/lang/RuntimeException", "java/lang/Exception"]).filter goodWord)
def wsL_setting : List Cond := .codeWith yL_setting cL_setting 5 (some .int) [(0, 10, 13, 21), (0, 10, 17, 13)] :: ([.classLink RL 21 "java/lang/IndexOutOfBoundsException", .classLink RL 13 "java/lang/IllegalArgumentException", .methodLink RL 40 yX5_setting, .instanceMethod yX5_setting, .selects RX5 yX5_setting yX5_setting, .initialized RX5, .code yX5_setting cX5_setting 3 (some .int), .fieldLink RX5 10 "LineBuffers" "line" "LLineBuffers$Line;", .methodLink RX5 68 yX5_needMachine, .instanceMethod yX5_needMachine, .selects RX5 yX5_needMachine yX5_needMachine, .code yX5_needMachine cX5_needMachine 2 none, .classLink RX5 116 "java/lang/IndexOutOfBoundsException", .initialized "java/lang/IndexOutOfBoundsException", .methodLink RX5 121 yX5_needWhat, .static yX5_needWhat, .code yX5_needWhat cX5_needWhat 2 none, .classLink RX5 41 "java/lang/IllegalArgumentException", .initialized "java/lang/IllegalArgumentException"] ++ wsX50 ++ wsX20 ++ (vx_atS RX5 120 "java/lang/IndexOutOfBoundsException" ["java/lang/RuntimeException", "java/lang/Exception"]).filter goodWord ++ (vx_atS RX5 45 "java/lang/IllegalArgumentException" ["java/lang/RuntimeException", "java/lang/Exception"]).filter goodWord)
def wsL_machine : List Cond := .codeWith yL_machine cL_machine 5 (some .int) [(0, 10, 13, 21), (0, 10, 17, 13)] :: ([.classLink RL 21 "java/lang/IndexOutOfBoundsException", .classLink RL 13 "java/lang/IllegalArgumentException", .methodLink RL 43 yX5_machine, .instanceMethod yX5_machine, .selects RX5 yX5_machine yX5_machine, .initialized RX5, .code yX5_machine cX5_machine 3 (some .int), .fieldLink RX5 10 "LineBuffers" "line" "LLineBuffers$Line;", .methodLink RX5 68 yX5_needMachine, .instanceMethod yX5_needMachine, .selects RX5 yX5_needMachine yX5_needMachine, .code yX5_needMachine cX5_needMachine 2 none, .classLink RX5 116 "java/lang/IndexOutOfBoundsException", .initialized "java/lang/IndexOutOfBoundsException", .methodLink RX5 121 yX5_needWhat, .static yX5_needWhat, .code yX5_needWhat cX5_needWhat 2 none, .classLink RX5 41 "java/lang/IllegalArgumentException", .initialized "java/lang/IllegalArgumentException"] ++ wsX50 ++ wsX20 ++ (vx_atS RX5 120 "java/lang/IndexOutOfBoundsException" ["java/lang/RuntimeException", "java/lang/Exception"]).filter goodWord ++ (vx_atS RX5 45 "java/lang/IllegalArgumentException" ["java/lang/RuntimeException", "java/lang/Exception"]).filter goodWord)
def wsL_count : List Cond := .codeWith yL_count cL_count 5 (some .int) [(0, 10, 13, 21), (0, 10, 17, 13)] :: ([.classLink RL 21 "java/lang/IndexOutOfBoundsException", .classLink RL 13 "java/lang/IllegalArgumentException", .methodLink RL 46 yX5_count, .instanceMethod yX5_count, .selects RX5 yX5_count yX5_count, .initialized RX5, .code yX5_count cX5_count 3 (some .int), .fieldLink RX5 10 "LineBuffers" "line" "LLineBuffers$Line;", .methodLink RX5 68 yX5_needMachine, .instanceMethod yX5_needMachine, .selects RX5 yX5_needMachine yX5_needMachine, .code yX5_needMachine cX5_needMachine 2 none, .classLink RX5 116 "java/lang/IndexOutOfBoundsException", .initialized "java/lang/IndexOutOfBoundsException", .methodLink RX5 121 yX5_needWhat, .static yX5_needWhat, .code yX5_needWhat cX5_needWhat 2 none, .classLink RX5 41 "java/lang/IllegalArgumentException", .initialized "java/lang/IllegalArgumentException"] ++ wsX50 ++ wsX20 ++ (vx_atS RX5 120 "java/lang/IndexOutOfBoundsException" ["java/lang/RuntimeException", "java/lang/Exception"]).filter goodWord ++ (vx_atS RX5 45 "java/lang/IllegalArgumentException" ["java/lang/RuntimeException", "java/lang/Exception"]).filter goodWord)
def wsL_meanFill : List Cond := .codeWith yL_meanFill cL_meanFill 4 (some .int) [(0, 8, 11, 21)] :: ([.classLink RL 21 "java/lang/IndexOutOfBoundsException", .methodLink RL 49 yX5_meanFill, .instanceMethod yX5_meanFill, .selects RX5 yX5_meanFill yX5_meanFill, .initialized RX5, .code yX5_meanFill cX5_meanFill 2 (some .double), .fieldLink RX5 10 "LineBuffers" "line" "LLineBuffers$Line;", .methodLink RX5 68 yX5_needMachine, .instanceMethod yX5_needMachine, .selects RX5 yX5_needMachine yX5_needMachine, .code yX5_needMachine cX5_needMachine 2 none, .classLink RX5 116 "java/lang/IndexOutOfBoundsException", .initialized "java/lang/IndexOutOfBoundsException"] ++ wsX50 ++ wsX20 ++ (vx_atS RX5 120 "java/lang/IndexOutOfBoundsException" ["java/lang/RuntimeException", "java/lang/Exception"]).filter goodWord)
def wsL_bound_r1 : List Cond := [Cond.classLink RL 13 "java/lang/IllegalArgumentException", Cond.classLink RL 15 "java/lang/IllegalStateException", Cond.methodLink RL 53 yX5_bound, Cond.instanceMethod yX5_bound, Cond.selects RX5 yX5_bound yX5_bound, Cond.initialized RX5, Cond.code yX5_bound cX5_bound 2 (some .int), Cond.fieldLink RX5 10 "LineBuffers" "line" "LLineBuffers$Line;", Cond.methodLink RX5 149 yX5_needHorizon, Cond.static yX5_needHorizon, Cond.code yX5_needHorizon cX5_needHorizon 2 none, Cond.classLink RX5 41 "java/lang/IllegalArgumentException", Cond.initialized "java/lang/IllegalArgumentException", Cond.methodLink RX5 37 yX5_isIn, Cond.static yX5_isIn, Cond.code yX5_isIn cX5_isIn 3 (some .boolean), Cond.methodLink RX5 131 yX5_needMachines, Cond.instanceMethod yX5_needMachines, Cond.selects RX5 yX5_needMachines yX5_needMachines, Cond.code yX5_needMachines cX5_needMachines 2 none, Cond.classLink RX5 55 "java/lang/IllegalStateException", Cond.initialized "java/lang/IllegalStateException", Cond.methodLink RX5 152 yX2_findSlowest, Cond.instanceMethod yX2_findSlowest]
def wsL_bound_r2 : List Cond := [Cond.selects RX2 yX2_findSlowest yX2_findSlowest, Cond.initialized RX2, Cond.code yX2_findSlowest cX2_findSlowest 6 (some .int), Cond.constant RX2 81 (2147483647), Cond.fieldLink RX2 23 "LineBuffers$Line" "machines" "I", Cond.methodLink RX2 82 yX2_mostBottles, Cond.instanceMethod yX2_mostBottles, Cond.selects RX2 yX2_mostBottles yX2_mostBottles, Cond.code yX2_mostBottles cX2_mostBottles 4 (some .int), Cond.fieldLink RX2 11 "LineBuffers$Line" "rows" "[[I", Cond.methodLink RX2 86 yX2_upTicks, Cond.instanceMethod yX2_upTicks, Cond.selects RX2 yX2_upTicks yX2_upTicks, Cond.code yX2_upTicks cX2_upTicks 7 (some .int), Cond.fieldLink RX2 19 "LineBuffers$Line" "stops" "LLineBuffers$Stops;", Cond.methodLink RX2 89 Lib.Math.min.name, Cond.static Lib.Math.min.name, Cond.initialized "java/lang/Math", Cond.code Lib.Math.min.name Lib.Math.min.code 2 (some .int), Cond.methodLink RX2 47 yX4_lookAt, Cond.instanceMethod yX4_lookAt, Cond.selects RX4 yX4_lookAt yX4_lookAt, Cond.initialized RX4, Cond.code yX4_lookAt cX4_lookAt 6 (some .int)]
def wsL_bound_r3 : List Cond := [Cond.constant RX4 37 (2147483647), Cond.fieldLink RX4 38 "LineBuffers$Stops" "downBits" "I", Cond.fieldLink RX4 21 "LineBuffers$Stops" "planned" "I", Cond.fieldLink RX4 15 "LineBuffers$Stops" "firstOf" "[I", Cond.fieldLink RX4 18 "LineBuffers$Stops" "durationOf" "[I", Cond.methodLink RX4 41 Lib.Math.min.name, Cond.fieldLink RX4 9 "LineBuffers$Stops" "machineOf" "[I", Cond.methodLink RX2 61 yX4_isDown, Cond.instanceMethod yX4_isDown, Cond.selects RX4 yX4_isDown yX4_isDown, Cond.code yX4_isDown cX4_isDown 2 (some .boolean), Cond.methodLink RX5 155 yX2_mostBottles]
def wsL_bound : List Cond := .codeWith yL_bound cL_bound 4 (some .int) [(0, 9, 12, 13), (0, 9, 15, 15)] :: ((wsL_bound_r1 ++ (wsL_bound_r2 ++ wsL_bound_r3)) ++ wsX50 ++ wsX20 ++ wsX40 ++ (vx_atS RX5 45 "java/lang/IllegalArgumentException" ["java/lang/RuntimeException", "java/lang/Exception"]).filter goodWord ++ (vx_atS RX5 59 "java/lang/IllegalStateException" ["java/lang/RuntimeException", "java/lang/Exception"]).filter goodWord)
def wsL_limiting : List Cond := .codeWith yL_limiting cL_limiting 3 (some .int) [(0, 8, 11, 15)] :: ([.classLink RL 15 "java/lang/IllegalStateException", .methodLink RL 56 yX5_limiting, .instanceMethod yX5_limiting, .selects RX5 yX5_limiting yX5_limiting, .initialized RX5, .code yX5_limiting cX5_limiting 1 (some .int), .fieldLink RX5 10 "LineBuffers" "line" "LLineBuffers$Line;", .methodLink RX5 131 yX5_needMachines, .instanceMethod yX5_needMachines, .selects RX5 yX5_needMachines yX5_needMachines, .code yX5_needMachines cX5_needMachines 2 none, .classLink RX5 55 "java/lang/IllegalStateException", .initialized "java/lang/IllegalStateException", .methodLink RX5 158 yX2_findLimiting, .instanceMethod yX2_findLimiting, .selects RX2 yX2_findLimiting yX2_findLimiting, .initialized RX2, .code yX2_findLimiting cX2_findLimiting 5 (some .int), .constant RX2 81 (2147483647), .fieldLink RX2 23 "LineBuffers$Line" "machines" "I", .fieldLink RX2 11 "LineBuffers$Line" "rows" "[[I"] ++ wsX50 ++ wsX20 ++ (vx_atS RX5 59 "java/lang/IllegalStateException" ["java/lang/RuntimeException", "java/lang/Exception"]).filter goodWord)
def wsL_slowest_r1 : List Cond := [Cond.classLink RL 13 "java/lang/IllegalArgumentException", Cond.classLink RL 15 "java/lang/IllegalStateException", Cond.methodLink RL 60 yX5_slowest, Cond.instanceMethod yX5_slowest, Cond.selects RX5 yX5_slowest yX5_slowest, Cond.initialized RX5, Cond.code yX5_slowest cX5_slowest 2 (some .int), Cond.fieldLink RX5 10 "LineBuffers" "line" "LLineBuffers$Line;", Cond.methodLink RX5 149 yX5_needHorizon, Cond.static yX5_needHorizon, Cond.code yX5_needHorizon cX5_needHorizon 2 none, Cond.classLink RX5 41 "java/lang/IllegalArgumentException", Cond.initialized "java/lang/IllegalArgumentException", Cond.methodLink RX5 37 yX5_isIn, Cond.static yX5_isIn, Cond.code yX5_isIn cX5_isIn 3 (some .boolean), Cond.methodLink RX5 131 yX5_needMachines, Cond.instanceMethod yX5_needMachines, Cond.selects RX5 yX5_needMachines yX5_needMachines, Cond.code yX5_needMachines cX5_needMachines 2 none, Cond.classLink RX5 55 "java/lang/IllegalStateException", Cond.initialized "java/lang/IllegalStateException", Cond.methodLink RX5 152 yX2_findSlowest, Cond.instanceMethod yX2_findSlowest]
def wsL_slowest_r2 : List Cond := [Cond.selects RX2 yX2_findSlowest yX2_findSlowest, Cond.initialized RX2, Cond.code yX2_findSlowest cX2_findSlowest 6 (some .int), Cond.constant RX2 81 (2147483647), Cond.fieldLink RX2 23 "LineBuffers$Line" "machines" "I", Cond.methodLink RX2 82 yX2_mostBottles, Cond.instanceMethod yX2_mostBottles, Cond.selects RX2 yX2_mostBottles yX2_mostBottles, Cond.code yX2_mostBottles cX2_mostBottles 4 (some .int), Cond.fieldLink RX2 11 "LineBuffers$Line" "rows" "[[I", Cond.methodLink RX2 86 yX2_upTicks, Cond.instanceMethod yX2_upTicks, Cond.selects RX2 yX2_upTicks yX2_upTicks, Cond.code yX2_upTicks cX2_upTicks 7 (some .int), Cond.fieldLink RX2 19 "LineBuffers$Line" "stops" "LLineBuffers$Stops;", Cond.methodLink RX2 89 Lib.Math.min.name, Cond.static Lib.Math.min.name, Cond.initialized "java/lang/Math", Cond.code Lib.Math.min.name Lib.Math.min.code 2 (some .int), Cond.methodLink RX2 47 yX4_lookAt, Cond.instanceMethod yX4_lookAt, Cond.selects RX4 yX4_lookAt yX4_lookAt, Cond.initialized RX4, Cond.code yX4_lookAt cX4_lookAt 6 (some .int)]
def wsL_slowest_r3 : List Cond := [Cond.constant RX4 37 (2147483647), Cond.fieldLink RX4 38 "LineBuffers$Stops" "downBits" "I", Cond.fieldLink RX4 21 "LineBuffers$Stops" "planned" "I", Cond.fieldLink RX4 15 "LineBuffers$Stops" "firstOf" "[I", Cond.fieldLink RX4 18 "LineBuffers$Stops" "durationOf" "[I", Cond.methodLink RX4 41 Lib.Math.min.name, Cond.fieldLink RX4 9 "LineBuffers$Stops" "machineOf" "[I", Cond.methodLink RX2 61 yX4_isDown, Cond.instanceMethod yX4_isDown, Cond.selects RX4 yX4_isDown yX4_isDown, Cond.code yX4_isDown cX4_isDown 2 (some .boolean)]
def wsL_slowest : List Cond := .codeWith yL_slowest cL_slowest 4 (some .int) [(0, 9, 12, 13), (0, 9, 15, 15)] :: ((wsL_slowest_r1 ++ (wsL_slowest_r2 ++ wsL_slowest_r3)) ++ wsX50 ++ wsX20 ++ wsX40 ++ (vx_atS RX5 45 "java/lang/IllegalArgumentException" ["java/lang/RuntimeException", "java/lang/Exception"]).filter goodWord ++ (vx_atS RX5 59 "java/lang/IllegalStateException" ["java/lang/RuntimeException", "java/lang/Exception"]).filter goodWord)
def wsL_outputWith_r1 : List Cond := [Cond.classLink RL 21 "java/lang/IndexOutOfBoundsException", Cond.classLink RL 13 "java/lang/IllegalArgumentException", Cond.methodLink RL 63 yX5_outputWith, Cond.instanceMethod yX5_outputWith, Cond.selects RX5 yX5_outputWith yX5_outputWith, Cond.initialized RX5, Cond.code yX5_outputWith cX5_outputWith 4 (some .int), Cond.classLink RX5 41 "java/lang/IllegalArgumentException", Cond.initialized "java/lang/IllegalArgumentException", Cond.methodLink RX5 68 yX5_needMachine, Cond.instanceMethod yX5_needMachine, Cond.selects RX5 yX5_needMachine yX5_needMachine, Cond.code yX5_needMachine cX5_needMachine 2 none, Cond.classLink RX5 116 "java/lang/IndexOutOfBoundsException", Cond.initialized "java/lang/IndexOutOfBoundsException", Cond.fieldLink RX5 10 "LineBuffers" "line" "LLineBuffers$Line;", Cond.methodLink RX5 37 yX5_isIn, Cond.static yX5_isIn, Cond.code yX5_isIn cX5_isIn 3 (some .boolean), Cond.methodLink RX5 149 yX5_needHorizon, Cond.static yX5_needHorizon, Cond.code yX5_needHorizon cX5_needHorizon 2 none, Cond.methodLink RX5 161 yX5_tryCapacity, Cond.instanceMethod yX5_tryCapacity]
def wsL_outputWith_r2 : List Cond := [Cond.selects RX5 yX5_tryCapacity yX5_tryCapacity, Cond.code yX5_tryCapacity cX5_tryCapacity 4 (some .int), Cond.fieldLink RX5 16 "LineBuffers" "trial" "LLineBuffers$Line;", Cond.methodLink RX5 187 yX2_copy, Cond.static yX2_copy, Cond.initialized RX2, Cond.code yX2_copy cX2_copy 3 none, Cond.fieldLink RX2 23 "LineBuffers$Line" "machines" "I", Cond.fieldLink RX2 11 "LineBuffers$Line" "rows" "[[I", Cond.methodLink RX2 27 arraycopyName, Cond.native arraycopyName, Cond.static arraycopyName, Cond.initialized "java/lang/System", Cond.fieldLink RX2 19 "LineBuffers$Line" "stops" "LLineBuffers$Stops;", Cond.fieldLink RX2 37 "LineBuffers$Line" "tick" "I", Cond.methodLink RX2 33 yX4_copy, Cond.static yX4_copy, Cond.initialized RX4, Cond.code yX4_copy cX4_copy 3 none, Cond.fieldLink RX4 21 "LineBuffers$Stops" "planned" "I", Cond.fieldLink RX4 9 "LineBuffers$Stops" "machineOf" "[I", Cond.methodLink RX4 25 arraycopyName, Cond.fieldLink RX4 15 "LineBuffers$Stops" "firstOf" "[I", Cond.fieldLink RX4 18 "LineBuffers$Stops" "durationOf" "[I"]
def wsL_outputWith_r3 : List Cond := [Cond.methodLink RX5 143 yX2_beginAnew, Cond.instanceMethod yX2_beginAnew, Cond.selects RX2 yX2_beginAnew yX2_beginAnew, Cond.code yX2_beginAnew cX2_beginAnew 2 none, Cond.methodLink RX2 43 yX2_empty, Cond.static yX2_empty, Cond.code yX2_empty cX2_empty 2 none, Cond.methodLink RX5 140 yX2_pass, Cond.instanceMethod yX2_pass, Cond.selects RX2 yX2_pass yX2_pass, Cond.code yX2_pass cX2_pass 5 none, Cond.methodLink RX2 47 yX4_lookAt, Cond.instanceMethod yX4_lookAt, Cond.selects RX4 yX4_lookAt yX4_lookAt, Cond.code yX4_lookAt cX4_lookAt 6 (some .int), Cond.constant RX4 37 (2147483647), Cond.fieldLink RX4 38 "LineBuffers$Stops" "downBits" "I", Cond.methodLink RX4 41 Lib.Math.min.name, Cond.static Lib.Math.min.name, Cond.initialized "java/lang/Math", Cond.code Lib.Math.min.name Lib.Math.min.code 2 (some .int), Cond.methodLink RX2 51 yX2_takeTurn, Cond.instanceMethod yX2_takeTurn, Cond.selects RX2 yX2_takeTurn yX2_takeTurn]
def wsL_outputWith_r4 : List Cond := [Cond.code yX2_takeTurn cX2_takeTurn 3 none, Cond.methodLink RX2 58 yX2_chooseSpeed, Cond.instanceMethod yX2_chooseSpeed, Cond.selects RX2 yX2_chooseSpeed yX2_chooseSpeed, Cond.code yX2_chooseSpeed cX2_chooseSpeed 3 none, Cond.methodLink RX2 61 yX4_isDown, Cond.instanceMethod yX4_isDown, Cond.selects RX4 yX4_isDown yX4_isDown, Cond.code yX4_isDown cX4_isDown 2 (some .boolean), Cond.methodLink RX2 65 yX2_noteTurn, Cond.static yX2_noteTurn, Cond.code yX2_noteTurn cX2_noteTurn 2 none, Cond.methodLink RX2 69 yX2_release, Cond.instanceMethod yX2_release, Cond.selects RX2 yX2_release yX2_release, Cond.code yX2_release cX2_release 4 none, Cond.methodLink RX2 75 yX2_presentCycle, Cond.static yX2_presentCycle, Cond.code yX2_presentCycle cX2_presentCycle 1 (some .int), Cond.methodLink RX2 72 yX2_takeBottle, Cond.instanceMethod yX2_takeBottle, Cond.selects RX2 yX2_takeBottle yX2_takeBottle, Cond.code yX2_takeBottle cX2_takeBottle 4 none, Cond.methodLink RX2 55 yX2_countFills]
def wsL_outputWith_r5 : List Cond := [Cond.instanceMethod yX2_countFills, Cond.selects RX2 yX2_countFills yX2_countFills, Cond.code yX2_countFills cX2_countFills 3 none, Cond.methodLink RX5 136 yX2_bottlesOut, Cond.instanceMethod yX2_bottlesOut, Cond.selects RX2 yX2_bottlesOut yX2_bottlesOut, Cond.code yX2_bottlesOut cX2_bottlesOut 1 (some .int)]
def wsL_outputWith : List Cond := .codeWith yL_outputWith cL_outputWith 6 (some .int) [(0, 12, 15, 21), (0, 12, 19, 13)] :: ((wsL_outputWith_r1 ++ (wsL_outputWith_r2 ++ (wsL_outputWith_r3 ++ (wsL_outputWith_r4 ++ wsL_outputWith_r5)))) ++ wsX50 ++ wsX20 ++ wsX40 ++ (vx_atS RX5 45 "java/lang/IllegalArgumentException" ["java/lang/RuntimeException", "java/lang/Exception"]).filter goodWord ++ (vx_atS RX5 120 "java/lang/IndexOutOfBoundsException" ["java/lang/RuntimeException", "java/lang/Exception"]).filter goodWord)
def wsL_capacityFor_r1 : List Cond := [Cond.classLink RL 21 "java/lang/IndexOutOfBoundsException", Cond.classLink RL 13 "java/lang/IllegalArgumentException", Cond.methodLink RL 66 yX5_capacityFor, Cond.instanceMethod yX5_capacityFor, Cond.selects RX5 yX5_capacityFor yX5_capacityFor, Cond.initialized RX5, Cond.code yX5_capacityFor cX5_capacityFor 5 (some .int), Cond.classLink RX5 41 "java/lang/IllegalArgumentException", Cond.initialized "java/lang/IllegalArgumentException", Cond.fieldLink RX5 10 "LineBuffers" "line" "LLineBuffers$Line;", Cond.fieldLink RX5 16 "LineBuffers" "trial" "LLineBuffers$Line;", Cond.methodLink RX5 68 yX5_needMachine, Cond.instanceMethod yX5_needMachine, Cond.selects RX5 yX5_needMachine yX5_needMachine, Cond.code yX5_needMachine cX5_needMachine 2 none, Cond.classLink RX5 116 "java/lang/IndexOutOfBoundsException", Cond.initialized "java/lang/IndexOutOfBoundsException", Cond.methodLink RX5 149 yX5_needHorizon, Cond.static yX5_needHorizon, Cond.code yX5_needHorizon cX5_needHorizon 2 none, Cond.methodLink RX5 37 yX5_isIn, Cond.static yX5_isIn, Cond.code yX5_isIn cX5_isIn 3 (some .boolean), Cond.methodLink RX5 152 yX2_findSlowest]
def wsL_capacityFor_r2 : List Cond := [Cond.instanceMethod yX2_findSlowest, Cond.selects RX2 yX2_findSlowest yX2_findSlowest, Cond.initialized RX2, Cond.code yX2_findSlowest cX2_findSlowest 6 (some .int), Cond.constant RX2 81 (2147483647), Cond.fieldLink RX2 23 "LineBuffers$Line" "machines" "I", Cond.methodLink RX2 82 yX2_mostBottles, Cond.instanceMethod yX2_mostBottles, Cond.selects RX2 yX2_mostBottles yX2_mostBottles, Cond.code yX2_mostBottles cX2_mostBottles 4 (some .int), Cond.fieldLink RX2 11 "LineBuffers$Line" "rows" "[[I", Cond.methodLink RX2 86 yX2_upTicks, Cond.instanceMethod yX2_upTicks, Cond.selects RX2 yX2_upTicks yX2_upTicks, Cond.code yX2_upTicks cX2_upTicks 7 (some .int), Cond.fieldLink RX2 19 "LineBuffers$Line" "stops" "LLineBuffers$Stops;", Cond.methodLink RX2 89 Lib.Math.min.name, Cond.static Lib.Math.min.name, Cond.initialized "java/lang/Math", Cond.code Lib.Math.min.name Lib.Math.min.code 2 (some .int), Cond.methodLink RX2 47 yX4_lookAt, Cond.instanceMethod yX4_lookAt, Cond.selects RX4 yX4_lookAt yX4_lookAt, Cond.initialized RX4]
def wsL_capacityFor_r3 : List Cond := [Cond.code yX4_lookAt cX4_lookAt 6 (some .int), Cond.constant RX4 37 (2147483647), Cond.fieldLink RX4 38 "LineBuffers$Stops" "downBits" "I", Cond.fieldLink RX4 21 "LineBuffers$Stops" "planned" "I", Cond.fieldLink RX4 15 "LineBuffers$Stops" "firstOf" "[I", Cond.fieldLink RX4 18 "LineBuffers$Stops" "durationOf" "[I", Cond.methodLink RX4 41 Lib.Math.min.name, Cond.fieldLink RX4 9 "LineBuffers$Stops" "machineOf" "[I", Cond.methodLink RX2 61 yX4_isDown, Cond.instanceMethod yX4_isDown, Cond.selects RX4 yX4_isDown yX4_isDown, Cond.code yX4_isDown cX4_isDown 2 (some .boolean), Cond.methodLink RX5 155 yX2_mostBottles, Cond.methodLink RX5 161 yX5_tryCapacity, Cond.instanceMethod yX5_tryCapacity, Cond.selects RX5 yX5_tryCapacity yX5_tryCapacity, Cond.code yX5_tryCapacity cX5_tryCapacity 4 (some .int), Cond.methodLink RX5 187 yX2_copy, Cond.static yX2_copy, Cond.code yX2_copy cX2_copy 3 none, Cond.methodLink RX2 27 arraycopyName, Cond.native arraycopyName, Cond.static arraycopyName, Cond.initialized "java/lang/System"]
def wsL_capacityFor_r4 : List Cond := [Cond.fieldLink RX2 37 "LineBuffers$Line" "tick" "I", Cond.methodLink RX2 33 yX4_copy, Cond.static yX4_copy, Cond.code yX4_copy cX4_copy 3 none, Cond.methodLink RX4 25 arraycopyName, Cond.methodLink RX5 143 yX2_beginAnew, Cond.instanceMethod yX2_beginAnew, Cond.selects RX2 yX2_beginAnew yX2_beginAnew, Cond.code yX2_beginAnew cX2_beginAnew 2 none, Cond.methodLink RX2 43 yX2_empty, Cond.static yX2_empty, Cond.code yX2_empty cX2_empty 2 none, Cond.methodLink RX5 140 yX2_pass, Cond.instanceMethod yX2_pass, Cond.selects RX2 yX2_pass yX2_pass, Cond.code yX2_pass cX2_pass 5 none, Cond.methodLink RX2 51 yX2_takeTurn, Cond.instanceMethod yX2_takeTurn, Cond.selects RX2 yX2_takeTurn yX2_takeTurn, Cond.code yX2_takeTurn cX2_takeTurn 3 none, Cond.methodLink RX2 58 yX2_chooseSpeed, Cond.instanceMethod yX2_chooseSpeed, Cond.selects RX2 yX2_chooseSpeed yX2_chooseSpeed, Cond.code yX2_chooseSpeed cX2_chooseSpeed 3 none]
def wsL_capacityFor_r5 : List Cond := [Cond.methodLink RX2 65 yX2_noteTurn, Cond.static yX2_noteTurn, Cond.code yX2_noteTurn cX2_noteTurn 2 none, Cond.methodLink RX2 69 yX2_release, Cond.instanceMethod yX2_release, Cond.selects RX2 yX2_release yX2_release, Cond.code yX2_release cX2_release 4 none, Cond.methodLink RX2 75 yX2_presentCycle, Cond.static yX2_presentCycle, Cond.code yX2_presentCycle cX2_presentCycle 1 (some .int), Cond.methodLink RX2 72 yX2_takeBottle, Cond.instanceMethod yX2_takeBottle, Cond.selects RX2 yX2_takeBottle yX2_takeBottle, Cond.code yX2_takeBottle cX2_takeBottle 4 none, Cond.methodLink RX2 55 yX2_countFills, Cond.instanceMethod yX2_countFills, Cond.selects RX2 yX2_countFills yX2_countFills, Cond.code yX2_countFills cX2_countFills 3 none, Cond.methodLink RX5 136 yX2_bottlesOut, Cond.instanceMethod yX2_bottlesOut, Cond.selects RX2 yX2_bottlesOut yX2_bottlesOut, Cond.code yX2_bottlesOut cX2_bottlesOut 1 (some .int)]
def wsL_capacityFor : List Cond := .codeWith yL_capacityFor cL_capacityFor 6 (some .int) [(0, 12, 15, 21), (0, 12, 19, 13)] :: ((wsL_capacityFor_r1 ++ (wsL_capacityFor_r2 ++ (wsL_capacityFor_r3 ++ (wsL_capacityFor_r4 ++ wsL_capacityFor_r5)))) ++ wsX50 ++ wsX20 ++ wsX40 ++ (vx_atS RX5 45 "java/lang/IllegalArgumentException" ["java/lang/RuntimeException", "java/lang/Exception"]).filter goodWord ++ (vx_atS RX5 120 "java/lang/IndexOutOfBoundsException" ["java/lang/RuntimeException", "java/lang/Exception"]).filter goodWord)
def wsL_bestBuffer_r1 : List Cond := [Cond.classLink RL 13 "java/lang/IllegalArgumentException", Cond.classLink RL 15 "java/lang/IllegalStateException", Cond.methodLink RL 69 yX5_bestBuffer, Cond.instanceMethod yX5_bestBuffer, Cond.selects RX5 yX5_bestBuffer yX5_bestBuffer, Cond.initialized RX5, Cond.code yX5_bestBuffer cX5_bestBuffer 8 (some .int), Cond.classLink RX5 41 "java/lang/IllegalArgumentException", Cond.initialized "java/lang/IllegalArgumentException", Cond.fieldLink RX5 10 "LineBuffers" "line" "LLineBuffers$Line;", Cond.methodLink RX5 168 Lib.Math.min.name, Cond.static Lib.Math.min.name, Cond.initialized "java/lang/Math", Cond.code Lib.Math.min.name Lib.Math.min.code 2 (some .int), Cond.methodLink RX5 149 yX5_needHorizon, Cond.static yX5_needHorizon, Cond.code yX5_needHorizon cX5_needHorizon 2 none, Cond.methodLink RX5 37 yX5_isIn, Cond.static yX5_isIn, Cond.code yX5_isIn cX5_isIn 3 (some .boolean), Cond.methodLink RX5 131 yX5_needMachines, Cond.instanceMethod yX5_needMachines, Cond.selects RX5 yX5_needMachines yX5_needMachines, Cond.code yX5_needMachines cX5_needMachines 2 none]
def wsL_bestBuffer_r2 : List Cond := [Cond.classLink RX5 55 "java/lang/IllegalStateException", Cond.initialized "java/lang/IllegalStateException", Cond.methodLink RX5 161 yX5_tryCapacity, Cond.instanceMethod yX5_tryCapacity, Cond.selects RX5 yX5_tryCapacity yX5_tryCapacity, Cond.code yX5_tryCapacity cX5_tryCapacity 4 (some .int), Cond.fieldLink RX5 16 "LineBuffers" "trial" "LLineBuffers$Line;", Cond.methodLink RX5 187 yX2_copy, Cond.static yX2_copy, Cond.initialized RX2, Cond.code yX2_copy cX2_copy 3 none, Cond.fieldLink RX2 23 "LineBuffers$Line" "machines" "I", Cond.fieldLink RX2 11 "LineBuffers$Line" "rows" "[[I", Cond.methodLink RX2 27 arraycopyName, Cond.native arraycopyName, Cond.static arraycopyName, Cond.initialized "java/lang/System", Cond.fieldLink RX2 19 "LineBuffers$Line" "stops" "LLineBuffers$Stops;", Cond.fieldLink RX2 37 "LineBuffers$Line" "tick" "I", Cond.methodLink RX2 33 yX4_copy, Cond.static yX4_copy, Cond.initialized RX4, Cond.code yX4_copy cX4_copy 3 none, Cond.fieldLink RX4 21 "LineBuffers$Stops" "planned" "I"]
def wsL_bestBuffer_r3 : List Cond := [Cond.fieldLink RX4 9 "LineBuffers$Stops" "machineOf" "[I", Cond.methodLink RX4 25 arraycopyName, Cond.fieldLink RX4 15 "LineBuffers$Stops" "firstOf" "[I", Cond.fieldLink RX4 18 "LineBuffers$Stops" "durationOf" "[I", Cond.methodLink RX5 143 yX2_beginAnew, Cond.instanceMethod yX2_beginAnew, Cond.selects RX2 yX2_beginAnew yX2_beginAnew, Cond.code yX2_beginAnew cX2_beginAnew 2 none, Cond.methodLink RX2 43 yX2_empty, Cond.static yX2_empty, Cond.code yX2_empty cX2_empty 2 none, Cond.methodLink RX5 140 yX2_pass, Cond.instanceMethod yX2_pass, Cond.selects RX2 yX2_pass yX2_pass, Cond.code yX2_pass cX2_pass 5 none, Cond.methodLink RX2 47 yX4_lookAt, Cond.instanceMethod yX4_lookAt, Cond.selects RX4 yX4_lookAt yX4_lookAt, Cond.code yX4_lookAt cX4_lookAt 6 (some .int), Cond.constant RX4 37 (2147483647), Cond.fieldLink RX4 38 "LineBuffers$Stops" "downBits" "I", Cond.methodLink RX4 41 Lib.Math.min.name, Cond.methodLink RX2 51 yX2_takeTurn, Cond.instanceMethod yX2_takeTurn]
def wsL_bestBuffer_r4 : List Cond := [Cond.selects RX2 yX2_takeTurn yX2_takeTurn, Cond.code yX2_takeTurn cX2_takeTurn 3 none, Cond.methodLink RX2 58 yX2_chooseSpeed, Cond.instanceMethod yX2_chooseSpeed, Cond.selects RX2 yX2_chooseSpeed yX2_chooseSpeed, Cond.code yX2_chooseSpeed cX2_chooseSpeed 3 none, Cond.methodLink RX2 61 yX4_isDown, Cond.instanceMethod yX4_isDown, Cond.selects RX4 yX4_isDown yX4_isDown, Cond.code yX4_isDown cX4_isDown 2 (some .boolean), Cond.methodLink RX2 65 yX2_noteTurn, Cond.static yX2_noteTurn, Cond.code yX2_noteTurn cX2_noteTurn 2 none, Cond.methodLink RX2 69 yX2_release, Cond.instanceMethod yX2_release, Cond.selects RX2 yX2_release yX2_release, Cond.code yX2_release cX2_release 4 none, Cond.methodLink RX2 75 yX2_presentCycle, Cond.static yX2_presentCycle, Cond.code yX2_presentCycle cX2_presentCycle 1 (some .int), Cond.methodLink RX2 72 yX2_takeBottle, Cond.instanceMethod yX2_takeBottle, Cond.selects RX2 yX2_takeBottle yX2_takeBottle, Cond.code yX2_takeBottle cX2_takeBottle 4 none]
def wsL_bestBuffer_r5 : List Cond := [Cond.methodLink RX2 55 yX2_countFills, Cond.instanceMethod yX2_countFills, Cond.selects RX2 yX2_countFills yX2_countFills, Cond.code yX2_countFills cX2_countFills 3 none, Cond.methodLink RX5 136 yX2_bottlesOut, Cond.instanceMethod yX2_bottlesOut, Cond.selects RX2 yX2_bottlesOut yX2_bottlesOut, Cond.code yX2_bottlesOut cX2_bottlesOut 1 (some .int)]
def wsL_bestBuffer : List Cond := .codeWith yL_bestBuffer cL_bestBuffer 5 (some .int) [(0, 10, 13, 13), (0, 10, 17, 15)] :: ((wsL_bestBuffer_r1 ++ (wsL_bestBuffer_r2 ++ (wsL_bestBuffer_r3 ++ (wsL_bestBuffer_r4 ++ wsL_bestBuffer_r5)))) ++ wsX50 ++ wsX20 ++ wsX40 ++ (vx_atS RX5 45 "java/lang/IllegalArgumentException" ["java/lang/RuntimeException", "java/lang/Exception"]).filter goodWord ++ (vx_atS RX5 59 "java/lang/IllegalStateException" ["java/lang/RuntimeException", "java/lang/Exception"]).filter goodWord)
def wsL_append : List Cond := .codeWith yL_append cL_append 4 (some .int) [(0, 9, 12, 13), (0, 9, 15, 15)] :: ([.classLink RL 13 "java/lang/IllegalArgumentException", .classLink RL 15 "java/lang/IllegalStateException", .methodLink RL 72 yX5_append, .instanceMethod yX5_append, .selects RX5 yX5_append yX5_append, .initialized RX5, .code yX5_append cX5_append 2 (some .int), .classLink RX5 41 "java/lang/IllegalArgumentException", .initialized "java/lang/IllegalArgumentException", .classLink RX5 55 "java/lang/IllegalStateException", .initialized "java/lang/IllegalStateException", .fieldLink RX5 29 "LineBuffers" "text" "LLineBuffers$LineText;", .methodLink RX5 37 yX5_isIn, .static yX5_isIn, .code yX5_isIn cX5_isIn 3 (some .boolean), .methodLink RX5 180 yX3_put, .instanceMethod yX3_put, .selects RX3 yX3_put yX3_put, .initialized RX3, .code yX3_put cX3_put 2 none, .fieldLink RX3 15 "LineBuffers$LineText" "length" "I", .fieldLink RX3 9 "LineBuffers$LineText" "bytes" "[I"] ++ wsX50 ++ wsX30 ++ (vx_atS RX5 45 "java/lang/IllegalArgumentException" ["java/lang/RuntimeException", "java/lang/Exception"]).filter goodWord ++ (vx_atS RX5 59 "java/lang/IllegalStateException" ["java/lang/RuntimeException", "java/lang/Exception"]).filter goodWord)
def wsL_undo_r1 : List Cond := [Cond.classLink RL 15 "java/lang/IllegalStateException", Cond.methodLink RL 75 yX5_undo, Cond.instanceMethod yX5_undo, Cond.selects RX5 yX5_undo yX5_undo, Cond.initialized RX5, Cond.code yX5_undo cX5_undo 1 (some .int), Cond.classLink RX5 55 "java/lang/IllegalStateException", Cond.initialized "java/lang/IllegalStateException", Cond.fieldLink RX5 22 "LineBuffers" "history" "LLineBuffers$History;", Cond.fieldLink RX5 10 "LineBuffers" "line" "LLineBuffers$Line;", Cond.methodLink RX5 196 yX1_giveBack, Cond.instanceMethod yX1_giveBack, Cond.selects RX1 yX1_giveBack yX1_giveBack, Cond.initialized RX1, Cond.code yX1_giveBack cX1_giveBack 2 none, Cond.fieldLink RX1 26 "LineBuffers$History" "saved" "I", Cond.fieldLink RX1 11 "LineBuffers$History" "places" "[LLineBuffers$Line;", Cond.fieldLink RX1 18 "LineBuffers$History" "newest" "I", Cond.methodLink RX1 22 yX2_copy, Cond.static yX2_copy, Cond.initialized RX2, Cond.code yX2_copy cX2_copy 3 none, Cond.fieldLink RX2 23 "LineBuffers$Line" "machines" "I", Cond.fieldLink RX2 11 "LineBuffers$Line" "rows" "[[I"]
def wsL_undo_r2 : List Cond := [Cond.methodLink RX2 27 arraycopyName, Cond.native arraycopyName, Cond.static arraycopyName, Cond.initialized "java/lang/System", Cond.fieldLink RX2 19 "LineBuffers$Line" "stops" "LLineBuffers$Stops;", Cond.fieldLink RX2 37 "LineBuffers$Line" "tick" "I", Cond.methodLink RX2 33 yX4_copy, Cond.static yX4_copy, Cond.initialized RX4, Cond.code yX4_copy cX4_copy 3 none, Cond.fieldLink RX4 21 "LineBuffers$Stops" "planned" "I", Cond.fieldLink RX4 9 "LineBuffers$Stops" "machineOf" "[I", Cond.methodLink RX4 25 arraycopyName, Cond.fieldLink RX4 15 "LineBuffers$Stops" "firstOf" "[I", Cond.fieldLink RX4 18 "LineBuffers$Stops" "durationOf" "[I"]
def wsL_undo : List Cond := .codeWith yL_undo cL_undo 3 (some .int) [(0, 8, 11, 15)] :: ((wsL_undo_r1 ++ wsL_undo_r2) ++ wsX50 ++ wsX10 ++ wsX20 ++ wsX40 ++ (vx_atS RX5 59 "java/lang/IllegalStateException" ["java/lang/RuntimeException", "java/lang/Exception"]).filter goodWord)
def wsL_law0_r1 : List Cond := [Cond.classLink RL 8 RX5, Cond.instantiable RX5 4, Cond.initialized RX5, Cond.classLink RL 79 RX6, Cond.instantiable RX6 12, Cond.initialized RX6, Cond.arrayClass .long, Cond.arrayClass .double, Cond.methodLink RL 78 yX5_init, Cond.instanceMethod yX5_init, Cond.code yX5_init cX5_init 1 none, Cond.methodLink RX5 1 objectInit, Cond.instanceMethod objectInit, Cond.code objectInit ⟨#[0xb1]⟩ 1 none, Cond.classLink RX5 7 RX2, Cond.instantiable RX2 4, Cond.initialized RX2, Cond.fieldLink RX5 10 "LineBuffers" "line" "LLineBuffers$Line;", Cond.fieldLink RX5 16 "LineBuffers" "trial" "LLineBuffers$Line;", Cond.classLink RX5 19 RX1, Cond.instantiable RX1 3, Cond.initialized RX1, Cond.fieldLink RX5 22 "LineBuffers" "history" "LLineBuffers$History;", Cond.classLink RX5 26 RX3]
def wsL_law0_r2 : List Cond := [Cond.instantiable RX3 4, Cond.initialized RX3, Cond.fieldLink RX5 29 "LineBuffers" "text" "LLineBuffers$LineText;", Cond.instanceMethod yX2_init, Cond.code yX2_init cX2_init 1 none, Cond.methodLink RX2 3 objectInit, Cond.classLink RX2 9 "[[I", Cond.arrayClass .int, Cond.fieldLink RX2 11 "LineBuffers$Line" "rows" "[[I", Cond.classLink RX2 16 RX4, Cond.instantiable RX4 5, Cond.initialized RX4, Cond.fieldLink RX2 19 "LineBuffers$Line" "stops" "LLineBuffers$Stops;", Cond.instanceMethod yX4_init, Cond.code yX4_init cX4_init 1 none, Cond.methodLink RX4 3 objectInit, Cond.fieldLink RX4 9 "LineBuffers$Stops" "machineOf" "[I", Cond.fieldLink RX4 15 "LineBuffers$Stops" "firstOf" "[I", Cond.fieldLink RX4 18 "LineBuffers$Stops" "durationOf" "[I", Cond.methodLink RX5 21 yX1_init, Cond.instanceMethod yX1_init, Cond.code yX1_init cX1_init 2 none, Cond.methodLink RX1 3 objectInit, Cond.classLink RX1 9 RX2]
def wsL_law0_r3 : List Cond := [Cond.fieldLink RX1 11 "LineBuffers$History" "places" "[LLineBuffers$Line;", Cond.instanceMethod yX3_init, Cond.code yX3_init cX3_init 1 none, Cond.methodLink RX3 3 objectInit, Cond.fieldLink RX3 9 "LineBuffers$LineText" "bytes" "[I", Cond.methodLink RL 81 yX6_init, Cond.instanceMethod yX6_init, Cond.code yX6_init cX6_init 1 none, Cond.methodLink RX6 1 objectInit, Cond.fieldLink RX6 7 "LineBuffersModel" "now" "[I", Cond.fieldLink RX6 13 "LineBuffersModel" "past" "[I", Cond.fieldLink RX6 16 "LineBuffersModel" "aside" "[I", Cond.fieldLink RX6 19 "LineBuffersModel" "text" "[I", Cond.fieldLink RX6 22 "LineBuffersModel" "down" "[I", Cond.methodLink RL 82 yL_addMachine, Cond.static yL_addMachine, Cond.initialized RL, Cond.codeWith yL_addMachine cL_addMachine 6 (some .int) [(0, 12, 15, 13), (0, 12, 19, 15)], Cond.classLink RL 13 "java/lang/IllegalArgumentException", Cond.classLink RL 15 "java/lang/IllegalStateException", Cond.methodLink RL 7 yX5_addMachine, Cond.instanceMethod yX5_addMachine, Cond.selects RX5 yX5_addMachine yX5_addMachine, Cond.code yX5_addMachine cX5_addMachine 4 (some .int)]
def wsL_law0_r4 : List Cond := [Cond.classLink RX5 41 "java/lang/IllegalArgumentException", Cond.initialized "java/lang/IllegalArgumentException", Cond.classLink RX5 55 "java/lang/IllegalStateException", Cond.initialized "java/lang/IllegalStateException", Cond.methodLink RX5 33 yX5_areCycles, Cond.static yX5_areCycles, Cond.code yX5_areCycles cX5_areCycles 2 (some .boolean), Cond.methodLink RX5 37 yX5_isIn, Cond.static yX5_isIn, Cond.code yX5_isIn cX5_isIn 3 (some .boolean), Cond.methodLink RX5 60 yX1_keep, Cond.instanceMethod yX1_keep, Cond.selects RX1 yX1_keep yX1_keep, Cond.code yX1_keep cX1_keep 2 none, Cond.fieldLink RX1 18 "LineBuffers$History" "newest" "I", Cond.fieldLink RX1 26 "LineBuffers$History" "saved" "I", Cond.methodLink RX1 22 yX2_copy, Cond.static yX2_copy, Cond.code yX2_copy cX2_copy 3 none, Cond.fieldLink RX2 23 "LineBuffers$Line" "machines" "I", Cond.methodLink RX2 27 arraycopyName, Cond.native arraycopyName, Cond.static arraycopyName, Cond.initialized "java/lang/System"]
def wsL_law0_r5 : List Cond := [Cond.fieldLink RX2 37 "LineBuffers$Line" "tick" "I", Cond.methodLink RX2 33 yX4_copy, Cond.static yX4_copy, Cond.code yX4_copy cX4_copy 3 none, Cond.fieldLink RX4 21 "LineBuffers$Stops" "planned" "I", Cond.methodLink RX4 25 arraycopyName, Cond.methodLink RX5 64 yX2_join, Cond.instanceMethod yX2_join, Cond.selects RX2 yX2_join yX2_join, Cond.code yX2_join cX2_join 5 (some .int), Cond.methodLink RX2 43 yX2_empty, Cond.static yX2_empty, Cond.code yX2_empty cX2_empty 2 none, Cond.methodLink RL 87 yX6_addMachine, Cond.instanceMethod yX6_addMachine, Cond.selects RX6 yX6_addMachine yX6_addMachine, Cond.code yX6_addMachine cX6_addMachine 4 (some .int), Cond.methodLink RX6 44 yX6_areCycles, Cond.static yX6_areCycles, Cond.code yX6_areCycles cX6_areCycles 2 (some .boolean), Cond.methodLink RX6 29 yX6_within, Cond.static yX6_within, Cond.code yX6_within cX6_within 3 (some .boolean), Cond.methodLink RX6 48 yX6_isCapacity]
def wsL_law0_r6 : List Cond := [Cond.static yX6_isCapacity, Cond.code yX6_isCapacity cX6_isCapacity 1 (some .boolean), Cond.methodLink RX6 36 yX6_refused, Cond.instanceMethod yX6_refused, Cond.selects RX6 yX6_refused yX6_refused, Cond.code yX6_refused cX6_refused 2 (some .boolean), Cond.fieldLink RX6 25 "LineBuffersModel" "refusal" "I", Cond.methodLink RX6 51 yX6_saves, Cond.instanceMethod yX6_saves, Cond.selects RX6 yX6_saves yX6_saves, Cond.code yX6_saves cX6_saves 2 none, Cond.fieldLink RX6 33 "LineBuffersModel" "saved" "I", Cond.methodLink RX6 54 yX6_adds, Cond.instanceMethod yX6_adds, Cond.selects RX6 yX6_adds yX6_adds, Cond.code yX6_adds cX6_adds 6 none, Cond.methodLink RX6 40 yX6_of, Cond.static yX6_of, Cond.code yX6_of cX6_of 1 (some .int), Cond.methodLink RL 88 yX6_thrown, Cond.instanceMethod yX6_thrown, Cond.selects RX6 yX6_thrown yX6_thrown, Cond.code yX6_thrown cX6_thrown 1 (some .int), Cond.methodLink RL 91 yL_setMachine]
def wsL_law0_r7 : List Cond := [Cond.static yL_setMachine, Cond.codeWith yL_setMachine cL_setMachine 8 (some .int) [(0, 16, 19, 21), (0, 16, 23, 13)], Cond.classLink RL 21 "java/lang/IndexOutOfBoundsException", Cond.methodLink RL 17 yX5_setMachine, Cond.instanceMethod yX5_setMachine, Cond.selects RX5 yX5_setMachine yX5_setMachine, Cond.code yX5_setMachine cX5_setMachine 7 (some .int), Cond.methodLink RX5 68 yX5_needMachine, Cond.instanceMethod yX5_needMachine, Cond.selects RX5 yX5_needMachine yX5_needMachine, Cond.code yX5_needMachine cX5_needMachine 2 none, Cond.classLink RX5 116 "java/lang/IndexOutOfBoundsException", Cond.initialized "java/lang/IndexOutOfBoundsException", Cond.methodLink RX5 78 yX2_mark, Cond.instanceMethod yX2_mark, Cond.selects RX2 yX2_mark yX2_mark, Cond.code yX2_mark cX2_mark 4 none, Cond.methodLink RL 94 yX6_setMachine, Cond.instanceMethod yX6_setMachine, Cond.selects RX6 yX6_setMachine yX6_setMachine, Cond.code yX6_setMachine cX6_setMachine 8 (some .int), Cond.methodLink RX6 58 yX6_isMachine, Cond.instanceMethod yX6_isMachine, Cond.selects RX6 yX6_isMachine yX6_isMachine]
def wsL_law0_r8 : List Cond := [Cond.code yX6_isMachine cX6_isMachine 2 (some .boolean), Cond.methodLink RX6 61 yX6_areMarks, Cond.static yX6_areMarks, Cond.code yX6_areMarks cX6_areMarks 2 (some .boolean), Cond.methodLink RL 95 yL_setCapacity, Cond.static yL_setCapacity, Cond.codeWith yL_setCapacity cL_setCapacity 5 (some .int) [(0, 10, 13, 21), (0, 10, 17, 13)], Cond.methodLink RL 23 yX5_setCapacity, Cond.instanceMethod yX5_setCapacity, Cond.selects RX5 yX5_setCapacity yX5_setCapacity, Cond.code yX5_setCapacity cX5_setCapacity 4 (some .int), Cond.methodLink RL 98 yX6_setCapacity, Cond.instanceMethod yX6_setCapacity, Cond.selects RX6 yX6_setCapacity yX6_setCapacity, Cond.code yX6_setCapacity cX6_setCapacity 4 (some .int), Cond.methodLink RL 99 yL_addStop, Cond.static yL_addStop, Cond.codeWith yL_addStop cL_addStop 6 (some .int) [(0, 12, 15, 21), (0, 12, 19, 13), (0, 12, 23, 15)], Cond.methodLink RL 27 yX5_addStop, Cond.instanceMethod yX5_addStop, Cond.selects RX5 yX5_addStop yX5_addStop, Cond.code yX5_addStop cX5_addStop 4 (some .int), Cond.methodLink RX5 97 yX4_plan, Cond.instanceMethod yX4_plan]
def wsL_law0_r9 : List Cond := [Cond.selects RX4 yX4_plan yX4_plan, Cond.code yX4_plan cX4_plan 4 none, Cond.methodLink RL 101 yX6_addStop, Cond.instanceMethod yX6_addStop, Cond.selects RX6 yX6_addStop yX6_addStop, Cond.code yX6_addStop cX6_addStop 5 (some .int), Cond.methodLink RX6 64 yX6_plans, Cond.instanceMethod yX6_plans, Cond.selects RX6 yX6_plans yX6_plans, Cond.code yX6_plans cX6_plans 5 none, Cond.methodLink RL 102 yL_addRandomStops, Cond.static yL_addRandomStops, Cond.codeWith yL_addRandomStops cL_addRandomStops 8 (some .int) [(0, 16, 19, 21), (0, 16, 23, 13), (0, 16, 27, 15)], Cond.methodLink RL 30 yX5_addRandomStops, Cond.instanceMethod yX5_addRandomStops, Cond.selects RX5 yX5_addRandomStops yX5_addRandomStops, Cond.code yX5_addRandomStops cX5_addRandomStops 11 (some .int), Cond.constant RX5 100 (999999), Cond.classLink RX5 105 RX0, Cond.instantiable RX0 1, Cond.initialized RX0, Cond.methodLink RX5 107 yX0_init, Cond.instanceMethod yX0_init, Cond.code yX0_init cX0_init 2 none]
def wsL_law0_r10 : List Cond := [Cond.methodLink RX0 1 objectInit, Cond.fieldLink RX0 7 "LineBuffers$Draws" "state" "J", Cond.methodLink RX5 109 yX0_drawBelow, Cond.instanceMethod yX0_drawBelow, Cond.selects RX0 yX0_drawBelow yX0_drawBelow, Cond.code yX0_drawBelow cX0_drawBelow 2 (some .int), Cond.constantLong RX0 13 (1103515245), Cond.constantLong RX0 15 (12345), Cond.constantLong RX0 17 (2147483648), Cond.constantLong RX0 19 (65536), Cond.methodLink RL 104 yX6_addRandomStops, Cond.instanceMethod yX6_addRandomStops, Cond.selects RX6 yX6_addRandomStops yX6_addRandomStops, Cond.code yX6_addRandomStops cX6_addRandomStops 12 (some .int), Cond.constant RX6 79 (999999), Cond.fieldLink RX6 69 "LineBuffersModel" "draw" "J", Cond.methodLink RX6 80 yX6_draws, Cond.instanceMethod yX6_draws, Cond.selects RX6 yX6_draws yX6_draws, Cond.code yX6_draws cX6_draws 1 (some .int), Cond.constantLong RX6 67 (1103515245), Cond.constantLong RX6 73 (12345), Cond.constantLong RX6 75 (2147483648), Cond.constantLong RX6 77 (65536)]
def wsL_law0_r11 : List Cond := [Cond.methodLink RL 105 yX5_clearStops, Cond.instanceMethod yX5_clearStops, Cond.selects RX5 yX5_clearStops yX5_clearStops, Cond.code yX5_clearStops cX5_clearStops 1 (some .int), Cond.methodLink RX5 113 yX4_dropAfter, Cond.instanceMethod yX4_dropAfter, Cond.selects RX4 yX4_dropAfter yX4_dropAfter, Cond.code yX4_dropAfter cX4_dropAfter 4 (some .int), Cond.methodLink RX4 31 yX4_plan, Cond.methodLink RL 108 yX6_clearStops, Cond.instanceMethod yX6_clearStops, Cond.selects RX6 yX6_clearStops yX6_clearStops, Cond.code yX6_clearStops cX6_clearStops 5 (some .int), Cond.methodLink RL 109 yX5_size, Cond.instanceMethod yX5_size, Cond.selects RX5 yX5_size yX5_size, Cond.code yX5_size cX5_size 2 (some .int), Cond.methodLink RL 113 yX6_size, Cond.instanceMethod yX6_size, Cond.selects RX6 yX6_size yX6_size, Cond.code yX6_size cX6_size 2 (some .int), Cond.methodLink RL 114 yL_stop, Cond.static yL_stop, Cond.codeWith yL_stop cL_stop 5 (some .int) [(0, 10, 13, 21), (0, 10, 17, 13)]]
def wsL_law0_r12 : List Cond := [Cond.methodLink RL 33 yX5_stop, Cond.instanceMethod yX5_stop, Cond.selects RX5 yX5_stop yX5_stop, Cond.code yX5_stop cX5_stop 3 (some .int), Cond.methodLink RX5 121 yX5_needWhat, Cond.static yX5_needWhat, Cond.code yX5_needWhat cX5_needWhat 2 none, Cond.methodLink RX5 125 yX4_value, Cond.instanceMethod yX4_value, Cond.selects RX4 yX4_value yX4_value, Cond.code yX4_value cX4_value 3 (some .int), Cond.methodLink RL 116 yX6_stop, Cond.instanceMethod yX6_stop, Cond.selects RX6 yX6_stop yX6_stop, Cond.code yX6_stop cX6_stop 3 (some .int), Cond.methodLink RL 117 yL_run, Cond.static yL_run, Cond.codeWith yL_run cL_run 4 (some .int) [(0, 9, 12, 13), (0, 9, 15, 15)], Cond.methodLink RL 36 yX5_run, Cond.instanceMethod yX5_run, Cond.selects RX5 yX5_run yX5_run, Cond.code yX5_run cX5_run 3 (some .int), Cond.methodLink RX5 131 yX5_needMachines, Cond.instanceMethod yX5_needMachines]
def wsL_law0_r13 : List Cond := [Cond.selects RX5 yX5_needMachines yX5_needMachines, Cond.code yX5_needMachines cX5_needMachines 2 none, Cond.methodLink RX5 136 yX2_bottlesOut, Cond.instanceMethod yX2_bottlesOut, Cond.selects RX2 yX2_bottlesOut yX2_bottlesOut, Cond.code yX2_bottlesOut cX2_bottlesOut 1 (some .int), Cond.methodLink RX5 140 yX2_pass, Cond.instanceMethod yX2_pass, Cond.selects RX2 yX2_pass yX2_pass, Cond.code yX2_pass cX2_pass 5 none, Cond.methodLink RX2 47 yX4_lookAt, Cond.instanceMethod yX4_lookAt, Cond.selects RX4 yX4_lookAt yX4_lookAt, Cond.code yX4_lookAt cX4_lookAt 6 (some .int), Cond.constant RX4 37 (2147483647), Cond.fieldLink RX4 38 "LineBuffers$Stops" "downBits" "I", Cond.methodLink RX4 41 Lib.Math.min.name, Cond.static Lib.Math.min.name, Cond.initialized "java/lang/Math", Cond.code Lib.Math.min.name Lib.Math.min.code 2 (some .int), Cond.methodLink RX2 51 yX2_takeTurn, Cond.instanceMethod yX2_takeTurn, Cond.selects RX2 yX2_takeTurn yX2_takeTurn, Cond.code yX2_takeTurn cX2_takeTurn 3 none]
def wsL_law0_r14 : List Cond := [Cond.methodLink RX2 58 yX2_chooseSpeed, Cond.instanceMethod yX2_chooseSpeed, Cond.selects RX2 yX2_chooseSpeed yX2_chooseSpeed, Cond.code yX2_chooseSpeed cX2_chooseSpeed 3 none, Cond.methodLink RX2 61 yX4_isDown, Cond.instanceMethod yX4_isDown, Cond.selects RX4 yX4_isDown yX4_isDown, Cond.code yX4_isDown cX4_isDown 2 (some .boolean), Cond.methodLink RX2 65 yX2_noteTurn, Cond.static yX2_noteTurn, Cond.code yX2_noteTurn cX2_noteTurn 2 none, Cond.methodLink RX2 69 yX2_release, Cond.instanceMethod yX2_release, Cond.selects RX2 yX2_release yX2_release, Cond.code yX2_release cX2_release 4 none, Cond.methodLink RX2 75 yX2_presentCycle, Cond.static yX2_presentCycle, Cond.code yX2_presentCycle cX2_presentCycle 1 (some .int), Cond.methodLink RX2 72 yX2_takeBottle, Cond.instanceMethod yX2_takeBottle, Cond.selects RX2 yX2_takeBottle yX2_takeBottle, Cond.code yX2_takeBottle cX2_takeBottle 4 none, Cond.methodLink RX2 55 yX2_countFills, Cond.instanceMethod yX2_countFills]
def wsL_law0_r15 : List Cond := [Cond.selects RX2 yX2_countFills yX2_countFills, Cond.code yX2_countFills cX2_countFills 3 none, Cond.methodLink RL 120 yX6_run, Cond.instanceMethod yX6_run, Cond.selects RX6 yX6_run yX6_run, Cond.code yX6_run cX6_run 2 (some .int), Cond.methodLink RX6 114 yX6_goes, Cond.instanceMethod yX6_goes, Cond.selects RX6 yX6_goes yX6_goes, Cond.code yX6_goes cX6_goes 4 (some .int), Cond.methodLink RX6 105 yX6_made, Cond.instanceMethod yX6_made, Cond.selects RX6 yX6_made yX6_made, Cond.code yX6_made cX6_made 1 (some .int), Cond.methodLink RX6 108 yX6_laysDown, Cond.instanceMethod yX6_laysDown, Cond.selects RX6 yX6_laysDown yX6_laysDown, Cond.code yX6_laysDown cX6_laysDown 7 none, Cond.methodLink RX6 111 yX6_passes, Cond.instanceMethod yX6_passes, Cond.selects RX6 yX6_passes yX6_passes, Cond.code yX6_passes cX6_passes 3 none, Cond.methodLink RX6 101 yX6_turns, Cond.instanceMethod yX6_turns]
def wsL_law0_r16 : List Cond := [Cond.selects RX6 yX6_turns yX6_turns, Cond.code yX6_turns cX6_turns 4 (some .int), Cond.methodLink RX6 90 yX6_speeds, Cond.instanceMethod yX6_speeds, Cond.selects RX6 yX6_speeds yX6_speeds, Cond.code yX6_speeds cX6_speeds 5 none, Cond.methodLink RX6 84 yX6_isDown, Cond.instanceMethod yX6_isDown, Cond.selects RX6 yX6_isDown yX6_isDown, Cond.code yX6_isDown cX6_isDown 3 (some .boolean), Cond.methodLink RX6 94 yX6_leaves, Cond.instanceMethod yX6_leaves, Cond.selects RX6 yX6_leaves yX6_leaves, Cond.code yX6_leaves cX6_leaves 6 none, Cond.methodLink RX6 87 yX6_cycle, Cond.instanceMethod yX6_cycle, Cond.selects RX6 yX6_cycle yX6_cycle, Cond.code yX6_cycle cX6_cycle 2 (some .int), Cond.methodLink RX6 98 yX6_takes, Cond.instanceMethod yX6_takes, Cond.selects RX6 yX6_takes yX6_takes, Cond.code yX6_takes cX6_takes 4 none, Cond.methodLink RL 121 yX5_restart, Cond.instanceMethod yX5_restart]
def wsL_law0_r17 : List Cond := [Cond.selects RX5 yX5_restart yX5_restart, Cond.code yX5_restart cX5_restart 2 (some .int), Cond.methodLink RX5 143 yX2_beginAnew, Cond.instanceMethod yX2_beginAnew, Cond.selects RX2 yX2_beginAnew yX2_beginAnew, Cond.code yX2_beginAnew cX2_beginAnew 2 none, Cond.methodLink RL 124 yX6_restart, Cond.instanceMethod yX6_restart, Cond.selects RX6 yX6_restart yX6_restart, Cond.code yX6_restart cX6_restart 2 (some .int), Cond.methodLink RX6 117 yX6_empties, Cond.instanceMethod yX6_empties, Cond.selects RX6 yX6_empties yX6_empties, Cond.code yX6_empties cX6_empties 4 none, Cond.methodLink RL 125 yX5_now, Cond.instanceMethod yX5_now, Cond.selects RX5 yX5_now yX5_now, Cond.code yX5_now cX5_now 1 (some .int), Cond.methodLink RL 128 yX6_now, Cond.instanceMethod yX6_now, Cond.selects RX6 yX6_now yX6_now, Cond.code yX6_now cX6_now 1 (some .int), Cond.methodLink RL 129 yX5_output, Cond.instanceMethod yX5_output]
def wsL_law0_r18 : List Cond := [Cond.selects RX5 yX5_output yX5_output, Cond.code yX5_output cX5_output 1 (some .int), Cond.methodLink RL 132 yX6_output, Cond.instanceMethod yX6_output, Cond.selects RX6 yX6_output yX6_output, Cond.code yX6_output cX6_output 1 (some .int), Cond.methodLink RL 133 yL_setting, Cond.static yL_setting, Cond.codeWith yL_setting cL_setting 5 (some .int) [(0, 10, 13, 21), (0, 10, 17, 13)], Cond.methodLink RL 40 yX5_setting, Cond.instanceMethod yX5_setting, Cond.selects RX5 yX5_setting yX5_setting, Cond.code yX5_setting cX5_setting 3 (some .int), Cond.methodLink RL 135 yX6_setting, Cond.instanceMethod yX6_setting, Cond.selects RX6 yX6_setting yX6_setting, Cond.code yX6_setting cX6_setting 3 (some .int), Cond.methodLink RL 136 yL_machine, Cond.static yL_machine, Cond.codeWith yL_machine cL_machine 5 (some .int) [(0, 10, 13, 21), (0, 10, 17, 13)], Cond.methodLink RL 43 yX5_machine, Cond.instanceMethod yX5_machine, Cond.selects RX5 yX5_machine yX5_machine, Cond.code yX5_machine cX5_machine 3 (some .int)]
def wsL_law0_r19 : List Cond := [Cond.methodLink RL 138 yX6_machine, Cond.instanceMethod yX6_machine, Cond.selects RX6 yX6_machine yX6_machine, Cond.code yX6_machine cX6_machine 3 (some .int), Cond.methodLink RX6 120 yX6_tellMachine, Cond.instanceMethod yX6_tellMachine, Cond.selects RX6 yX6_tellMachine yX6_tellMachine, Cond.code yX6_tellMachine cX6_tellMachine 3 (some .int), Cond.methodLink RL 139 yL_count, Cond.static yL_count, Cond.codeWith yL_count cL_count 5 (some .int) [(0, 10, 13, 21), (0, 10, 17, 13)], Cond.methodLink RL 46 yX5_count, Cond.instanceMethod yX5_count, Cond.selects RX5 yX5_count yX5_count, Cond.code yX5_count cX5_count 3 (some .int), Cond.methodLink RL 141 yX6_count, Cond.instanceMethod yX6_count, Cond.selects RX6 yX6_count yX6_count, Cond.code yX6_count cX6_count 3 (some .int), Cond.methodLink RL 142 yL_meanFill, Cond.static yL_meanFill, Cond.codeWith yL_meanFill cL_meanFill 4 (some .int) [(0, 8, 11, 21)], Cond.methodLink RL 49 yX5_meanFill, Cond.instanceMethod yX5_meanFill]
def wsL_law0_r20 : List Cond := [Cond.selects RX5 yX5_meanFill yX5_meanFill, Cond.code yX5_meanFill cX5_meanFill 2 (some .double), Cond.methodLink RL 145 yX6_meanFill, Cond.instanceMethod yX6_meanFill, Cond.selects RX6 yX6_meanFill yX6_meanFill, Cond.code yX6_meanFill cX6_meanFill 2 (some .double), Cond.methodLink RL 146 yX5_inside, Cond.instanceMethod yX5_inside, Cond.selects RX5 yX5_inside yX5_inside, Cond.code yX5_inside cX5_inside 1 (some .int), Cond.methodLink RX5 146 yX2_bottlesInside, Cond.instanceMethod yX2_bottlesInside, Cond.selects RX2 yX2_bottlesInside yX2_bottlesInside, Cond.code yX2_bottlesInside cX2_bottlesInside 3 (some .int), Cond.methodLink RL 149 yX6_inside, Cond.instanceMethod yX6_inside, Cond.selects RX6 yX6_inside yX6_inside, Cond.code yX6_inside cX6_inside 1 (some .int), Cond.methodLink RX6 123 yX6_bottles, Cond.instanceMethod yX6_bottles, Cond.selects RX6 yX6_bottles yX6_bottles, Cond.code yX6_bottles cX6_bottles 3 (some .int), Cond.methodLink RL 150 yL_bound, Cond.static yL_bound]
def wsL_law0_r21 : List Cond := [Cond.codeWith yL_bound cL_bound 4 (some .int) [(0, 9, 12, 13), (0, 9, 15, 15)], Cond.methodLink RL 53 yX5_bound, Cond.instanceMethod yX5_bound, Cond.selects RX5 yX5_bound yX5_bound, Cond.code yX5_bound cX5_bound 2 (some .int), Cond.methodLink RX5 149 yX5_needHorizon, Cond.static yX5_needHorizon, Cond.code yX5_needHorizon cX5_needHorizon 2 none, Cond.methodLink RX5 152 yX2_findSlowest, Cond.instanceMethod yX2_findSlowest, Cond.selects RX2 yX2_findSlowest yX2_findSlowest, Cond.code yX2_findSlowest cX2_findSlowest 6 (some .int), Cond.constant RX2 81 (2147483647), Cond.methodLink RX2 82 yX2_mostBottles, Cond.instanceMethod yX2_mostBottles, Cond.selects RX2 yX2_mostBottles yX2_mostBottles, Cond.code yX2_mostBottles cX2_mostBottles 4 (some .int), Cond.methodLink RX2 86 yX2_upTicks, Cond.instanceMethod yX2_upTicks, Cond.selects RX2 yX2_upTicks yX2_upTicks, Cond.code yX2_upTicks cX2_upTicks 7 (some .int), Cond.methodLink RX2 89 Lib.Math.min.name, Cond.methodLink RX5 155 yX2_mostBottles, Cond.methodLink RL 152 yX6_bound]
def wsL_law0_r22 : List Cond := [Cond.instanceMethod yX6_bound, Cond.selects RX6 yX6_bound yX6_bound, Cond.code yX6_bound cX6_bound 2 (some .int), Cond.methodLink RX6 129 yX6_refusedLimit, Cond.instanceMethod yX6_refusedLimit, Cond.selects RX6 yX6_refusedLimit yX6_refusedLimit, Cond.code yX6_refusedLimit cX6_refusedLimit 2 (some .boolean), Cond.methodLink RX6 132 yX6_slowestOf, Cond.instanceMethod yX6_slowestOf, Cond.selects RX6 yX6_slowestOf yX6_slowestOf, Cond.code yX6_slowestOf cX6_slowestOf 4 (some .int), Cond.methodLink RX6 126 yX6_most, Cond.instanceMethod yX6_most, Cond.selects RX6 yX6_most yX6_most, Cond.code yX6_most cX6_most 5 (some .int), Cond.methodLink RL 153 yL_limiting, Cond.static yL_limiting, Cond.codeWith yL_limiting cL_limiting 3 (some .int) [(0, 8, 11, 15)], Cond.methodLink RL 56 yX5_limiting, Cond.instanceMethod yX5_limiting, Cond.selects RX5 yX5_limiting yX5_limiting, Cond.code yX5_limiting cX5_limiting 1 (some .int), Cond.methodLink RX5 158 yX2_findLimiting, Cond.instanceMethod yX2_findLimiting]
def wsL_law0_r23 : List Cond := [Cond.selects RX2 yX2_findLimiting yX2_findLimiting, Cond.code yX2_findLimiting cX2_findLimiting 5 (some .int), Cond.methodLink RL 156 yX6_limiting, Cond.instanceMethod yX6_limiting, Cond.selects RX6 yX6_limiting yX6_limiting, Cond.code yX6_limiting cX6_limiting 3 (some .int), Cond.methodLink RX6 135 yX6_idle, Cond.instanceMethod yX6_idle, Cond.selects RX6 yX6_idle yX6_idle, Cond.code yX6_idle cX6_idle 2 (some .int), Cond.methodLink RL 157 yL_slowest, Cond.static yL_slowest, Cond.codeWith yL_slowest cL_slowest 4 (some .int) [(0, 9, 12, 13), (0, 9, 15, 15)], Cond.methodLink RL 60 yX5_slowest, Cond.instanceMethod yX5_slowest, Cond.selects RX5 yX5_slowest yX5_slowest, Cond.code yX5_slowest cX5_slowest 2 (some .int), Cond.methodLink RL 159 yX6_slowest, Cond.instanceMethod yX6_slowest, Cond.selects RX6 yX6_slowest yX6_slowest, Cond.code yX6_slowest cX6_slowest 2 (some .int), Cond.methodLink RL 160 yL_outputWith, Cond.static yL_outputWith, Cond.codeWith yL_outputWith cL_outputWith 6 (some .int) [(0, 12, 15, 21), (0, 12, 19, 13)]]
def wsL_law0_r24 : List Cond := [Cond.methodLink RL 63 yX5_outputWith, Cond.instanceMethod yX5_outputWith, Cond.selects RX5 yX5_outputWith yX5_outputWith, Cond.code yX5_outputWith cX5_outputWith 4 (some .int), Cond.methodLink RX5 161 yX5_tryCapacity, Cond.instanceMethod yX5_tryCapacity, Cond.selects RX5 yX5_tryCapacity yX5_tryCapacity, Cond.code yX5_tryCapacity cX5_tryCapacity 4 (some .int), Cond.methodLink RX5 187 yX2_copy, Cond.methodLink RL 162 yX6_outputWith, Cond.instanceMethod yX6_outputWith, Cond.selects RX6 yX6_outputWith yX6_outputWith, Cond.code yX6_outputWith cX6_outputWith 4 (some .int), Cond.methodLink RX6 144 yX6_areTicks, Cond.static yX6_areTicks, Cond.code yX6_areTicks cX6_areTicks 1 (some .boolean), Cond.methodLink RX6 147 yX6_madeWith, Cond.instanceMethod yX6_madeWith, Cond.selects RX6 yX6_madeWith yX6_madeWith, Cond.code yX6_madeWith cX6_madeWith 5 (some .int), Cond.methodLink RX6 138 yX6_keeps, Cond.instanceMethod yX6_keeps, Cond.selects RX6 yX6_keeps yX6_keeps, Cond.code yX6_keeps cX6_keeps 2 none]
def wsL_law0_r25 : List Cond := [Cond.methodLink RX6 141 yX6_takesBack, Cond.instanceMethod yX6_takesBack, Cond.selects RX6 yX6_takesBack yX6_takesBack, Cond.code yX6_takesBack cX6_takesBack 2 none, Cond.methodLink RL 163 yL_capacityFor, Cond.static yL_capacityFor, Cond.codeWith yL_capacityFor cL_capacityFor 6 (some .int) [(0, 12, 15, 21), (0, 12, 19, 13)], Cond.methodLink RL 66 yX5_capacityFor, Cond.instanceMethod yX5_capacityFor, Cond.selects RX5 yX5_capacityFor yX5_capacityFor, Cond.code yX5_capacityFor cX5_capacityFor 5 (some .int), Cond.methodLink RL 165 yX6_capacityFor, Cond.instanceMethod yX6_capacityFor, Cond.selects RX6 yX6_capacityFor yX6_capacityFor, Cond.code yX6_capacityFor cX6_capacityFor 5 (some .int), Cond.methodLink RL 166 yL_bestBuffer, Cond.static yL_bestBuffer, Cond.codeWith yL_bestBuffer cL_bestBuffer 5 (some .int) [(0, 10, 13, 13), (0, 10, 17, 15)], Cond.methodLink RL 69 yX5_bestBuffer, Cond.instanceMethod yX5_bestBuffer, Cond.selects RX5 yX5_bestBuffer yX5_bestBuffer, Cond.code yX5_bestBuffer cX5_bestBuffer 8 (some .int), Cond.methodLink RX5 168 Lib.Math.min.name, Cond.methodLink RL 168 yX6_bestBuffer]
def wsL_law0_r26 : List Cond := [Cond.instanceMethod yX6_bestBuffer, Cond.selects RX6 yX6_bestBuffer yX6_bestBuffer, Cond.code yX6_bestBuffer cX6_bestBuffer 8 (some .int), Cond.methodLink RL 169 yL_append, Cond.static yL_append, Cond.codeWith yL_append cL_append 4 (some .int) [(0, 9, 12, 13), (0, 9, 15, 15)], Cond.methodLink RL 72 yX5_append, Cond.instanceMethod yX5_append, Cond.selects RX5 yX5_append yX5_append, Cond.code yX5_append cX5_append 2 (some .int), Cond.methodLink RX5 180 yX3_put, Cond.instanceMethod yX3_put, Cond.selects RX3 yX3_put yX3_put, Cond.code yX3_put cX3_put 2 none, Cond.fieldLink RX3 15 "LineBuffers$LineText" "length" "I", Cond.methodLink RL 171 yX6_append, Cond.instanceMethod yX6_append, Cond.selects RX6 yX6_append yX6_append, Cond.code yX6_append cX6_append 2 (some .int), Cond.fieldLink RX6 151 "LineBuffersModel" "length" "I", Cond.methodLink RL 172 yX5_clearText, Cond.instanceMethod yX5_clearText, Cond.selects RX5 yX5_clearText yX5_clearText, Cond.code yX5_clearText cX5_clearText 2 (some .int)]
def wsL_law0_r27 : List Cond := [Cond.methodLink RL 175 yX6_clearText, Cond.instanceMethod yX6_clearText, Cond.selects RX6 yX6_clearText yX6_clearText, Cond.code yX6_clearText cX6_clearText 2 (some .int), Cond.methodLink RL 176 yX5_parse, Cond.instanceMethod yX5_parse, Cond.selects RX5 yX5_parse yX5_parse, Cond.code yX5_parse cX5_parse 2 (some .int), Cond.methodLink RX5 183 yX3_readInto, Cond.instanceMethod yX3_readInto, Cond.selects RX3 yX3_readInto yX3_readInto, Cond.code yX3_readInto cX3_readInto 3 (some .int), Cond.fieldLink RX3 19 "LineBuffers$LineText" "at" "I", Cond.fieldLink RX3 22 "LineBuffers$LineText" "error" "I", Cond.methodLink RX3 25 yX2_takeApart, Cond.instanceMethod yX2_takeApart, Cond.selects RX2 yX2_takeApart yX2_takeApart, Cond.code yX2_takeApart cX2_takeApart 1 none, Cond.methodLink RX3 30 yX3_readItem, Cond.instanceMethod yX3_readItem, Cond.selects RX3 yX3_readItem yX3_readItem, Cond.code yX3_readItem cX3_readItem 3 none, Cond.methodLink RX3 34 yX3_byteAt, Cond.instanceMethod yX3_byteAt]
def wsL_law0_r28 : List Cond := [Cond.selects RX3 yX3_byteAt yX3_byteAt, Cond.code yX3_byteAt cX3_byteAt 2 (some .int), Cond.methodLink RX3 41 yX3_readMachine, Cond.instanceMethod yX3_readMachine, Cond.selects RX3 yX3_readMachine yX3_readMachine, Cond.code yX3_readMachine cX3_readMachine 5 none, Cond.methodLink RX3 47 yX3_readNumber, Cond.instanceMethod yX3_readNumber, Cond.selects RX3 yX3_readNumber yX3_readNumber, Cond.code yX3_readNumber cX3_readNumber 7 (some .int), Cond.methodLink RX3 59 yX3_isDigit, Cond.static yX3_isDigit, Cond.code yX3_isDigit cX3_isDigit 1 (some .boolean), Cond.methodLink RX3 51 yX2_join, Cond.methodLink RX3 44 yX3_readMarks, Cond.instanceMethod yX3_readMarks, Cond.selects RX3 yX3_readMarks yX3_readMarks, Cond.code yX3_readMarks cX3_readMarks 5 none, Cond.methodLink RX3 55 yX2_mark, Cond.methodLink RL 179 yX6_parse, Cond.instanceMethod yX6_parse, Cond.selects RX6 yX6_parse yX6_parse, Cond.code yX6_parse cX6_parse 4 (some .int), Cond.fieldLink RX6 154 "LineBuffersModel" "spot" "I"]
def wsL_law0_r29 : List Cond := [Cond.methodLink RX6 169 yX6_readsMachine, Cond.instanceMethod yX6_readsMachine, Cond.selects RX6 yX6_readsMachine yX6_readsMachine, Cond.code yX6_readsMachine cX6_readsMachine 3 (some .boolean), Cond.fieldLink RX6 160 "LineBuffersModel" "value" "I", Cond.methodLink RX6 163 yX6_number, Cond.instanceMethod yX6_number, Cond.selects RX6 yX6_number yX6_number, Cond.code yX6_number cX6_number 5 (some .boolean), Cond.methodLink RX6 157 yX6_isAt, Cond.instanceMethod yX6_isAt, Cond.selects RX6 yX6_isAt yX6_isAt, Cond.code yX6_isAt cX6_isAt 3 (some .boolean), Cond.methodLink RX6 166 yX6_sign, Cond.instanceMethod yX6_sign, Cond.selects RX6 yX6_sign yX6_sign, Cond.code yX6_sign cX6_sign 3 (some .boolean), Cond.methodLink RX6 173 yX6_readsMarks, Cond.instanceMethod yX6_readsMarks, Cond.selects RX6 yX6_readsMarks yX6_readsMarks, Cond.code yX6_readsMarks cX6_readsMarks 3 (some .boolean), Cond.methodLink RL 180 yL_undo, Cond.static yL_undo, Cond.codeWith yL_undo cL_undo 3 (some .int) [(0, 8, 11, 15)]]
def wsL_law0_r30 : List Cond := [Cond.methodLink RL 75 yX5_undo, Cond.instanceMethod yX5_undo, Cond.selects RX5 yX5_undo yX5_undo, Cond.code yX5_undo cX5_undo 1 (some .int), Cond.methodLink RX5 196 yX1_giveBack, Cond.instanceMethod yX1_giveBack, Cond.selects RX1 yX1_giveBack yX1_giveBack, Cond.code yX1_giveBack cX1_giveBack 2 none, Cond.methodLink RL 182 yX6_undo, Cond.instanceMethod yX6_undo, Cond.selects RX6 yX6_undo yX6_undo, Cond.code yX6_undo cX6_undo 2 (some .int), Cond.methodLink RL 183 yX5_digest, Cond.instanceMethod yX5_digest, Cond.selects RX5 yX5_digest yX5_digest, Cond.code yX5_digest cX5_digest 3 (some .long), Cond.constantLong RX5 199 (3109), Cond.constantLong RX5 201 (31), Cond.methodLink RX5 203 yX2_mixInto, Cond.instanceMethod yX2_mixInto, Cond.selects RX2 yX2_mixInto yX2_mixInto, Cond.code yX2_mixInto cX2_mixInto 7 (some .long), Cond.constantLong RX2 94 (31), Cond.methodLink RX2 96 yX2_bottlesOut]
def wsL_law0_r31 : List Cond := [Cond.methodLink RX5 207 yX4_mixInto, Cond.instanceMethod yX4_mixInto, Cond.selects RX4 yX4_mixInto yX4_mixInto, Cond.code yX4_mixInto cX4_mixInto 7 (some .long), Cond.constantLong RX4 47 (31), Cond.methodLink RX4 49 yX4_value, Cond.methodLink RL 187 yX6_digest, Cond.instanceMethod yX6_digest, Cond.selects RX6 yX6_digest yX6_digest, Cond.code yX6_digest cX6_digest 3 (some .long), Cond.constantLong RX6 181 (3109), Cond.fieldLink RX6 178 "LineBuffersModel" "hash" "J", Cond.methodLink RX6 183 yX6_mix, Cond.instanceMethod yX6_mix, Cond.selects RX6 yX6_mix yX6_mix, Cond.code yX6_mix cX6_mix 2 none, Cond.constantLong RX6 176 (31)]
def wsL_law0 : List Cond := (wsL_law0_r1 ++ (wsL_law0_r2 ++ (wsL_law0_r3 ++ (wsL_law0_r4 ++ (wsL_law0_r5 ++ (wsL_law0_r6 ++ (wsL_law0_r7 ++ (wsL_law0_r8 ++ (wsL_law0_r9 ++ (wsL_law0_r10 ++ (wsL_law0_r11 ++ (wsL_law0_r12 ++ (wsL_law0_r13 ++ (wsL_law0_r14 ++ (wsL_law0_r15 ++ (wsL_law0_r16 ++ (wsL_law0_r17 ++ (wsL_law0_r18 ++ (wsL_law0_r19 ++ (wsL_law0_r20 ++ (wsL_law0_r21 ++ (wsL_law0_r22 ++ (wsL_law0_r23 ++ (wsL_law0_r24 ++ (wsL_law0_r25 ++ (wsL_law0_r26 ++ (wsL_law0_r27 ++ (wsL_law0_r28 ++ (wsL_law0_r29 ++ (wsL_law0_r30 ++ wsL_law0_r31)))))))))))))))))))))))))))))) ++ wsX50 ++ wsX60 ++ wsX20 ++ wsX10 ++ wsX30 ++ wsX40 ++ wsX00 ++ ([] : List Cond)
def wsL_law : List Cond := wsL_law0 ++ (vx_atS RX5 45 "java/lang/IllegalArgumentException" ["java/lang/RuntimeException", "java/lang/Exception"]).filter goodWord ++ (vx_atS RX5 59 "java/lang/IllegalStateException" ["java/lang/RuntimeException", "java/lang/Exception"]).filter goodWord ++ (vx_atS RX5 120 "java/lang/IndexOutOfBoundsException" ["java/lang/RuntimeException", "java/lang/Exception"]).filter goodWord
abbrev vwCl : List vw_C := [(RX0, TX0, 1), (RX1, TX1, 3), (RX2, TX2, 4), (RX3, TX3, 4), (RX4, TX4, 5), (RX5, TX5, 4), (RX6, TX6, 12)]
end
section
/-! THE BASE: names for values, guards, the world as one function of the state, derived rows over it -/
def lt_ {α β : Type} (a : α) (f : α → β) : β := f a
theorem lt_out {α β : Type} {a : α} {f : α → β} {r : β} (h : lt_ a f = r) : ∃ x, x = a ∧ f x = r := ⟨a, rfl, h⟩
def gd {α : Type} (b : Bool) (x : Option α) : Option α := match b with
  | true => x
  | false => none
theorem gd_out {α : Type} {b : Bool} {x : Option α} {r : α} (h : gd b x = some r) : b = true ∧ x = some r := by
  cases b
  · cases h
  · exact ⟨rfl, h⟩
def bd {α β : Type} (o : Option α) (f : α → Option β) : Option β := match o with
  | some a => f a
  | none => none
theorem bd_out {α β : Type} {o : Option α} {f : α → Option β} {r : β} (h : bd o f = some r) : ∃ a, o = some a ∧ f a = some r := by
  cases o
  · cases h
  · exact ⟨_, rfl, h⟩
theorem if_t {α : Type} {c : Prop} [Decidable c] {a b r : α} (hc : c) (h : (if c then a else b) = r) : a = r := by
  rw [if_pos hc] at h
  exact h
theorem if_f {α : Type} {c : Prop} [Decidable c] {a b r : α} (hc : ¬ c) (h : (if c then a else b) = r) : b = r := by
  rw [if_neg hc] at h
  exact h
def chk (i : Int32) (n : Nat) : Bool := decide (0 ≤ i.toInt ∧ i.toInt < n)
theorem chk_in {i : Int32} {n : Nat} (h : chk i n = true) : vp_in i n := vp_in_iff.mpr (of_decide_eq_true h)
def nz (i : Int32) : Bool := decide (i ≠ 0)
theorem nz_ne {i : Int32} (h : nz i = true) : ¬ i = 0 := of_decide_eq_true h
def nzl (i : Int64) : Bool := decide (i ≠ 0)
theorem nzl_ne {i : Int64} (h : nzl i = true) : ¬ i = 0 := of_decide_eq_true h
def isB (i : Int32) : Bool := decide (i = 0 ∨ i = 1)
theorem isB_nar {i : Int32} (h : isB i = true) : narrow .boolean (.int i) = .int i := by
  rcases of_decide_eq_true h with h | h <;> (subst h; rfl)
def sx {α β : Type} (r : Sum α Nat) (f : α → Option β) (g : Nat → Option β) : Option β := match r with
  | .inl a => f a
  | .inr c => g c
/-- a component of the state: cell, place -/
abbrev SL : Type := Nat → Nat → Int32
def up2 (L : SL) (k j : Nat) (v : Int32) : SL := va_up L k (upd (L k) j v)
theorem up_id {α : Type} (f : Nat → α) (k : Nat) : va_up f k (f k) = f := by
  funext j
  by_cases h : j = k
  · subst h; rw [va_up_self]
  · rw [va_up_ne _ _ h]
/-! the world: 97 cells, at the addresses ad; 0..4 the object and what is its own, 5..88 six lines of fourteen cells, 89..94 the reference, 95 and 96 the law's two arrays -/
def wE5 (cs : Nat → ClassId) (ad : Nat → Nat) (Hs T : SL) (p : Nat) : va_E :=
  if p = 0 then .inr (5, [.ref (ad (5 + 14 * 0 + 0)), .ref (ad (5 + 14 * 1 + 0)), .ref (ad 1), .ref (ad 3)])
  else if p = 1 then .inr (1, [.ref (ad 2), .int (Hs 0 1), .int (Hs 0 2)])
  else if p = 2 then .inl (cs 1, 4, .inr (.inr (.inr (.inr (fun j => some (ad (5 + 14 * (2 + j) + 0)))))))
  else if p = 3 then .inr (3, [.ref (ad 4), .int (T 0 1), .int (T 0 2), .int (T 0 3)])
  else .inl (cs 0, 120, .inl (T 1))
def wEL (cs : Nat → ClassId) (ad : Nat → Nat) (i k : Nat) (f : Nat → Int32) : va_E :=
  if k = 0 then .inr (2, [.ref (ad (5 + 14 * i + 1)), .ref (ad (5 + 14 * i + 10)), .int (f 2), .int (f 3)])
  else if k = 1 then .inl (cs 2, 8, .inr (.inr (.inr (.inr (fun m => some (ad (5 + 14 * i + (2 + m))))))))
  else if k < 10 then .inl (cs 0, 16, .inl f)
  else if k = 10 then .inr (4, [.ref (ad (5 + 14 * i + 11)), .ref (ad (5 + 14 * i + 12)), .ref (ad (5 + 14 * i + 13)), .int (f 3), .int (f 4)])
  else .inl (cs 0, 40, .inl f)
def mLen (k : Nat) : Nat := if k = 1 then 251 else if k = 2 then 1004 else if k = 3 then 251 else if k = 4 then 120 else 10001
def wEM (cs : Nat → ClassId) (ad : Nat → Nat) (dr hs : Int64) (k : Nat) (f : Nat → Int32) : va_E :=
  if k = 0 then .inr (6, [.ref (ad (89 + 1)), .ref (ad (89 + 2)), .ref (ad (89 + 3)), .int (f 3), .int (f 4), .ref (ad (89 + 4)), .int (f 6), .ref (ad (89 + 5)), .long dr, .int (f 9), .int (f 10), .long hs])
  else .inl (cs 0, mLen k, .inl f)
def wE (cs : Nat → ClassId) (ad : Nat → Nat) (Ls : Nat → SL) (Hs T M : SL) (dr hs o : Int64) (od : UInt64) (p : Nat) : va_E :=
  if p < 5 then wE5 cs ad Hs T p
  else if p < 89 then wEL cs ad ((p - 5) / 14) ((p - 5) % 14) (Ls ((p - 5) / 14) ((p - 5) % 14))
  else if p < 95 then wEM cs ad dr hs (p - 89) (M (p - 89))
  else if p = 95 then .inl (cs 3, 1, .inr (.inl (fun _ => o)))
  else .inl (cs 4, 1, .inr (.inr (.inr (.inl (fun _ => od)))))
def wMk (ad : Nat → Nat) (F : Nat → va_E) : va_W := (List.range 97).map (fun p => (ad p, F p))
abbrev wA (cs : Nat → ClassId) (ad : Nat → Nat) (Ls : Nat → SL) (Hs T M : SL) (dr hs o : Int64) (od : UInt64) : va_W := wMk ad (wE cs ad Ls Hs T M dr hs o od)
def adOK (ad : Nat → Nat) : Prop := ∀ i j : Nat, i < 97 → j < 97 → ad i = ad j → i = j
/-- which cells a method may change: the world's, and those that it makes -/
def Afr (ad : Nat → Nat) (sz : Nat) : Nat → Prop := fun q => (∃ p : Nat, p < 97 ∧ q = ad p) ∨ sz ≤ q
theorem Afr.mono {ad : Nat → Nat} {a b : Nat} (h : a ≤ b) {q : Nat} (hq : Afr ad b q) : Afr ad a q := hq.elim Or.inl (fun x => Or.inr (Nat.le_trans h x))
theorem wMk_len (ad : Nat → Nat) (F : Nat → va_E) : (wMk ad F).length = 97 := by simp [wMk]
theorem wMk_at {ad : Nat → Nat} {F : Nat → va_E} {p : Nat} (hp : p < 97) : (wMk ad F)[p]? = some (ad p, F p) := by
  unfold wMk
  rw [List.getElem?_map, List.getElem?_range hp]
  rfl
theorem wMk_inv {ad : Nat → Nat} {F : Nat → va_E} {p : Nat} {x : Nat × va_E} (h : (wMk ad F)[p]? = some x) : p < 97 ∧ x = (ad p, F p) := by
  have hp : p < 97 := by
    have := (List.getElem?_eq_some_iff.mp h).1
    rw [wMk_len] at this
    exact this
  refine ⟨hp, ?_⟩
  rw [wMk_at hp] at h
  exact (Option.some.inj h).symm
theorem wMk_set {ad : Nat → Nat} {F F' : Nat → va_E} {p : Nat} {e : va_E} (hp : p < 97) (he : F' p = e) (ho : ∀ q, q < 97 → q ≠ p → F' q = F q) : (wMk ad F).set p (ad p, e) = wMk ad F' := by
  refine List.ext_getElem? fun q => ?_
  by_cases hq : q = p
  · subst hq
    rw [List.getElem?_set_self (by rw [wMk_len]; exact hp), wMk_at hp, he]
  · rw [List.getElem?_set_ne (Ne.symm hq)]
    by_cases h9 : q < 97
    · rw [wMk_at h9, wMk_at h9, ho q h9 hq]
    · rw [List.getElem?_eq_none (by rw [wMk_len]; omega), List.getElem?_eq_none (by rw [wMk_len]; omega)]
theorem wMk_D {ad : Nat → Nat} {F : Nat → va_E} (h : adOK ad) (sz : Nat) : va_D (Afr ad sz) (wMk ad F) := by
  refine ⟨fun i j x y hi hj hxy => ?_, fun k q hk => ?_⟩
  · obtain ⟨h1, rfl⟩ := wMk_inv hi
    obtain ⟨h2, rfl⟩ := wMk_inv hj
    exact h i j h1 h2 hxy
  · obtain ⟨h1, rfl⟩ := wMk_inv hk
    exact Or.inl ⟨k, h1, rfl⟩
section WORLD
variable {cs : Nat → ClassId} {ad : Nat → Nat} {Ls : Nat → SL} {Hs T M : SL} {dr hs o : Int64} {od : UInt64}
theorem wE_L {i k : Nat} (hi : i < 6) (hk : k < 14) : wE cs ad Ls Hs T M dr hs o od (5 + 14 * i + k) = wEL cs ad i k (Ls i k) := by
  have e1 : (5 + 14 * i + k - 5) / 14 = i := by omega
  have e2 : (5 + 14 * i + k - 5) % 14 = k := by omega
  unfold wE
  rw [if_neg (by omega), if_pos (by omega), e1, e2]
theorem wE_M {k : Nat} (hk : k < 6) : wE cs ad Ls Hs T M dr hs o od (89 + k) = wEM cs ad dr hs k (M k) := by
  have e1 : 89 + k - 89 = k := by omega
  unfold wE
  rw [if_neg (by omega), if_neg (by omega), if_pos (by omega), e1]
theorem wE_5 {k : Nat} (hk : k < 5) : wE cs ad Ls Hs T M dr hs o od k = wE5 cs ad Hs T k := by
  unfold wE
  rw [if_pos hk]
/-- a line's cell is written -/
theorem wA_setL {i k : Nat} (hi : i < 6) (hk : k < 14) (f : Nat → Int32) : (wA cs ad Ls Hs T M dr hs o od).set (5 + 14 * i + k) (ad (5 + 14 * i + k), wEL cs ad i k f) = wA cs ad (va_up Ls i (va_up (Ls i) k f)) Hs T M dr hs o od := by
  refine wMk_set (by omega) ?_ fun q hq hne => ?_
  · rw [wE_L hi hk, va_up_self, va_up_self]
  · unfold wE
    by_cases h1 : q < 5
    · rw [if_pos h1, if_pos h1]
    · rw [if_neg h1, if_neg h1]
      by_cases h2 : q < 89
      · rw [if_pos h2, if_pos h2]
        by_cases h3 : (q - 5) / 14 = i
        · have h4 : (q - 5) % 14 ≠ k := by omega
          rw [h3, va_up_self, va_up_ne _ _ h4]
        · rw [va_up_ne _ _ h3]
      · rw [if_neg h2, if_neg h2]
theorem wA_setM {k : Nat} (hk : k < 6) (f : Nat → Int32) : (wA cs ad Ls Hs T M dr hs o od).set (89 + k) (ad (89 + k), wEM cs ad dr hs k f) = wA cs ad Ls Hs T (va_up M k f) dr hs o od := by
  refine wMk_set (by omega) ?_ fun q hq hne => ?_
  · rw [wE_M hk, va_up_self]
  · unfold wE
    by_cases h1 : q < 5
    · rw [if_pos h1, if_pos h1]
    · rw [if_neg h1, if_neg h1]
      by_cases h2 : q < 89
      · rw [if_pos h2, if_pos h2]
      · rw [if_neg h2, if_neg h2]
        by_cases h3 : q < 95
        · rw [if_pos h3, if_pos h3, va_up_ne _ _ (show q - 89 ≠ k by omega)]
        · rw [if_neg h3, if_neg h3]
theorem wA_setMl {d2 h2 : Int64} : (wA cs ad Ls Hs T M dr hs o od).set 89 (ad 89, wEM cs ad d2 h2 0 (M 0)) = wA cs ad Ls Hs T M d2 h2 o od := by
  refine wMk_set (by omega) ?_ fun q hq hne => ?_
  · exact wE_M (k := 0) (by omega)
  · unfold wE
    by_cases h1 : q < 5
    · rw [if_pos h1, if_pos h1]
    · rw [if_neg h1, if_neg h1]
      by_cases h2 : q < 89
      · rw [if_pos h2, if_pos h2]
      · rw [if_neg h2, if_neg h2]
        by_cases h3 : q < 95
        · rw [if_pos h3, if_pos h3]
          unfold wEM
          rw [if_neg (show q - 89 ≠ 0 by omega), if_neg (show q - 89 ≠ 0 by omega)]
        · rw [if_neg h3, if_neg h3]
theorem wA_set5 {k : Nat} (hk : k < 5) {H2 T2 : SL} {e : va_E} (he : wE5 cs ad H2 T2 k = e) (ho : ∀ q, q < 5 → q ≠ k → wE5 cs ad H2 T2 q = wE5 cs ad Hs T q) : (wA cs ad Ls Hs T M dr hs o od).set k (ad k, e) = wA cs ad Ls H2 T2 M dr hs o od := by
  refine wMk_set (by omega) ?_ fun q hq hne => ?_
  · rw [wE_5 hk, he]
  · unfold wE
    by_cases h1 : q < 5
    · rw [if_pos h1, if_pos h1, ho q h1 hne]
    · rw [if_neg h1, if_neg h1]
/-! what stands where: lines (c: any line; v: the line that a method works at) -/
theorem c_obj {i : Nat} (hi : i < 6) : (wA cs ad Ls Hs T M dr hs o od)[5 + 14 * i + 0]? = some (ad (5 + 14 * i + 0), .inr (2, [.ref (ad (5 + 14 * i + 1)), .ref (ad (5 + 14 * i + 10)), .int (Ls i 0 2), .int (Ls i 0 3)])) := by
  rw [wMk_at (by omega), wE_L hi (by omega)]; rfl
theorem c_rows {i : Nat} (hi : i < 6) : (wA cs ad Ls Hs T M dr hs o od)[5 + 14 * i + 1]? = some (ad (5 + 14 * i + 1), .inl (cs 2, 8, .inr (.inr (.inr (.inr (fun m => some (ad (5 + 14 * i + (2 + m))))))))) := by
  rw [wMk_at (by omega), wE_L hi (by omega)]; rfl
theorem wEL_row {i k : Nat} {f : Nat → Int32} (hk : 2 ≤ k ∧ k < 10) : wEL cs ad i k f = .inl (cs 0, 16, .inl f) := by
  unfold wEL
  rw [if_neg (by omega), if_neg (by omega), if_pos (by omega)]
theorem wEL_sar {i k : Nat} {f : Nat → Int32} (hk : 11 ≤ k ∧ k < 14) : wEL cs ad i k f = .inl (cs 0, 40, .inl f) := by
  unfold wEL
  rw [if_neg (by omega), if_neg (by omega), if_neg (by omega), if_neg (by omega)]
theorem c_row {i k : Nat} (hi : i < 6) (hk : 2 ≤ k ∧ k < 10) : (wA cs ad Ls Hs T M dr hs o od)[5 + 14 * i + k]? = some (ad (5 + 14 * i + k), .inl (cs 0, 16, .inl (Ls i k))) := by
  rw [wMk_at (by omega), wE_L hi (by omega), wEL_row hk]
theorem c_sar {i k : Nat} (hi : i < 6) (hk : 11 ≤ k ∧ k < 14) : (wA cs ad Ls Hs T M dr hs o od)[5 + 14 * i + k]? = some (ad (5 + 14 * i + k), .inl (cs 0, 40, .inl (Ls i k))) := by
  rw [wMk_at (by omega), wE_L hi (by omega), wEL_sar hk]
theorem c_sto {i : Nat} (hi : i < 6) : (wA cs ad Ls Hs T M dr hs o od)[5 + 14 * i + 10]? = some (ad (5 + 14 * i + 10), .inr (4, [.ref (ad (5 + 14 * i + 11)), .ref (ad (5 + 14 * i + 12)), .ref (ad (5 + 14 * i + 13)), .int (Ls i 10 3), .int (Ls i 10 4)])) := by
  rw [wMk_at (by omega), wE_L hi (by omega)]; rfl
theorem c_rowS {i k : Nat} (hi : i < 6) (hk : 2 ≤ k ∧ k < 10) {j : Nat} {x : Int32} : (wA cs ad Ls Hs T M dr hs o od).set (5 + 14 * i + k) (ad (5 + 14 * i + k), .inl (cs 0, 16, .inl (upd (Ls i k) j x))) = wA cs ad (va_up Ls i (up2 (Ls i) k j x)) Hs T M dr hs o od := by
  rw [← wEL_row (i := i) (ad := ad) hk, wA_setL hi (by omega)]; rfl
theorem c_sarS {i k : Nat} (hi : i < 6) (hk : 11 ≤ k ∧ k < 14) {j : Nat} {x : Int32} : (wA cs ad Ls Hs T M dr hs o od).set (5 + 14 * i + k) (ad (5 + 14 * i + k), .inl (cs 0, 40, .inl (upd (Ls i k) j x))) = wA cs ad (va_up Ls i (up2 (Ls i) k j x)) Hs T M dr hs o od := by
  rw [← wEL_sar (i := i) (ad := ad) hk, wA_setL hi (by omega)]; rfl
theorem c_rowF {i k : Nat} (hi : i < 6) (hk : 2 ≤ k ∧ k < 10) {f : Nat → Int32} : (wA cs ad Ls Hs T M dr hs o od).set (5 + 14 * i + k) (ad (5 + 14 * i + k), .inl (cs 0, 16, .inl f)) = wA cs ad (va_up Ls i (va_up (Ls i) k f)) Hs T M dr hs o od := by
  rw [← wEL_row (i := i) (ad := ad) hk, wA_setL hi (by omega)]
theorem c_sarF {i k : Nat} (hi : i < 6) (hk : 11 ≤ k ∧ k < 14) {f : Nat → Int32} : (wA cs ad Ls Hs T M dr hs o od).set (5 + 14 * i + k) (ad (5 + 14 * i + k), .inl (cs 0, 40, .inl f)) = wA cs ad (va_up Ls i (va_up (Ls i) k f)) Hs T M dr hs o od := by
  rw [← wEL_sar (i := i) (ad := ad) hk, wA_setL hi (by omega)]
theorem c_objS2 {i : Nat} (hi : i < 6) {x : Int32} : (wA cs ad Ls Hs T M dr hs o od).set (5 + 14 * i + 0) (ad (5 + 14 * i + 0), .inr (2, [.ref (ad (5 + 14 * i + 1)), .ref (ad (5 + 14 * i + 10)), .int x, .int (Ls i 0 3)])) = wA cs ad (va_up Ls i (up2 (Ls i) 0 2 x)) Hs T M dr hs o od := wA_setL hi (by omega) (upd (Ls i 0) 2 x)
theorem c_objS3 {i : Nat} (hi : i < 6) {x : Int32} : (wA cs ad Ls Hs T M dr hs o od).set (5 + 14 * i + 0) (ad (5 + 14 * i + 0), .inr (2, [.ref (ad (5 + 14 * i + 1)), .ref (ad (5 + 14 * i + 10)), .int (Ls i 0 2), .int x])) = wA cs ad (va_up Ls i (up2 (Ls i) 0 3 x)) Hs T M dr hs o od := wA_setL hi (by omega) (upd (Ls i 0) 3 x)
theorem c_stoS3 {i : Nat} (hi : i < 6) {x : Int32} : (wA cs ad Ls Hs T M dr hs o od).set (5 + 14 * i + 10) (ad (5 + 14 * i + 10), .inr (4, [.ref (ad (5 + 14 * i + 11)), .ref (ad (5 + 14 * i + 12)), .ref (ad (5 + 14 * i + 13)), .int x, .int (Ls i 10 4)])) = wA cs ad (va_up Ls i (up2 (Ls i) 10 3 x)) Hs T M dr hs o od := wA_setL hi (by omega) (upd (Ls i 10) 3 x)
theorem c_stoS4 {i : Nat} (hi : i < 6) {x : Int32} : (wA cs ad Ls Hs T M dr hs o od).set (5 + 14 * i + 10) (ad (5 + 14 * i + 10), .inr (4, [.ref (ad (5 + 14 * i + 11)), .ref (ad (5 + 14 * i + 12)), .ref (ad (5 + 14 * i + 13)), .int (Ls i 10 3), .int x])) = wA cs ad (va_up Ls i (up2 (Ls i) 10 4 x)) Hs T M dr hs o od := wA_setL hi (by omega) (upd (Ls i 10) 4 x)
variable {L : SL}
theorem v_obj {i : Nat} (hi : i < 6) : (wA cs ad (va_up Ls i L) Hs T M dr hs o od)[5 + 14 * i + 0]? = some (ad (5 + 14 * i + 0), .inr (2, [.ref (ad (5 + 14 * i + 1)), .ref (ad (5 + 14 * i + 10)), .int (L 0 2), .int (L 0 3)])) := by
  rw [c_obj hi, va_up_self]
theorem v_rows {i : Nat} (hi : i < 6) : (wA cs ad (va_up Ls i L) Hs T M dr hs o od)[5 + 14 * i + 1]? = some (ad (5 + 14 * i + 1), .inl (cs 2, 8, .inr (.inr (.inr (.inr (fun m => some (ad (5 + 14 * i + (2 + m))))))))) := c_rows hi
theorem v_row {i k : Nat} (hi : i < 6) (hk : 2 ≤ k ∧ k < 10) : (wA cs ad (va_up Ls i L) Hs T M dr hs o od)[5 + 14 * i + k]? = some (ad (5 + 14 * i + k), .inl (cs 0, 16, .inl (L k))) := by
  rw [c_row hi hk, va_up_self]
theorem v_sar {i k : Nat} (hi : i < 6) (hk : 11 ≤ k ∧ k < 14) : (wA cs ad (va_up Ls i L) Hs T M dr hs o od)[5 + 14 * i + k]? = some (ad (5 + 14 * i + k), .inl (cs 0, 40, .inl (L k))) := by
  rw [c_sar hi hk, va_up_self]
theorem v_sto {i : Nat} (hi : i < 6) : (wA cs ad (va_up Ls i L) Hs T M dr hs o od)[5 + 14 * i + 10]? = some (ad (5 + 14 * i + 10), .inr (4, [.ref (ad (5 + 14 * i + 11)), .ref (ad (5 + 14 * i + 12)), .ref (ad (5 + 14 * i + 13)), .int (L 10 3), .int (L 10 4)])) := by
  rw [c_sto hi, va_up_self]
theorem v_rowS {i k : Nat} (hi : i < 6) (hk : 2 ≤ k ∧ k < 10) {j : Nat} {x : Int32} : (wA cs ad (va_up Ls i L) Hs T M dr hs o od).set (5 + 14 * i + k) (ad (5 + 14 * i + k), .inl (cs 0, 16, .inl (upd (L k) j x))) = wA cs ad (va_up Ls i (up2 L k j x)) Hs T M dr hs o od := by
  have h := c_rowS (cs := cs) (ad := ad) (Ls := va_up Ls i L) (Hs := Hs) (T := T) (M := M) (dr := dr) (hs := hs) (o := o) (od := od) hi hk (j := j) (x := x)
  rw [va_up_self, bx_uu] at h
  exact h
theorem v_sarS {i k : Nat} (hi : i < 6) (hk : 11 ≤ k ∧ k < 14) {j : Nat} {x : Int32} : (wA cs ad (va_up Ls i L) Hs T M dr hs o od).set (5 + 14 * i + k) (ad (5 + 14 * i + k), .inl (cs 0, 40, .inl (upd (L k) j x))) = wA cs ad (va_up Ls i (up2 L k j x)) Hs T M dr hs o od := by
  have h := c_sarS (cs := cs) (ad := ad) (Ls := va_up Ls i L) (Hs := Hs) (T := T) (M := M) (dr := dr) (hs := hs) (o := o) (od := od) hi hk (j := j) (x := x)
  rw [va_up_self, bx_uu] at h
  exact h
theorem v_objS2 {i : Nat} (hi : i < 6) {x : Int32} : (wA cs ad (va_up Ls i L) Hs T M dr hs o od).set (5 + 14 * i + 0) (ad (5 + 14 * i + 0), .inr (2, [.ref (ad (5 + 14 * i + 1)), .ref (ad (5 + 14 * i + 10)), .int x, .int (L 0 3)])) = wA cs ad (va_up Ls i (up2 L 0 2 x)) Hs T M dr hs o od := by
  have h := c_objS2 (cs := cs) (ad := ad) (Ls := va_up Ls i L) (Hs := Hs) (T := T) (M := M) (dr := dr) (hs := hs) (o := o) (od := od) hi (x := x)
  rw [va_up_self, bx_uu] at h
  exact h
theorem v_objS3 {i : Nat} (hi : i < 6) {x : Int32} : (wA cs ad (va_up Ls i L) Hs T M dr hs o od).set (5 + 14 * i + 0) (ad (5 + 14 * i + 0), .inr (2, [.ref (ad (5 + 14 * i + 1)), .ref (ad (5 + 14 * i + 10)), .int (L 0 2), .int x])) = wA cs ad (va_up Ls i (up2 L 0 3 x)) Hs T M dr hs o od := by
  have h := c_objS3 (cs := cs) (ad := ad) (Ls := va_up Ls i L) (Hs := Hs) (T := T) (M := M) (dr := dr) (hs := hs) (o := o) (od := od) hi (x := x)
  rw [va_up_self, bx_uu] at h
  exact h
theorem v_stoS3 {i : Nat} (hi : i < 6) {x : Int32} : (wA cs ad (va_up Ls i L) Hs T M dr hs o od).set (5 + 14 * i + 10) (ad (5 + 14 * i + 10), .inr (4, [.ref (ad (5 + 14 * i + 11)), .ref (ad (5 + 14 * i + 12)), .ref (ad (5 + 14 * i + 13)), .int x, .int (L 10 4)])) = wA cs ad (va_up Ls i (up2 L 10 3 x)) Hs T M dr hs o od := by
  have h := c_stoS3 (cs := cs) (ad := ad) (Ls := va_up Ls i L) (Hs := Hs) (T := T) (M := M) (dr := dr) (hs := hs) (o := o) (od := od) hi (x := x)
  rw [va_up_self, bx_uu] at h
  exact h
theorem v_stoS4 {i : Nat} (hi : i < 6) {x : Int32} : (wA cs ad (va_up Ls i L) Hs T M dr hs o od).set (5 + 14 * i + 10) (ad (5 + 14 * i + 10), .inr (4, [.ref (ad (5 + 14 * i + 11)), .ref (ad (5 + 14 * i + 12)), .ref (ad (5 + 14 * i + 13)), .int (L 10 3), .int x])) = wA cs ad (va_up Ls i (up2 L 10 4 x)) Hs T M dr hs o od := by
  have h := c_stoS4 (cs := cs) (ad := ad) (Ls := va_up Ls i L) (Hs := Hs) (T := T) (M := M) (dr := dr) (hs := hs) (o := o) (od := od) hi (x := x)
  rw [va_up_self, bx_uu] at h
  exact h
/-! the object, the history, the text -/
theorem g_obj : (wA cs ad Ls Hs T M dr hs o od)[0]? = some (ad 0, .inr (5, [.ref (ad (5 + 14 * 0 + 0)), .ref (ad (5 + 14 * 1 + 0)), .ref (ad 1), .ref (ad 3)])) := wMk_at (by omega)
theorem g_his : (wA cs ad Ls Hs T M dr hs o od)[1]? = some (ad 1, .inr (1, [.ref (ad 2), .int (Hs 0 1), .int (Hs 0 2)])) := wMk_at (by omega)
theorem g_pla : (wA cs ad Ls Hs T M dr hs o od)[2]? = some (ad 2, .inl (cs 1, 4, .inr (.inr (.inr (.inr (fun j => some (ad (5 + 14 * (2 + j) + 0)))))))) := wMk_at (by omega)
theorem g_txt : (wA cs ad Ls Hs T M dr hs o od)[3]? = some (ad 3, .inr (3, [.ref (ad 4), .int (T 0 1), .int (T 0 2), .int (T 0 3)])) := wMk_at (by omega)
theorem g_byt : (wA cs ad Ls Hs T M dr hs o od)[4]? = some (ad 4, .inl (cs 0, 120, .inl (T 1))) := wMk_at (by omega)
theorem five {P : Nat → Prop} (h0 : P 0) (h1 : P 1) (h2 : P 2) (h3 : P 3) (h4 : P 4) : ∀ q, q < 5 → P q := fun q hq => by
  match q, hq with
  | 0, _ => exact h0
  | 1, _ => exact h1
  | 2, _ => exact h2
  | 3, _ => exact h3
  | 4, _ => exact h4
theorem g_hisS1 {x : Int32} : (wA cs ad Ls Hs T M dr hs o od).set 1 (ad 1, .inr (1, [.ref (ad 2), .int x, .int (Hs 0 2)])) = wA cs ad Ls (up2 Hs 0 1 x) T M dr hs o od := wA_set5 (by omega) rfl (five (fun _ => rfl) (fun h => absurd rfl h) (fun _ => rfl) (fun _ => rfl) (fun _ => rfl))
theorem g_hisS2 {x : Int32} : (wA cs ad Ls Hs T M dr hs o od).set 1 (ad 1, .inr (1, [.ref (ad 2), .int (Hs 0 1), .int x])) = wA cs ad Ls (up2 Hs 0 2 x) T M dr hs o od := wA_set5 (by omega) rfl (five (fun _ => rfl) (fun h => absurd rfl h) (fun _ => rfl) (fun _ => rfl) (fun _ => rfl))
theorem g_txtS1 {x : Int32} : (wA cs ad Ls Hs T M dr hs o od).set 3 (ad 3, .inr (3, [.ref (ad 4), .int x, .int (T 0 2), .int (T 0 3)])) = wA cs ad Ls Hs (up2 T 0 1 x) M dr hs o od := wA_set5 (by omega) rfl (five (fun _ => rfl) (fun _ => rfl) (fun _ => rfl) (fun h => absurd rfl h) (fun _ => rfl))
theorem g_txtS2 {x : Int32} : (wA cs ad Ls Hs T M dr hs o od).set 3 (ad 3, .inr (3, [.ref (ad 4), .int (T 0 1), .int x, .int (T 0 3)])) = wA cs ad Ls Hs (up2 T 0 2 x) M dr hs o od := wA_set5 (by omega) rfl (five (fun _ => rfl) (fun _ => rfl) (fun _ => rfl) (fun h => absurd rfl h) (fun _ => rfl))
theorem g_txtS3 {x : Int32} : (wA cs ad Ls Hs T M dr hs o od).set 3 (ad 3, .inr (3, [.ref (ad 4), .int (T 0 1), .int (T 0 2), .int x])) = wA cs ad Ls Hs (up2 T 0 3 x) M dr hs o od := wA_set5 (by omega) rfl (five (fun _ => rfl) (fun _ => rfl) (fun _ => rfl) (fun h => absurd rfl h) (fun _ => rfl))
theorem g_bytS {j : Nat} {x : Int32} : (wA cs ad Ls Hs T M dr hs o od).set 4 (ad 4, .inl (cs 0, 120, .inl (upd (T 1) j x))) = wA cs ad Ls Hs (up2 T 1 j x) M dr hs o od := wA_set5 (by omega) rfl (five (fun _ => rfl) (fun _ => rfl) (fun _ => rfl) (fun _ => rfl) (fun h => absurd rfl h))
/-! the reference -/
theorem r_obj : (wA cs ad Ls Hs T M dr hs o od)[89]? = some (ad 89, .inr (6, [.ref (ad (89 + 1)), .ref (ad (89 + 2)), .ref (ad (89 + 3)), .int (M 0 3), .int (M 0 4), .ref (ad (89 + 4)), .int (M 0 6), .ref (ad (89 + 5)), .long dr, .int (M 0 9), .int (M 0 10), .long hs])) := by
  rw [wMk_at (by omega)]; rfl
theorem r_arr {k : Nat} (hk : 1 ≤ k ∧ k < 6) : (wA cs ad Ls Hs T M dr hs o od)[89 + k]? = some (ad (89 + k), .inl (cs 0, mLen k, .inl (M k))) := by
  rw [wMk_at (by omega), wE_M (by omega)]
  unfold wEM
  rw [if_neg (by omega)]
theorem r_arrS {k : Nat} (hk : 1 ≤ k ∧ k < 6) {j : Nat} {x : Int32} : (wA cs ad Ls Hs T M dr hs o od).set (89 + k) (ad (89 + k), .inl (cs 0, mLen k, .inl (upd (M k) j x))) = wA cs ad Ls Hs T (up2 M k j x) dr hs o od := by
  have h := wA_setM (cs := cs) (ad := ad) (Ls := Ls) (Hs := Hs) (T := T) (M := M) (dr := dr) (hs := hs) (o := o) (od := od) (k := k) (by omega) (upd (M k) j x)
  unfold wEM at h
  rw [if_neg (by omega)] at h
  exact h
theorem r_objS3 {x : Int32} : (wA cs ad Ls Hs T M dr hs o od).set 89 (ad 89, .inr (6, [.ref (ad (89 + 1)), .ref (ad (89 + 2)), .ref (ad (89 + 3)), .int x, .int (M 0 4), .ref (ad (89 + 4)), .int (M 0 6), .ref (ad (89 + 5)), .long dr, .int (M 0 9), .int (M 0 10), .long hs])) = wA cs ad Ls Hs T (up2 M 0 3 x) dr hs o od := wA_setM (k := 0) (by omega) (upd (M 0) 3 x)
theorem r_objS4 {x : Int32} : (wA cs ad Ls Hs T M dr hs o od).set 89 (ad 89, .inr (6, [.ref (ad (89 + 1)), .ref (ad (89 + 2)), .ref (ad (89 + 3)), .int (M 0 3), .int x, .ref (ad (89 + 4)), .int (M 0 6), .ref (ad (89 + 5)), .long dr, .int (M 0 9), .int (M 0 10), .long hs])) = wA cs ad Ls Hs T (up2 M 0 4 x) dr hs o od := wA_setM (k := 0) (by omega) (upd (M 0) 4 x)
theorem r_objS6 {x : Int32} : (wA cs ad Ls Hs T M dr hs o od).set 89 (ad 89, .inr (6, [.ref (ad (89 + 1)), .ref (ad (89 + 2)), .ref (ad (89 + 3)), .int (M 0 3), .int (M 0 4), .ref (ad (89 + 4)), .int x, .ref (ad (89 + 5)), .long dr, .int (M 0 9), .int (M 0 10), .long hs])) = wA cs ad Ls Hs T (up2 M 0 6 x) dr hs o od := wA_setM (k := 0) (by omega) (upd (M 0) 6 x)
theorem r_objS9 {x : Int32} : (wA cs ad Ls Hs T M dr hs o od).set 89 (ad 89, .inr (6, [.ref (ad (89 + 1)), .ref (ad (89 + 2)), .ref (ad (89 + 3)), .int (M 0 3), .int (M 0 4), .ref (ad (89 + 4)), .int (M 0 6), .ref (ad (89 + 5)), .long dr, .int x, .int (M 0 10), .long hs])) = wA cs ad Ls Hs T (up2 M 0 9 x) dr hs o od := wA_setM (k := 0) (by omega) (upd (M 0) 9 x)
theorem r_objS10 {x : Int32} : (wA cs ad Ls Hs T M dr hs o od).set 89 (ad 89, .inr (6, [.ref (ad (89 + 1)), .ref (ad (89 + 2)), .ref (ad (89 + 3)), .int (M 0 3), .int (M 0 4), .ref (ad (89 + 4)), .int (M 0 6), .ref (ad (89 + 5)), .long dr, .int (M 0 9), .int x, .long hs])) = wA cs ad Ls Hs T (up2 M 0 10 x) dr hs o od := wA_setM (k := 0) (by omega) (upd (M 0) 10 x)
theorem r_objS8 {x : Int64} : (wA cs ad Ls Hs T M dr hs o od).set 89 (ad 89, .inr (6, [.ref (ad (89 + 1)), .ref (ad (89 + 2)), .ref (ad (89 + 3)), .int (M 0 3), .int (M 0 4), .ref (ad (89 + 4)), .int (M 0 6), .ref (ad (89 + 5)), .long x, .int (M 0 9), .int (M 0 10), .long hs])) = wA cs ad Ls Hs T M x hs o od := wA_setMl
theorem r_objS11 {x : Int64} : (wA cs ad Ls Hs T M dr hs o od).set 89 (ad 89, .inr (6, [.ref (ad (89 + 1)), .ref (ad (89 + 2)), .ref (ad (89 + 3)), .int (M 0 3), .int (M 0 4), .ref (ad (89 + 4)), .int (M 0 6), .ref (ad (89 + 5)), .long dr, .int (M 0 9), .int (M 0 10), .long x])) = wA cs ad Ls Hs T M dr x o od := wA_setMl
/-! the law's two arrays -/
theorem o_out : (wA cs ad Ls Hs T M dr hs o od)[95]? = some (ad 95, .inl (cs 3, 1, .inr (.inl (fun _ => o)))) := wMk_at (by omega)
theorem o_outD : (wA cs ad Ls Hs T M dr hs o od)[96]? = some (ad 96, .inl (cs 4, 1, .inr (.inr (.inr (.inl (fun _ => od)))))) := wMk_at (by omega)
end WORLD
end
section
/-! derived rows: a method's standing facts C, G; the world hP; what was written hS -/
abbrev tyA (cs : Nat → ClassId) : List (ClassId × FieldType) := [(cs 0, .int), (cs 1, .object RX2), (cs 2, .array .int), (cs 3, .long), (cs 4, .double)]
def Cx (p : Program) (s : State) (m : MethodId) (args : Array Value) (meth : Method) (c : Code) (cc : ByteArray) (nL : Nat) (ret : Option FieldType) (own : String) (ws : List Cond) : Prop :=
  p.tables.exec = Jvm.exec ∧ c.code = cc ∧ c.maxLocals = nL ∧ meth.sig.returnType = ret ∧ s.vm.findClass own = some m.cls ∧ (∀ w ∈ ws, w.before args s = true) ∧ meth.locks = false
/-- links among nest mates: fields, methods -/
def nwF : List (String × Nat × String × String × String) := [("LineBuffers$Line", 40, "LineBuffers$Stops", "planned", "I"), ("LineBuffers", 90, "LineBuffers$Stops", "planned", "I"), ("LineBuffers", 74, "LineBuffers$Line", "rows", "[[I"), ("LineBuffers", 86, "LineBuffers$Line", "stops", "LLineBuffers$Stops;"), ("LineBuffers", 48, "LineBuffers$Line", "machines", "I"), ("LineBuffers$LineText", 38, "LineBuffers$Line", "machines", "I"), ("LineBuffers", 52, "LineBuffers$Line", "tick", "I"), ("LineBuffers", 191, "LineBuffers$History", "saved", "I"), ("LineBuffers", 175, "LineBuffers$LineText", "length", "I")]
def nwM : List (String × Nat × MethodName) := [("LineBuffers", 9, ⟨"LineBuffers$Line", "<init>", "()V"⟩), ("LineBuffers$Line", 18, ⟨"LineBuffers$Stops", "<init>", "()V"⟩), ("LineBuffers$History", 17, ⟨"LineBuffers$Line", "<init>", "()V"⟩), ("LineBuffers", 28, ⟨"LineBuffers$LineText", "<init>", "()V"⟩), ("LineBuffers$LineText", 63, ⟨"LineBuffers", "isIn", "(III)Z"⟩)]
def NW (U : State) : Prop := (∀ q ∈ nwF, va_Nw (.fieldLinkNest q.1 q.2.1 q.2.2.1 q.2.2.2.1 q.2.2.2.2 "LineBuffers") U) ∧ ∀ q ∈ nwM, va_Nw (.methodLinkNest q.1 q.2.1 q.2.2 "LineBuffers") U
theorem NW.warm {s U : State} (hW : s.WarmedH U.vm) (h : NW s) : NW U := ⟨fun q hq => va_Nw.warmF hW (h.1 q hq), fun q hq => va_Nw.warmM hW (h.2 q hq)⟩
theorem NW.same {u U : State} (hv : u.vm = U.vm) (h : NW u) : NW U := ⟨fun q hq => va_Nw.same rfl hv (h.1 q hq), fun q hq => va_Nw.same rfl hv (h.2 q hq)⟩
def Gx (D : va_G) (cs : Nat → ClassId) (ad : Nat → Nat) (s : State) : Prop := va_K D vwCl (tyA cs) s ∧ adOK ad ∧ NW s
def PA (D : va_G) (cs : Nat → ClassId) (sz : Nat) (w : va_W) (av : List Value) : Array Value → State → Prop := va_Pc av (fun U => U.heap.size = sz ∧ va_P D vwCl w U.heap ∧ va_K D vwCl (tyA cs) U ∧ NW U)
theorem PA_blind {D : va_G} {cs : Nat → ClassId} {sz : Nat} {w : va_W} {av : List Value} : FrameBlind (PA D cs sz w av) := by
  intro a U g mk h
  obtain ⟨h1, h2, h3, h4, h5⟩ := h
  exact ⟨h1, h2, h3, va_K.moved (u := U) (U := U.calling g mk a) (Vm.Alike.refl U.vm) h4, NW.same (u := U) (U := U.calling g mk a) rfl h5⟩
theorem row_k {i : Int32} {k : Nat} (h : vp_in i 8) (e : k = 2 + i.toNatClampNeg) : 2 ≤ k ∧ k < 10 := by
  have : i.toNatClampNeg < 8 := Nat.not_le.mp fun q => h (Or.inr q)
  omega
theorem pla_j {i : Int32} {k : Nat} (h : vp_in i 4) (e : k = 2 + i.toNatClampNeg) : k < 6 := by
  have : i.toNatClampNeg < 4 := Nat.not_le.mp fun q => h (Or.inr q)
  omega
def cpo (n : Int32) (a b : Nat) : Bool := decide (¬ n < 0 ∧ n.toNatClampNeg ≤ a ∧ n.toNatClampNeg ≤ b)
theorem cpo_out {n : Int32} {a b : Nat} (h : cpo n a b = true) : ¬ n < 0 ∧ n.toNatClampNeg ≤ a ∧ n.toNatClampNeg ≤ b := of_decide_eq_true h
def bd2 {α β γ : Type} (o : Option (α × β)) (f : α → β → Option γ) : Option γ := match o with
  | some (a, b) => f a b
  | none => none
theorem bd2_out {α β γ : Type} {o : Option (α × β)} {f : α → β → Option γ} {r : γ} (h : bd2 o f = some r) : ∃ a b, o = some (a, b) ∧ f a b = some r := by
  match o, h with
  | none, h => cases h
  | some (a, b), h => exact ⟨a, b, rfl, h⟩
def bd3 {α β γ δ : Type} (o : Option (α × β × γ)) (f : α → β → γ → Option δ) : Option δ := match o with
  | some (a, b, c) => f a b c
  | none => none
theorem bd3_out {α β γ δ : Type} {o : Option (α × β × γ)} {f : α → β → γ → Option δ} {r : δ} (h : bd3 o f = some r) : ∃ a b c, o = some (a, b, c) ∧ f a b c = some r := by
  match o, h with
  | none, h => cases h
  | some (a, b, c), h => exact ⟨a, b, c, rfl, h⟩
def bd4 {α β γ δ ε : Type} (o : Option (α × β × γ × δ)) (f : α → β → γ → δ → Option ε) : Option ε := match o with
  | some (a, b, c, d) => f a b c d
  | none => none
theorem bd4_out {α β γ δ ε : Type} {o : Option (α × β × γ × δ)} {f : α → β → γ → δ → Option ε} {r : ε} (h : bd4 o f = some r) : ∃ a b c d, o = some (a, b, c, d) ∧ f a b c d = some r := by
  match o, h with
  | none, h => cases h
  | some (a, b, c, d), h => exact ⟨a, b, c, d, rfl, h⟩
/-- how many turns a loop is given: more than any has -/
def fuel : Nat := 20000
theorem up_in {D : va_G} {cs : Nat → ClassId} {ad : Nat → Nat} {Ls : Nat → SL} {Hs T M : SL} {dr hs o : Int64} {od : UInt64} {H : Heap} {i : Nat} (h : va_P D vwCl (wA cs ad Ls Hs T M dr hs o od) H) : va_P D vwCl (wA cs ad (va_up Ls i (Ls i)) Hs T M dr hs o od) H := by
  rw [up_id]; exact h
theorem up_ou {D : va_G} {cs : Nat → ClassId} {ad : Nat → Nat} {Ls : Nat → SL} {Hs T M : SL} {dr hs o : Int64} {od : UInt64} {H : Heap} {i : Nat} (h : va_P D vwCl (wA cs ad (va_up Ls i (Ls i)) Hs T M dr hs o od) H) : va_P D vwCl (wA cs ad Ls Hs T M dr hs o od) H := by
  rw [up_id] at h; exact h
section ROWS
variable {p : Program} {l : Launch} {e : Env} {R : Room} {s : State} {m : MethodId} {args : Array Value} {below : List Frame} {meth : Method} {c : Code} {H : Heap} {locs : List Loc} {cells slots : Nat} {Q : State → Prop}
variable {cc : ByteArray} {pc : Nat} {ls : Array Slot} {rest : List Value} {nL : Nat} {ret : Option FieldType} {own : String} {ws : List Cond} {D : va_G} {cs : Nat → ClassId} {ad : Nat → Nat}
theorem k_getf (C : Cx p s m args meth c cc nL ret own ws) (G : Gx D cs ad s) {w : va_W} (hP : va_P D vwCl w H) {q a ci : Nat} {fs : List Value} (he : w[q]? = some (a, .inr (ci, fs))) {Cn : String} {T : u_T} {N : Nat} (hc : vwCl[ci]? = some (Cn, T, N)) (k : Nat) (hk : k < N) (hin : ∀ x ∈ u_ws Cn T N, x ∈ ws) {index : Nat} (hw : Cond.fieldLink own index (T k).1 (T k).2.1 (T k).2.2.1 ∈ ws) {v : Value} (hv : fs[k]? = some v) (d : decode cc pc = .ok (.getfield index, 3))
    (kk : W p l e R s m args below meth c H locs cells slots Q (F0 m (pc + 3) ls (v :: rest))) : W p l e R s m args below meth c H locs cells slots Q (F0 m pc ls (.ref a :: rest)) := by
  obtain ⟨hx, hb, hml, hr, hown, hts, hlk⟩ := C
  exact va_get hx hb hts hin hown G.1 hP q he hc k hk (hts _ hw) (fun _ h => h) hv d kk
theorem k_geti (C : Cx p s m args meth c cc nL ret own ws) (G : Gx D cs ad s) {w : va_W} (hP : va_P D vwCl w H) {q a ci : Nat} {fs : List Value} (he : w[q]? = some (a, .inr (ci, fs))) {Cn : String} {T : u_T} {N : Nat} (hc : vwCl[ci]? = some (Cn, T, N)) (k : Nat) (hk : k < N) (hin : ∀ x ∈ u_ws Cn T N, x ∈ ws) {index : Nat} (hw : Cond.fieldLink own index (T k).1 (T k).2.1 (T k).2.2.1 ∈ ws) {x z : Int32} (hv : fs[k]? = some (.int x)) (ez : z = x) (d : decode cc pc = .ok (.getfield index, 3))
    (kk : W p l e R s m args below meth c H locs cells slots Q (F0 m (pc + 3) ls (.int z :: rest))) : W p l e R s m args below meth c H locs cells slots Q (F0 m pc ls (.ref a :: rest)) := by
  subst ez
  exact k_getf C G hP he hc k hk hin hw hv d kk
theorem k_getl (C : Cx p s m args meth c cc nL ret own ws) (G : Gx D cs ad s) {w : va_W} (hP : va_P D vwCl w H) {q a ci : Nat} {fs : List Value} (he : w[q]? = some (a, .inr (ci, fs))) {Cn : String} {T : u_T} {N : Nat} (hc : vwCl[ci]? = some (Cn, T, N)) (k : Nat) (hk : k < N) (hin : ∀ x ∈ u_ws Cn T N, x ∈ ws) {index : Nat} (hw : Cond.fieldLink own index (T k).1 (T k).2.1 (T k).2.2.1 ∈ ws) {x z : Int64} (hv : fs[k]? = some (.long x)) (ez : z = x) (d : decode cc pc = .ok (.getfield index, 3))
    (kk : W p l e R s m args below meth c H locs cells slots Q (F0 m (pc + 3) ls (.long z :: rest))) : W p l e R s m args below meth c H locs cells slots Q (F0 m pc ls (.ref a :: rest)) := by
  subst ez
  exact k_getf C G hP he hc k hk hin hw hv d kk
theorem k_puti (C : Cx p s m args meth c cc nL ret own ws) (G : Gx D cs ad s) {F F' : Nat → va_E} (hP : va_P D vwCl (wMk ad F) H) (hS : va_S (Afr ad s.heap.size) s.heap H locs) {q a ci : Nat} {fs : List Value} (he : (wMk ad F)[q]? = some (a, .inr (ci, fs))) {Cn : String} {T : u_T} {N : Nat} (hc : vwCl[ci]? = some (Cn, T, N)) (k : Nat) (hk : k < N) (hin : ∀ x ∈ u_ws Cn T N, x ∈ ws) {index : Nat} (hw : Cond.fieldLink own index (T k).1 (T k).2.1 (T k).2.2.1 ∈ ws) {ty0 : Nat → FieldType} (hty : ∀ k, k < N → parseFieldDescriptor (T k).2.2.1 = some (ty0 k)) (hnm : ∀ a, a < N → ∀ b, b < N → a ≠ b → (T a).2.1 ≠ (T b).2.1) (hfin : (T k).2.2.2 = false) (hd : parseFieldDescriptor (T k).2.2.1 = some .int) (hl : k < fs.length) {x : Int32} (hset : (wMk ad F).set q (a, .inr (ci, fs.set k (.int x))) = wMk ad F') (d : decode cc pc = .ok (.putfield index, 3))
    (kk : ∀ (H1 : Heap) (locs1 : List Loc), va_P D vwCl (wMk ad F') H1 → va_S (Afr ad s.heap.size) s.heap H1 locs1 → W p l e R s m args below meth c H1 locs1 cells slots Q (F0 m (pc + 3) ls rest)) : W p l e R s m args below meth c H locs cells slots Q (F0 m pc ls (.int x :: .ref a :: rest)) := by
  obtain ⟨hx, hb, hml, hr, hown, hts, hlk⟩ := C
  refine va_put hx hb hts hin ty0 hty hnm hown G.1 hP (wMk_D G.2.1 _) hS q he hc k hk (hts _ hw) (fun _ h => h) hfin hd rfl rfl hl d (fun H1 locs1 h1 h2 h3 => ?_)
  rw [hset] at h1
  exact kk H1 locs1 h1 h3
theorem k_putl (C : Cx p s m args meth c cc nL ret own ws) (G : Gx D cs ad s) {F F' : Nat → va_E} (hP : va_P D vwCl (wMk ad F) H) (hS : va_S (Afr ad s.heap.size) s.heap H locs) {q a ci : Nat} {fs : List Value} (he : (wMk ad F)[q]? = some (a, .inr (ci, fs))) {Cn : String} {T : u_T} {N : Nat} (hc : vwCl[ci]? = some (Cn, T, N)) (k : Nat) (hk : k < N) (hin : ∀ x ∈ u_ws Cn T N, x ∈ ws) {index : Nat} (hw : Cond.fieldLink own index (T k).1 (T k).2.1 (T k).2.2.1 ∈ ws) {ty0 : Nat → FieldType} (hty : ∀ k, k < N → parseFieldDescriptor (T k).2.2.1 = some (ty0 k)) (hnm : ∀ a, a < N → ∀ b, b < N → a ≠ b → (T a).2.1 ≠ (T b).2.1) (hfin : (T k).2.2.2 = false) (hd : parseFieldDescriptor (T k).2.2.1 = some .long) (hl : k < fs.length) {x : Int64} (hset : (wMk ad F).set q (a, .inr (ci, fs.set k (.long x))) = wMk ad F') (d : decode cc pc = .ok (.putfield index, 3))
    (kk : ∀ (H1 : Heap) (locs1 : List Loc), va_P D vwCl (wMk ad F') H1 → va_S (Afr ad s.heap.size) s.heap H1 locs1 → W p l e R s m args below meth c H1 locs1 cells slots Q (F0 m (pc + 3) ls rest)) : W p l e R s m args below meth c H locs cells slots Q (F0 m pc ls (.long x :: .ref a :: rest)) := by
  obtain ⟨hx, hb, hml, hr, hown, hts, hlk⟩ := C
  refine va_put hx hb hts hin ty0 hty hnm hown G.1 hP (wMk_D G.2.1 _) hS q he hc k hk (hts _ hw) (fun _ h => h) hfin hd rfl rfl hl d (fun H1 locs1 h1 h2 h3 => ?_)
  rw [hset] at h1
  exact kk H1 locs1 h1 h3
theorem k_iald (C : Cx p s m args meth c cc nL ret own ws) (G : Gx D cs ad s) {w : va_W} (hP : va_P D vwCl w H) {q a n : Nat} {f : Nat → Int32} (he : w[q]? = some (a, .inl (cs 0, n, .inl f))) {i z : Int32} {j : Nat} (hin : vp_in i n) (hj : i.toNatClampNeg = j) (ez : z = f j) (d : decode cc pc = .ok (.iaload, 1))
    (kk : W p l e R s m args below meth c H locs cells slots Q (F0 m (pc + 1) ls (.int z :: rest))) : W p l e R s m args below meth c H locs cells slots Q (F0 m pc ls (.int i :: .ref a :: rest)) := by
  subst hj
  subst ez
  obtain ⟨hx, hb, hml, hr, hown, hts, hlk⟩ := C
  exact va_iald hx hb G.1 hP q 0 he rfl hin d kk
theorem k_iast (C : Cx p s m args meth c cc nL ret own ws) (G : Gx D cs ad s) {F F' : Nat → va_E} (hP : va_P D vwCl (wMk ad F) H) (hS : va_S (Afr ad s.heap.size) s.heap H locs) {q a n : Nat} {f : Nat → Int32} (he : (wMk ad F)[q]? = some (a, .inl (cs 0, n, .inl f))) {i x : Int32} {j : Nat} (hin : vp_in i n) (hj : i.toNatClampNeg = j) (hset : (wMk ad F).set q (a, .inl (cs 0, n, .inl (upd f j x))) = wMk ad F') (d : decode cc pc = .ok (.iastore, 1))
    (kk : ∀ (H1 : Heap) (locs1 : List Loc), va_P D vwCl (wMk ad F') H1 → va_S (Afr ad s.heap.size) s.heap H1 locs1 → W p l e R s m args below meth c H1 locs1 cells slots Q (F0 m (pc + 1) ls rest)) : W p l e R s m args below meth c H locs cells slots Q (F0 m pc ls (.int x :: .int i :: .ref a :: rest)) := by
  subst hj
  obtain ⟨hx, hb, hml, hr, hown, hts, hlk⟩ := C
  refine va_iast hx hb G.1 hP (wMk_D G.2.1 _) hS q 0 he rfl hin d (fun H1 locs1 h1 h2 h3 => ?_)
  rw [hset] at h1
  exact kk H1 locs1 h1 h3
theorem k_aaldL (C : Cx p s m args meth c cc nL ret own ws) (G : Gx D cs ad s) {w : va_W} (hP : va_P D vwCl w H) {q a b n : Nat} {f : Nat → Option Nat} (he : w[q]? = some (a, .inl (cs 1, n, .inr (.inr (.inr (.inr f)))))) {i : Int32} (hin : vp_in i n) (hv : f i.toNatClampNeg = some b) (d : decode cc pc = .ok (.aaload, 1))
    (kk : W p l e R s m args below meth c H locs cells slots Q (F0 m (pc + 1) ls (.ref b :: rest))) : W p l e R s m args below meth c H locs cells slots Q (F0 m pc ls (.int i :: .ref a :: rest)) := by
  obtain ⟨hx, hb, hml, hr, hown, hts, hlk⟩ := C
  refine va_aldq hx hb G.1 hP q 1 he rfl hin d ?_
  rw [hv]
  exact kk
theorem k_aaldR (C : Cx p s m args meth c cc nL ret own ws) (G : Gx D cs ad s) {w : va_W} (hP : va_P D vwCl w H) {q a b n : Nat} {f : Nat → Option Nat} (he : w[q]? = some (a, .inl (cs 2, n, .inr (.inr (.inr (.inr f)))))) {i : Int32} (hin : vp_in i n) (hv : f i.toNatClampNeg = some b) (d : decode cc pc = .ok (.aaload, 1))
    (kk : W p l e R s m args below meth c H locs cells slots Q (F0 m (pc + 1) ls (.ref b :: rest))) : W p l e R s m args below meth c H locs cells slots Q (F0 m pc ls (.int i :: .ref a :: rest)) := by
  obtain ⟨hx, hb, hml, hr, hown, hts, hlk⟩ := C
  have hlt : i.toNatClampNeg < n := Nat.not_le.mp fun q => hin (Or.inr q)
  refine W.aald (v := va_rf (f i.toNatClampNeg)) (ty := .array .int) hx hb (hP q _ he) ((G.1.2 2 _ rfl).1 n (fun j => va_rf (f j))) rfl (fun q => by cases q) (by show ¬ (i < 0 ∨ (arrV _ _ _).slots.size ≤ _); rw [arrV_size]; exact hin) (by show (arrV _ _ _).slots[_]? = _; rw [arrV_read _ _ hlt]) rfl rfl d ?_
  rw [hv]
  exact kk
theorem k_copy (C : Cx p s m args meth c cc nL ret own ws) (G : Gx D cs ad s) {F F' : Nat → va_E} (hP : va_P D vwCl (wMk ad F) H) (hS : va_S (Afr ad s.heap.size) s.heap H locs) (hsz : ls.size = nL) {index : Nat} (hw1 : Cond.methodLink own index arraycopyName ∈ ws) (hw2 : Cond.native arraycopyName ∈ ws) (hw3 : Cond.static arraycopyName ∈ ws) (hw4 : Cond.initialized "java/lang/System" ∈ ws) {q0 q1 a0 a1 n0 n1 : Nat} {f g : Nat → Int32} (he0 : (wMk ad F)[q0]? = some (a0, .inl (cs 0, n0, .inl f))) (he1 : (wMk ad F)[q1]? = some (a1, .inl (cs 0, n1, .inl g))) {n : Int32} (h3 : ¬ n < 0) (h4 : n.toNatClampNeg ≤ n0) (h5 : n.toNatClampNeg ≤ n1) {j : Nat} (hj : n.toNatClampNeg = j)
    (hframes : 1 ≤ R.frames) (hlocals : (rest.map fun v => v.category).sum + (nativeFrameWords "java/lang/System" "arraycopy" 5 + 11) ≤ R.locals) (hset : (wMk ad F).set q1 (a1, .inl (cs 0, n1, .inl (va_cpy f g 0 0 j))) = wMk ad F') (d : decode cc pc = .ok (.invokestatic index, 3))
    (kk : ∀ (H1 : Heap) (locs1 : List Loc), va_P D vwCl (wMk ad F') H1 → va_S (Afr ad s.heap.size) s.heap H1 locs1 → W p l e R s m args below meth c H1 locs1 cells slots Q (F0 m (pc + 3) ls rest)) : W p l e R s m args below meth c H locs cells slots Q (F0 m pc ls (.int n :: .int 0 :: .ref a1 :: .int 0 :: .ref a0 :: rest)) := by
  subst hj
  obtain ⟨hx, hb, hml, hr, hown, hts, hlk⟩ := C
  refine va_copyi hx hb (hml.trans hsz.symm) hown (hts _ hw1) (hts _ hw2) (hts _ hw3) (hts _ hw4) G.1 hP (wMk_D G.2.1 _) hS q0 q1 0 0 he0 he1 rfl rfl rfl (by decide) (by decide) h3 (by show 0 + _ ≤ _; omega) (by show 0 + _ ≤ _; omega) (fun _ _ => rfl) hframes hlocals d (fun H1 locs1 h1 h2 h3 => ?_)
  have e0 : (0 : Int32).toNatClampNeg = 0 := rfl
  rw [e0, hset] at h1
  exact kk H1 locs1 h1 h3
theorem k_min (C : Cx p s m args meth c cc nL ret own ws) (G : Gx D cs ad s) (hsz : ls.size = nL) {index : Nat} (hw1 : Cond.methodLink own index Lib.Math.min.name ∈ ws) (hw2 : Cond.static Lib.Math.min.name ∈ ws) (hw3 : Cond.initialized "java/lang/Math" ∈ ws) (hw4 : Cond.code Lib.Math.min.name Lib.Math.min.code 2 (some .int) ∈ ws) (hframes : 1 ≤ R.frames) (hlocals : (rest.map fun v => v.category).sum + 13 ≤ R.locals) (hc : cells ≤ R.cells) (hs : slots ≤ R.slots) {x y z : Int32} (ez : z = if y < x then y else x) (d : decode cc pc = .ok (.invokestatic index, 3))
    (kk : W p l e R s m args below meth c H locs cells slots Q (F0 m (pc + 3) ls (.int z :: rest))) : W p l e R s m args below meth c H locs cells slots Q (F0 m pc ls (.int y :: .int x :: rest)) := by
  subst ez
  obtain ⟨hx, hb, hml, hr, hown, hts, hlk⟩ := C
  exact va_mmin hx hb (hml.trans hsz.symm) hown (hts _ hw1) (hts _ hw2) (hts _ hw3) (hts _ hw4) hframes hlocals hc hs d kk
theorem k_ldci (C : Cx p s m args meth c cc nL ret own ws) (G : Gx D cs ad s) {index : Nat} {v : Int32} (hw : Cond.constant own index v ∈ ws) (d : decode cc pc = .ok (.ldc index, 2)) (kk : W p l e R s m args below meth c H locs cells slots Q (F0 m (pc + 2) ls (.int v :: rest))) : W p l e R s m args below meth c H locs cells slots Q (F0 m pc ls rest) := by
  obtain ⟨hx, hb, hml, hr, hown, hts, hlk⟩ := C
  exact lv_ldc hx hb hown (hts _ hw) d kk
theorem k_ldcl (C : Cx p s m args meth c cc nL ret own ws) (G : Gx D cs ad s) {index : Nat} {v : Int64} (hw : Cond.constantLong own index v ∈ ws) (d : decode cc pc = .ok (.ldc2_w index, 3)) (kk : W p l e R s m args below meth c H locs cells slots Q (F0 m (pc + 3) ls (.long v :: rest))) : W p l e R s m args below meth c H locs cells slots Q (F0 m pc ls rest) := by
  obtain ⟨hx, hb, hml, hr, hown, hts, hlk⟩ := C
  exact lv_ldc2 hx hb hown (hts _ hw) d kk
theorem k_getfN (C : Cx p s m args meth c cc nL ret own ws) (G : Gx D cs ad s) {w : va_W} (hP : va_P D vwCl w H) {q a ci : Nat} {fs : List Value} (he : w[q]? = some (a, .inr (ci, fs))) {Cn : String} {T : u_T} {N : Nat} (hc : vwCl[ci]? = some (Cn, T, N)) (k : Nat) (hk : k < N) (hin : ∀ x ∈ u_ws Cn T N, x ∈ ws) {index : Nat} (hw : (own, index, (T k).1, (T k).2.1, (T k).2.2.1) ∈ nwF) {v : Value} (hv : fs[k]? = some v) (d : decode cc pc = .ok (.getfield index, 3))
    (kk : W p l e R s m args below meth c H locs cells slots Q (F0 m (pc + 3) ls (v :: rest))) : W p l e R s m args below meth c H locs cells slots Q (F0 m pc ls (.ref a :: rest)) := by
  obtain ⟨hx, hb, hml, hr, hown, hts, hlk⟩ := C
  exact va_getN hx hb hts hin hown G.1 hP q he hc k hk (va_Nw.use rfl (G.2.2.1 _ hw)) (fun _ h => h) hv d kk
theorem k_getiN (C : Cx p s m args meth c cc nL ret own ws) (G : Gx D cs ad s) {w : va_W} (hP : va_P D vwCl w H) {q a ci : Nat} {fs : List Value} (he : w[q]? = some (a, .inr (ci, fs))) {Cn : String} {T : u_T} {N : Nat} (hc : vwCl[ci]? = some (Cn, T, N)) (k : Nat) (hk : k < N) (hin : ∀ x ∈ u_ws Cn T N, x ∈ ws) {index : Nat} (hw : (own, index, (T k).1, (T k).2.1, (T k).2.2.1) ∈ nwF) {x z : Int32} (hv : fs[k]? = some (.int x)) (ez : z = x) (d : decode cc pc = .ok (.getfield index, 3))
    (kk : W p l e R s m args below meth c H locs cells slots Q (F0 m (pc + 3) ls (.int z :: rest))) : W p l e R s m args below meth c H locs cells slots Q (F0 m pc ls (.ref a :: rest)) := by
  subst ez
  exact k_getfN C G hP he hc k hk hin hw hv d kk
theorem k_putiN (C : Cx p s m args meth c cc nL ret own ws) (G : Gx D cs ad s) {F F' : Nat → va_E} (hP : va_P D vwCl (wMk ad F) H) (hS : va_S (Afr ad s.heap.size) s.heap H locs) {q a ci : Nat} {fs : List Value} (he : (wMk ad F)[q]? = some (a, .inr (ci, fs))) {Cn : String} {T : u_T} {N : Nat} (hc : vwCl[ci]? = some (Cn, T, N)) (k : Nat) (hk : k < N) (hin : ∀ x ∈ u_ws Cn T N, x ∈ ws) {index : Nat} (hw : (own, index, (T k).1, (T k).2.1, (T k).2.2.1) ∈ nwF) {ty0 : Nat → FieldType} (hty : ∀ k, k < N → parseFieldDescriptor (T k).2.2.1 = some (ty0 k)) (hnm : ∀ a, a < N → ∀ b, b < N → a ≠ b → (T a).2.1 ≠ (T b).2.1) (hfin : (T k).2.2.2 = false) (hd : parseFieldDescriptor (T k).2.2.1 = some .int) (hl : k < fs.length) {x : Int32} (hset : (wMk ad F).set q (a, .inr (ci, fs.set k (.int x))) = wMk ad F') (d : decode cc pc = .ok (.putfield index, 3))
    (kk : ∀ (H1 : Heap) (locs1 : List Loc), va_P D vwCl (wMk ad F') H1 → va_S (Afr ad s.heap.size) s.heap H1 locs1 → W p l e R s m args below meth c H1 locs1 cells slots Q (F0 m (pc + 3) ls rest)) : W p l e R s m args below meth c H locs cells slots Q (F0 m pc ls (.int x :: .ref a :: rest)) := by
  obtain ⟨hx, hb, hml, hr, hown, hts, hlk⟩ := C
  refine va_putN hx hb hts hin ty0 hty hnm hown G.1 hP (wMk_D G.2.1 _) hS q he hc k hk (va_Nw.use rfl (G.2.2.1 _ hw)) (fun _ h => h) hfin hd rfl rfl hl d (fun H1 locs1 h1 h2 h3 => ?_)
  rw [hset] at h1
  exact kk H1 locs1 h1 h3
theorem k_iadd (C : Cx p s m args meth c cc nL ret own ws) {x y z : Int32} (ez : z = x + y) (d : decode cc pc = .ok (.iadd, 1)) (kk : W p l e R s m args below meth c H locs cells slots Q (F0 m (pc + 1) ls (.int z :: rest))) : W p l e R s m args below meth c H locs cells slots Q (F0 m pc ls (.int y :: .int x :: rest)) := by
  subst ez
  exact lv_iadd C.1 C.2.1 d kk
theorem k_isub (C : Cx p s m args meth c cc nL ret own ws) {x y z : Int32} (ez : z = x - y) (d : decode cc pc = .ok (.isub, 1)) (kk : W p l e R s m args below meth c H locs cells slots Q (F0 m (pc + 1) ls (.int z :: rest))) : W p l e R s m args below meth c H locs cells slots Q (F0 m pc ls (.int y :: .int x :: rest)) := by
  subst ez
  exact lv_isub C.1 C.2.1 d kk
theorem k_imul (C : Cx p s m args meth c cc nL ret own ws) {x y z : Int32} (ez : z = x * y) (d : decode cc pc = .ok (.imul, 1)) (kk : W p l e R s m args below meth c H locs cells slots Q (F0 m (pc + 1) ls (.int z :: rest))) : W p l e R s m args below meth c H locs cells slots Q (F0 m pc ls (.int y :: .int x :: rest)) := by
  subst ez
  exact lv_imul C.1 C.2.1 d kk
theorem k_iand (C : Cx p s m args meth c cc nL ret own ws) {x y z : Int32} (ez : z = x &&& y) (d : decode cc pc = .ok (.iand, 1)) (kk : W p l e R s m args below meth c H locs cells slots Q (F0 m (pc + 1) ls (.int z :: rest))) : W p l e R s m args below meth c H locs cells slots Q (F0 m pc ls (.int y :: .int x :: rest)) := by
  subst ez
  exact lv_iand C.1 C.2.1 d kk
theorem k_ior (C : Cx p s m args meth c cc nL ret own ws) {x y z : Int32} (ez : z = x ||| y) (d : decode cc pc = .ok (.ior, 1)) (kk : W p l e R s m args below meth c H locs cells slots Q (F0 m (pc + 1) ls (.int z :: rest))) : W p l e R s m args below meth c H locs cells slots Q (F0 m pc ls (.int y :: .int x :: rest)) := by
  subst ez
  exact lv_ior C.1 C.2.1 d kk
theorem k_ishl (C : Cx p s m args meth c cc nL ret own ws) {x y z : Int32} (ez : z = x <<< (y &&& 31)) (d : decode cc pc = .ok (.ishl, 1)) (kk : W p l e R s m args below meth c H locs cells slots Q (F0 m (pc + 1) ls (.int z :: rest))) : W p l e R s m args below meth c H locs cells slots Q (F0 m pc ls (.int y :: .int x :: rest)) := by
  subst ez
  exact lv_ishl C.1 C.2.1 d kk
theorem k_ishr (C : Cx p s m args meth c cc nL ret own ws) {x y z : Int32} (ez : z = x >>> (y &&& 31)) (d : decode cc pc = .ok (.ishr, 1)) (kk : W p l e R s m args below meth c H locs cells slots Q (F0 m (pc + 1) ls (.int z :: rest))) : W p l e R s m args below meth c H locs cells slots Q (F0 m pc ls (.int y :: .int x :: rest)) := by
  subst ez
  exact lv_ishr C.1 C.2.1 d kk
theorem k_ladd (C : Cx p s m args meth c cc nL ret own ws) {x y z : Int64} (ez : z = x + y) (d : decode cc pc = .ok (.ladd, 1)) (kk : W p l e R s m args below meth c H locs cells slots Q (F0 m (pc + 1) ls (.long z :: rest))) : W p l e R s m args below meth c H locs cells slots Q (F0 m pc ls (.long y :: .long x :: rest)) := by
  subst ez
  exact lv_ladd C.1 C.2.1 d kk
theorem k_lmul (C : Cx p s m args meth c cc nL ret own ws) {x y z : Int64} (ez : z = x * y) (d : decode cc pc = .ok (.lmul, 1)) (kk : W p l e R s m args below meth c H locs cells slots Q (F0 m (pc + 1) ls (.long z :: rest))) : W p l e R s m args below meth c H locs cells slots Q (F0 m pc ls (.long y :: .long x :: rest)) := by
  subst ez
  exact lv_lmul C.1 C.2.1 d kk
theorem k_lsub (C : Cx p s m args meth c cc nL ret own ws) {x y z : Int64} (ez : z = x - y) (d : decode cc pc = .ok (.lsub, 1)) (kk : W p l e R s m args below meth c H locs cells slots Q (F0 m (pc + 1) ls (.long z :: rest))) : W p l e R s m args below meth c H locs cells slots Q (F0 m pc ls (.long y :: .long x :: rest)) := by
  subst ez
  exact lv_lsub C.1 C.2.1 d kk
theorem k_idiv (C : Cx p s m args meth c cc nL ret own ws) {x y z : Int32} (h0 : ¬ y = 0) (ez : z = x / y) (d : decode cc pc = .ok (.idiv, 1)) (kk : W p l e R s m args below meth c H locs cells slots Q (F0 m (pc + 1) ls (.int z :: rest))) : W p l e R s m args below meth c H locs cells slots Q (F0 m pc ls (.int y :: .int x :: rest)) := by
  subst ez
  exact lv_idiv C.1 C.2.1 d h0 kk
theorem k_irem (C : Cx p s m args meth c cc nL ret own ws) {x y z : Int32} (h0 : ¬ y = 0) (ez : z = x - x / y * y) (d : decode cc pc = .ok (.irem, 1)) (kk : W p l e R s m args below meth c H locs cells slots Q (F0 m (pc + 1) ls (.int z :: rest))) : W p l e R s m args below meth c H locs cells slots Q (F0 m pc ls (.int y :: .int x :: rest)) := by
  subst ez
  exact lv_irem C.1 C.2.1 d h0 kk
theorem k_ldiv (C : Cx p s m args meth c cc nL ret own ws) {x y z : Int64} (h0 : ¬ y = 0) (ez : z = x / y) (d : decode cc pc = .ok (.ldiv, 1)) (kk : W p l e R s m args below meth c H locs cells slots Q (F0 m (pc + 1) ls (.long z :: rest))) : W p l e R s m args below meth c H locs cells slots Q (F0 m pc ls (.long y :: .long x :: rest)) := by
  subst ez
  exact lv_ldiv C.1 C.2.1 d h0 kk
theorem k_lrem (C : Cx p s m args meth c cc nL ret own ws) {x y z : Int64} (h0 : ¬ y = 0) (ez : z = x - x / y * y) (d : decode cc pc = .ok (.lrem, 1)) (kk : W p l e R s m args below meth c H locs cells slots Q (F0 m (pc + 1) ls (.long z :: rest))) : W p l e R s m args below meth c H locs cells slots Q (F0 m pc ls (.long y :: .long x :: rest)) := by
  subst ez
  exact lv_lrem C.1 C.2.1 d h0 kk
theorem k_i2l (C : Cx p s m args meth c cc nL ret own ws) {x : Int32} {z : Int64} (ez : z = x.toInt64) (d : decode cc pc = .ok (.i2l, 1)) (kk : W p l e R s m args below meth c H locs cells slots Q (F0 m (pc + 1) ls (.long z :: rest))) : W p l e R s m args below meth c H locs cells slots Q (F0 m pc ls (.int x :: rest)) := lv_i2l C.1 C.2.1 d ez.symm kk
theorem k_l2i (C : Cx p s m args meth c cc nL ret own ws) {x : Int64} {z : Int32} (ez : z = x.toInt32) (d : decode cc pc = .ok (.l2i, 1)) (kk : W p l e R s m args below meth c H locs cells slots Q (F0 m (pc + 1) ls (.int z :: rest))) : W p l e R s m args below meth c H locs cells slots Q (F0 m pc ls (.long x :: rest)) := lv_l2i C.1 C.2.1 d ez.symm kk
theorem k_iret (C : Cx p s m args meth c cc nL (some .int) own ws) {w : va_W} (hP : va_P D vwCl w H) (hS : va_S (Afr ad s.heap.size) s.heap H locs) {v : Int32} (d : decode cc pc = .ok (.ireturn, 1)) : W p l e R s m args below meth c H locs cells slots (MQ below (va_Qi (fun r' (_ : Unit) => r' = v) (fun _ t => va_P D vwCl w t.heap) (Afr ad s.heap.size)) args s cells slots (Afr ad s.heap.size)) (F0 m pc ls [.int v]) := by
  obtain ⟨hx, hb, hml, hr, hown, hts, hlk⟩ := C
  exact W.iret hx hb hr (fun t ht hW => ⟨⟨v, (), rfl, rfl, by show va_P D vwCl w t.heap; rw [ht]; exact hP⟩, hS.F ht⟩) hS.2.2 d hlk
theorem k_zret (C : Cx p s m args meth c cc nL (some .boolean) own ws) {w : va_W} (hP : va_P D vwCl w H) (hS : va_S (Afr ad s.heap.size) s.heap H locs) {v : Int32} (hn : narrow .boolean (.int v) = .int v) (d : decode cc pc = .ok (.ireturn, 1)) : W p l e R s m args below meth c H locs cells slots (MQ below (va_Qi (fun r' (_ : Unit) => r' = v) (fun _ t => va_P D vwCl w t.heap) (Afr ad s.heap.size)) args s cells slots (Afr ad s.heap.size)) (F0 m pc ls [.int v]) := by
  obtain ⟨hx, hb, hml, hr, hown, hts, hlk⟩ := C
  exact W.zret hx hb hr hn (fun t ht hW => ⟨⟨v, (), rfl, rfl, by show va_P D vwCl w t.heap; rw [ht]; exact hP⟩, hS.F ht⟩) hS.2.2 d hlk
theorem k_lret (C : Cx p s m args meth c cc nL (some .long) own ws) {w : va_W} (hP : va_P D vwCl w H) (hS : va_S (Afr ad s.heap.size) s.heap H locs) {v : Int64} (d : decode cc pc = .ok (.lreturn, 1)) : W p l e R s m args below meth c H locs cells slots (MQ below (va_Ql (fun r' (_ : Unit) => r' = v) (fun _ t => va_P D vwCl w t.heap) (Afr ad s.heap.size)) args s cells slots (Afr ad s.heap.size)) (F0 m pc ls [.long v]) := by
  obtain ⟨hx, hb, hml, hr, hown, hts, hlk⟩ := C
  exact W.lret hx hb hr (fun t ht hW => ⟨⟨v, (), rfl, rfl, by show va_P D vwCl w t.heap; rw [ht]; exact hP⟩, hS.F ht⟩) hS.2.2 d hlk
theorem k_vret (C : Cx p s m args meth c cc nL none own ws) {w : va_W} (hP : va_P D vwCl w H) (hS : va_S (Afr ad s.heap.size) s.heap H locs) (d : decode cc pc = .ok (.return_, 1)) : W p l e R s m args below meth c H locs cells slots (MQ below (va_Qv (fun (_ : Unit) => True) (fun _ t => va_P D vwCl w t.heap) (Afr ad s.heap.size)) args s cells slots (Afr ad s.heap.size)) (F0 m pc ls []) := by
  obtain ⟨hx, hb, hml, hr, hown, hts, hlk⟩ := C
  exact W.vret hx hb hr (fun t ht hW => ⟨⟨(), rfl, trivial, by show va_P D vwCl w t.heap; rw [ht]; exact hP⟩, hS.F ht⟩) hS.2.2 d hlk
/-- a contract out of a walk from pc 0 -/
theorem k_met {y : MethodName} {wsy ws' : List Cond} {rm : Room} {w : va_W} {av : List Value} {sz mc ms : Nat} {Qc : Array Value → State → Outcome → State → Prop} (hy : plainName y.cls = true) (hw : wsy = Cond.code y cc nL ret :: ws') (hlen : (lg_sl av).length ≤ nL) (hAd : adOK ad)
    (body : ∀ (p : Program) (e : Env) (s : State) (m : MethodId) (below : List Frame) (meth : Method) (c : Code) (ls : Array Slot), Cx p s m av.toArray meth c cc nL ret y.cls wsy → Gx D cs ad s → va_P D vwCl w s.heap → s.heap.size = sz → lv_has ls nL (lv_args 0 av) → va_S (Afr ad s.heap.size) s.heap s.heap [] → W p l e rm s m av.toArray below meth c s.heap [] 0 0 (MQ below Qc av.toArray s mc ms (Afr ad sz)) (F0 m 0 ls [])) : Met l y wsy rm (PA D cs sz w av) Qc mc ms (Afr ad sz) := by
  refine Met.ofW (cc := cc) (maxL := nL) (ret := ret) hy hw ?_
  intro p e s m args below meth c s₁ B hml hv
  obtain ⟨rfl, hsz, hP, hK, hN⟩ := hv
  have hl := lv_entry av (n := nL) hlen
  rw [lg_entry_eq]
  generalize (lg_sl av ++ List.replicate (nL - (lg_sl av).length) Slot.unset).toArray = ls at hl ⊢
  exact body p e s m below meth c ls ⟨B.exec, B.bytes, hml, B.returns, findClass_of_methodNamed B.named, atoms_spec (ws := wsy) B.pre, B.notSynchronized⟩ ⟨hK, hAd, hN⟩ hP hsz hl va_S.rf
theorem k_callVi (C : Cx p s m args meth c cc nL ret own ws) (G : Gx D cs ad s) {w w' : va_W} (hP : va_P D vwCl w H) (hS : va_S (Afr ad s.heap.size) s.heap H locs) {y : MethodName} {wsy : List Cond} {rm : Room} {b : Nat} {As : List Value} {r : Int32} {mc ms : Nat} (hM : Met l y wsy rm (PA D cs H.size w (.ref b :: As)) (va_Qi (fun r' (_ : Unit) => r' = r) (fun _ t => va_P D vwCl w' t.heap) (Afr ad H.size)) mc ms (Afr ad H.size)) {q ci : Nat} {fs : List Value} {Cn : String} {T : u_T} {N : Nat} (he : w[q]? = some (b, .inr (ci, fs))) (hc : vwCl[ci]? = some (Cn, T, N)) {index : Nat} {bytes : ByteArray} {maxL n : Nat} {retY : Option FieldType} (cw : CallW R s args own Cn index y bytes maxL retY wsy rm mc ms n) {st0 : List Value} (hn : As.length = n) (hsz : ls.size = nL) (hst : st0 = As.reverse ++ .ref b :: rest) (hroom : (rest.map fun v => v.category).sum ≤ 8) (d : decode cc pc = .ok (.invokevirtual index, 3)) (hf : cells + mc ≤ R.cells ∧ slots + ms ≤ R.slots)
    (kk : ∀ (H1 : Heap) (locs1 : List Loc), va_P D vwCl w' H1 → va_S (Afr ad s.heap.size) s.heap H1 locs1 → W p l e R s m args below meth c H1 locs1 (cells + mc) (slots + ms) Q (F0 m (pc + 3) ls (.int r :: rest))) : W p l e R s m args below meth c H locs cells slots Q (F0 m pc ls st0) := by
  obtain ⟨hx, hb, hml, hr, hown, hts, hlk⟩ := C
  refine va_calli (va_runV ⟨hx, hb, hml, hown, hts⟩ hM cw ⟨PA_blind, va_recv G.1 hP hc he, fun U hU hW => ⟨rfl, by rw [hU], by rw [hU]; exact hP, va_K.moved hW.alike G.1, NW.warm hW G.2.2⟩⟩ rfl hn hsz hst (lv_room hroom) d hf) hS (fun q _ h => Afr.mono hS.1 h) (fun q h => Afr.mono hS.1 h) (fun r1 u t H1 locs1 ht hvm hw hB hz1 hk1 hS1 => ?_)
  rw [ht] at hB
  rw [hw]
  exact kk H1 locs1 hB hS1
theorem k_callVv (C : Cx p s m args meth c cc nL ret own ws) (G : Gx D cs ad s) {w w' : va_W} (hP : va_P D vwCl w H) (hS : va_S (Afr ad s.heap.size) s.heap H locs) {y : MethodName} {wsy : List Cond} {rm : Room} {b : Nat} {As : List Value} {mc ms : Nat} (hM : Met l y wsy rm (PA D cs H.size w (.ref b :: As)) (va_Qv (fun (_ : Unit) => True) (fun _ t => va_P D vwCl w' t.heap) (Afr ad H.size)) mc ms (Afr ad H.size)) {q ci : Nat} {fs : List Value} {Cn : String} {T : u_T} {N : Nat} (he : w[q]? = some (b, .inr (ci, fs))) (hc : vwCl[ci]? = some (Cn, T, N)) {index : Nat} {bytes : ByteArray} {maxL n : Nat} {retY : Option FieldType} (cw : CallW R s args own Cn index y bytes maxL retY wsy rm mc ms n) {st0 : List Value} (hn : As.length = n) (hsz : ls.size = nL) (hst : st0 = As.reverse ++ .ref b :: rest) (hroom : (rest.map fun v => v.category).sum ≤ 8) (d : decode cc pc = .ok (.invokevirtual index, 3)) (hf : cells + mc ≤ R.cells ∧ slots + ms ≤ R.slots)
    (kk : ∀ (H1 : Heap) (locs1 : List Loc), va_P D vwCl w' H1 → va_S (Afr ad s.heap.size) s.heap H1 locs1 → W p l e R s m args below meth c H1 locs1 (cells + mc) (slots + ms) Q (F0 m (pc + 3) ls rest)) : W p l e R s m args below meth c H locs cells slots Q (F0 m pc ls st0) := by
  obtain ⟨hx, hb, hml, hr, hown, hts, hlk⟩ := C
  refine va_callv (va_runV ⟨hx, hb, hml, hown, hts⟩ hM cw ⟨PA_blind, va_recv G.1 hP hc he, fun U hU hW => ⟨rfl, by rw [hU], by rw [hU]; exact hP, va_K.moved hW.alike G.1, NW.warm hW G.2.2⟩⟩ rfl hn hsz hst (lv_room hroom) d hf) hS (fun q _ h => Afr.mono hS.1 h) (fun q h => Afr.mono hS.1 h) (fun u t H1 locs1 ht hvm hw hB hz1 hk1 hS1 => ?_)
  rw [ht] at hB
  exact kk H1 locs1 hB hS1
theorem k_callVl (C : Cx p s m args meth c cc nL ret own ws) (G : Gx D cs ad s) {w w' : va_W} (hP : va_P D vwCl w H) (hS : va_S (Afr ad s.heap.size) s.heap H locs) {y : MethodName} {wsy : List Cond} {rm : Room} {b : Nat} {As : List Value} {r : Int64} {mc ms : Nat} (hM : Met l y wsy rm (PA D cs H.size w (.ref b :: As)) (va_Ql (fun r' (_ : Unit) => r' = r) (fun _ t => va_P D vwCl w' t.heap) (Afr ad H.size)) mc ms (Afr ad H.size)) {q ci : Nat} {fs : List Value} {Cn : String} {T : u_T} {N : Nat} (he : w[q]? = some (b, .inr (ci, fs))) (hc : vwCl[ci]? = some (Cn, T, N)) {index : Nat} {bytes : ByteArray} {maxL n : Nat} {retY : Option FieldType} (cw : CallW R s args own Cn index y bytes maxL retY wsy rm mc ms n) {st0 : List Value} (hn : As.length = n) (hsz : ls.size = nL) (hst : st0 = As.reverse ++ .ref b :: rest) (hroom : (rest.map fun v => v.category).sum ≤ 8) (d : decode cc pc = .ok (.invokevirtual index, 3)) (hf : cells + mc ≤ R.cells ∧ slots + ms ≤ R.slots)
    (kk : ∀ (H1 : Heap) (locs1 : List Loc), va_P D vwCl w' H1 → va_S (Afr ad s.heap.size) s.heap H1 locs1 → W p l e R s m args below meth c H1 locs1 (cells + mc) (slots + ms) Q (F0 m (pc + 3) ls (.long r :: rest))) : W p l e R s m args below meth c H locs cells slots Q (F0 m pc ls st0) := by
  obtain ⟨hx, hb, hml, hr, hown, hts, hlk⟩ := C
  refine va_calll (va_runV ⟨hx, hb, hml, hown, hts⟩ hM cw ⟨PA_blind, va_recv G.1 hP hc he, fun U hU hW => ⟨rfl, by rw [hU], by rw [hU]; exact hP, va_K.moved hW.alike G.1, NW.warm hW G.2.2⟩⟩ rfl hn hsz hst (lv_room hroom) d hf) hS (fun q _ h => Afr.mono hS.1 h) (fun q h => Afr.mono hS.1 h) (fun r1 u t H1 locs1 ht hvm hw hB hz1 hk1 hS1 => ?_)
  rw [ht] at hB
  rw [hw]
  exact kk H1 locs1 hB hS1
theorem k_callSi (C : Cx p s m args meth c cc nL ret own ws) (G : Gx D cs ad s) {w w' : va_W} (hP : va_P D vwCl w H) (hS : va_S (Afr ad s.heap.size) s.heap H locs) {y : MethodName} {wsy : List Cond} {rm : Room} {As : List Value} {r : Int32} {mc ms : Nat} (hM : Met l y wsy rm (PA D cs H.size w (As)) (va_Qi (fun r' (_ : Unit) => r' = r) (fun _ t => va_P D vwCl w' t.heap) (Afr ad H.size)) mc ms (Afr ad H.size)) {index : Nat} {bytes : ByteArray} {maxL n : Nat} {retY : Option FieldType} (cw : CallB R s args own index y bytes maxL retY wsy rm mc ms n ∧ (Cond.static y).before args s = true) {st0 : List Value} (hn : As.length = n) (hsz : ls.size = nL) (hst : st0 = As.reverse ++ rest) (hroom : (rest.map fun v => v.category).sum ≤ 8) (d : decode cc pc = .ok (.invokestatic index, 3)) (hf : cells + mc ≤ R.cells ∧ slots + ms ≤ R.slots)
    (kk : ∀ (H1 : Heap) (locs1 : List Loc), va_P D vwCl w' H1 → va_S (Afr ad s.heap.size) s.heap H1 locs1 → W p l e R s m args below meth c H1 locs1 (cells + mc) (slots + ms) Q (F0 m (pc + 3) ls (.int r :: rest))) : W p l e R s m args below meth c H locs cells slots Q (F0 m pc ls st0) := by
  obtain ⟨hx, hb, hml, hr, hown, hts, hlk⟩ := C
  refine va_calli (va_runS ⟨hx, hb, hml, hown, hts⟩ hM cw ⟨PA_blind, fun U hU hW => ⟨rfl, by rw [hU], by rw [hU]; exact hP, va_K.moved hW.alike G.1, NW.warm hW G.2.2⟩⟩ rfl hn hsz hst (lv_room hroom) d hf) hS (fun q _ h => Afr.mono hS.1 h) (fun q h => Afr.mono hS.1 h) (fun r1 u t H1 locs1 ht hvm hw hB hz1 hk1 hS1 => ?_)
  rw [ht] at hB
  rw [hw]
  exact kk H1 locs1 hB hS1
theorem k_callSv (C : Cx p s m args meth c cc nL ret own ws) (G : Gx D cs ad s) {w w' : va_W} (hP : va_P D vwCl w H) (hS : va_S (Afr ad s.heap.size) s.heap H locs) {y : MethodName} {wsy : List Cond} {rm : Room} {As : List Value} {mc ms : Nat} (hM : Met l y wsy rm (PA D cs H.size w (As)) (va_Qv (fun (_ : Unit) => True) (fun _ t => va_P D vwCl w' t.heap) (Afr ad H.size)) mc ms (Afr ad H.size)) {index : Nat} {bytes : ByteArray} {maxL n : Nat} {retY : Option FieldType} (cw : CallB R s args own index y bytes maxL retY wsy rm mc ms n ∧ (Cond.static y).before args s = true) {st0 : List Value} (hn : As.length = n) (hsz : ls.size = nL) (hst : st0 = As.reverse ++ rest) (hroom : (rest.map fun v => v.category).sum ≤ 8) (d : decode cc pc = .ok (.invokestatic index, 3)) (hf : cells + mc ≤ R.cells ∧ slots + ms ≤ R.slots)
    (kk : ∀ (H1 : Heap) (locs1 : List Loc), va_P D vwCl w' H1 → va_S (Afr ad s.heap.size) s.heap H1 locs1 → W p l e R s m args below meth c H1 locs1 (cells + mc) (slots + ms) Q (F0 m (pc + 3) ls rest)) : W p l e R s m args below meth c H locs cells slots Q (F0 m pc ls st0) := by
  obtain ⟨hx, hb, hml, hr, hown, hts, hlk⟩ := C
  refine va_callv (va_runS ⟨hx, hb, hml, hown, hts⟩ hM cw ⟨PA_blind, fun U hU hW => ⟨rfl, by rw [hU], by rw [hU]; exact hP, va_K.moved hW.alike G.1, NW.warm hW G.2.2⟩⟩ rfl hn hsz hst (lv_room hroom) d hf) hS (fun q _ h => Afr.mono hS.1 h) (fun q h => Afr.mono hS.1 h) (fun u t H1 locs1 ht hvm hw hB hz1 hk1 hS1 => ?_)
  rw [ht] at hB
  exact kk H1 locs1 hB hS1
theorem k_callSl (C : Cx p s m args meth c cc nL ret own ws) (G : Gx D cs ad s) {w w' : va_W} (hP : va_P D vwCl w H) (hS : va_S (Afr ad s.heap.size) s.heap H locs) {y : MethodName} {wsy : List Cond} {rm : Room} {As : List Value} {r : Int64} {mc ms : Nat} (hM : Met l y wsy rm (PA D cs H.size w (As)) (va_Ql (fun r' (_ : Unit) => r' = r) (fun _ t => va_P D vwCl w' t.heap) (Afr ad H.size)) mc ms (Afr ad H.size)) {index : Nat} {bytes : ByteArray} {maxL n : Nat} {retY : Option FieldType} (cw : CallB R s args own index y bytes maxL retY wsy rm mc ms n ∧ (Cond.static y).before args s = true) {st0 : List Value} (hn : As.length = n) (hsz : ls.size = nL) (hst : st0 = As.reverse ++ rest) (hroom : (rest.map fun v => v.category).sum ≤ 8) (d : decode cc pc = .ok (.invokestatic index, 3)) (hf : cells + mc ≤ R.cells ∧ slots + ms ≤ R.slots)
    (kk : ∀ (H1 : Heap) (locs1 : List Loc), va_P D vwCl w' H1 → va_S (Afr ad s.heap.size) s.heap H1 locs1 → W p l e R s m args below meth c H1 locs1 (cells + mc) (slots + ms) Q (F0 m (pc + 3) ls (.long r :: rest))) : W p l e R s m args below meth c H locs cells slots Q (F0 m pc ls st0) := by
  obtain ⟨hx, hb, hml, hr, hown, hts, hlk⟩ := C
  refine va_calll (va_runS ⟨hx, hb, hml, hown, hts⟩ hM cw ⟨PA_blind, fun U hU hW => ⟨rfl, by rw [hU], by rw [hU]; exact hP, va_K.moved hW.alike G.1, NW.warm hW G.2.2⟩⟩ rfl hn hsz hst (lv_room hroom) d hf) hS (fun q _ h => Afr.mono hS.1 h) (fun q h => Afr.mono hS.1 h) (fun r1 u t H1 locs1 ht hvm hw hB hz1 hk1 hS1 => ?_)
  rw [ht] at hB
  rw [hw]
  exact kk H1 locs1 hB hS1
theorem k_callSNi (C : Cx p s m args meth c cc nL ret own ws) (G : Gx D cs ad s) {w w' : va_W} (hP : va_P D vwCl w H) (hS : va_S (Afr ad s.heap.size) s.heap H locs) {y : MethodName} {wsy : List Cond} {rm : Room} {As : List Value} {r : Int32} {mc ms : Nat} (hM : Met l y wsy rm (PA D cs H.size w As) (va_Qi (fun r' (_ : Unit) => r' = r) (fun _ t => va_P D vwCl w' t.heap) (Afr ad H.size)) mc ms (Afr ad H.size)) {index : Nat} {bytes : ByteArray} {maxL n : Nat} {retY : Option FieldType} (cw : va_CN R s args own index y "LineBuffers" bytes maxL retY wsy rm mc ms n ∧ (Cond.static y).before args s = true ∧ True) {st0 : List Value} (hn : As.length = n) (hsz : ls.size = nL) (hst : st0 = As.reverse ++ rest) (hroom : (rest.map fun v => v.category).sum ≤ 8) (d : decode cc pc = .ok (.invokestatic index, 3)) (hf : cells + mc ≤ R.cells ∧ slots + ms ≤ R.slots)
    (kk : ∀ (H1 : Heap) (locs1 : List Loc), va_P D vwCl w' H1 → va_S (Afr ad s.heap.size) s.heap H1 locs1 → W p l e R s m args below meth c H1 locs1 (cells + mc) (slots + ms) Q (F0 m (pc + 3) ls (.int r :: rest))) : W p l e R s m args below meth c H locs cells slots Q (F0 m pc ls st0) := by
  obtain ⟨hx, hb, hml, hr, hown, hts, hlk⟩ := C
  refine va_calli (va_runSN ⟨hx, hb, hml, hown, hts⟩ hM cw ⟨PA_blind, fun U hU hW => ⟨rfl, by rw [hU], by rw [hU]; exact hP, va_K.moved hW.alike G.1, NW.warm hW G.2.2⟩⟩ rfl hn hsz hst (lv_room hroom) d hf) hS (fun q _ h => Afr.mono hS.1 h) (fun q h => Afr.mono hS.1 h) (fun r1 u t H1 locs1 ht hvm hw hB hz1 hk1 hS1 => ?_)
  rw [ht] at hB
  rw [hw]
  exact kk H1 locs1 hB hS1
end ROWS
end
