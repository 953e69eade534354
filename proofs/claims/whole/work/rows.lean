section
-- ===== PART A: goes FIRST, ahead of the names: the tables' words, and 'selects' of the private methods out of them =====
/-- a private method of a class that the tables say can be made, by its rows of tables_1 -/
def lw_okq (q : MethodName × Nat) : Prop := (q.1.cls ≠ "java/lang/invoke/MethodHandle" ∧ q.1.cls ≠ "java/lang/invoke/VarHandle") ∧ Cond.instantiable q.1.cls q.2 ∈ tables_1 ∧ Cond.privateMethod q.1 ∈ tables_1 ∧ Cond.instanceMethod q.1 ∈ tables_1
theorem lw_p0 : lw_okq (⟨"LineBuffers$LineText", "readItem", "(LLineBuffers$Line;)V"⟩, 4) := ⟨⟨by decide +kernel, by decide +kernel⟩, List.mem_of_getElem? (i := 96) (by decide +kernel), List.mem_of_getElem? (i := 206) (by decide +kernel), List.mem_of_getElem? (i := 207) (by decide +kernel)⟩
theorem lw_p1 : lw_okq (⟨"LineBuffers$LineText", "byteAt", "(I)I"⟩, 4) := ⟨⟨by decide +kernel, by decide +kernel⟩, List.mem_of_getElem? (i := 96) (by decide +kernel), List.mem_of_getElem? (i := 210) (by decide +kernel), List.mem_of_getElem? (i := 211) (by decide +kernel)⟩
theorem lw_p2 : lw_okq (⟨"LineBuffers$LineText", "readMachine", "(LLineBuffers$Line;)V"⟩, 4) := ⟨⟨by decide +kernel, by decide +kernel⟩, List.mem_of_getElem? (i := 96) (by decide +kernel), List.mem_of_getElem? (i := 214) (by decide +kernel), List.mem_of_getElem? (i := 215) (by decide +kernel)⟩
theorem lw_p3 : lw_okq (⟨"LineBuffers$LineText", "readNumber", "(IIC)I"⟩, 4) := ⟨⟨by decide +kernel, by decide +kernel⟩, List.mem_of_getElem? (i := 96) (by decide +kernel), List.mem_of_getElem? (i := 218) (by decide +kernel), List.mem_of_getElem? (i := 219) (by decide +kernel)⟩
theorem lw_p4 : lw_okq (⟨"LineBuffers$LineText", "readMarks", "(LLineBuffers$Line;)V"⟩, 4) := ⟨⟨by decide +kernel, by decide +kernel⟩, List.mem_of_getElem? (i := 96) (by decide +kernel), List.mem_of_getElem? (i := 232) (by decide +kernel), List.mem_of_getElem? (i := 233) (by decide +kernel)⟩
theorem lw_p5 : lw_okq (⟨"java/lang/Throwable", "fillInStackTrace", "(I)Ljava/lang/Throwable;"⟩, 6) := ⟨⟨by decide +kernel, by decide +kernel⟩, List.mem_of_getElem? (i := 313) (by decide +kernel), List.mem_of_getElem? (i := 311) (by decide +kernel), List.mem_of_getElem? (i := 312) (by decide +kernel)⟩
theorem lw_p6 : lw_okq (⟨"LineBuffers", "needMachine", "(I)V"⟩, 4) := ⟨⟨by decide +kernel, by decide +kernel⟩, List.mem_of_getElem? (i := 17) (by decide +kernel), List.mem_of_getElem? (i := 368) (by decide +kernel), List.mem_of_getElem? (i := 369) (by decide +kernel)⟩
theorem lw_p7 : lw_okq (⟨"LineBuffers", "needMachines", "(I)V"⟩, 4) := ⟨⟨by decide +kernel, by decide +kernel⟩, List.mem_of_getElem? (i := 17) (by decide +kernel), List.mem_of_getElem? (i := 457) (by decide +kernel), List.mem_of_getElem? (i := 458) (by decide +kernel)⟩
theorem lw_p8 : lw_okq (⟨"LineBuffers$Line", "takeTurn", "(I)V"⟩, 4) := ⟨⟨by decide +kernel, by decide +kernel⟩, List.mem_of_getElem? (i := 25) (by decide +kernel), List.mem_of_getElem? (i := 475) (by decide +kernel), List.mem_of_getElem? (i := 476) (by decide +kernel)⟩
theorem lw_p9 : lw_okq (⟨"LineBuffers$Line", "chooseSpeed", "(I)V"⟩, 4) := ⟨⟨by decide +kernel, by decide +kernel⟩, List.mem_of_getElem? (i := 25) (by decide +kernel), List.mem_of_getElem? (i := 479) (by decide +kernel), List.mem_of_getElem? (i := 480) (by decide +kernel)⟩
theorem lw_p10 : lw_okq (⟨"LineBuffers$Line", "release", "(I)V"⟩, 4) := ⟨⟨by decide +kernel, by decide +kernel⟩, List.mem_of_getElem? (i := 25) (by decide +kernel), List.mem_of_getElem? (i := 490) (by decide +kernel), List.mem_of_getElem? (i := 491) (by decide +kernel)⟩
theorem lw_p11 : lw_okq (⟨"LineBuffers$Line", "takeBottle", "(I)V"⟩, 4) := ⟨⟨by decide +kernel, by decide +kernel⟩, List.mem_of_getElem? (i := 25) (by decide +kernel), List.mem_of_getElem? (i := 497) (by decide +kernel), List.mem_of_getElem? (i := 498) (by decide +kernel)⟩
theorem lw_p12 : lw_okq (⟨"LineBuffers$Line", "countFills", "()V"⟩, 4) := ⟨⟨by decide +kernel, by decide +kernel⟩, List.mem_of_getElem? (i := 25) (by decide +kernel), List.mem_of_getElem? (i := 501) (by decide +kernel), List.mem_of_getElem? (i := 502) (by decide +kernel)⟩
theorem lw_p13 : lw_okq (⟨"LineBuffers$Line", "upTicks", "(II)I"⟩, 4) := ⟨⟨by decide +kernel, by decide +kernel⟩, List.mem_of_getElem? (i := 25) (by decide +kernel), List.mem_of_getElem? (i := 552) (by decide +kernel), List.mem_of_getElem? (i := 553) (by decide +kernel)⟩
theorem lw_p14 : lw_okq (⟨"LineBuffers", "tryCapacity", "(III)I"⟩, 4) := ⟨⟨by decide +kernel, by decide +kernel⟩, List.mem_of_getElem? (i := 17) (by decide +kernel), List.mem_of_getElem? (i := 583) (by decide +kernel), List.mem_of_getElem? (i := 584) (by decide +kernel)⟩
theorem lw_p15 : lw_okq (⟨"LineBuffersModel", "refused", "(I)Z"⟩, 12) := ⟨⟨by decide +kernel, by decide +kernel⟩, List.mem_of_getElem? (i := 629) (by decide +kernel), List.mem_of_getElem? (i := 680) (by decide +kernel), List.mem_of_getElem? (i := 681) (by decide +kernel)⟩
def lw_privs_1 : List (MethodName × Nat) := [(⟨"LineBuffers$LineText", "readItem", "(LLineBuffers$Line;)V"⟩, 4), (⟨"LineBuffers$LineText", "byteAt", "(I)I"⟩, 4), (⟨"LineBuffers$LineText", "readMachine", "(LLineBuffers$Line;)V"⟩, 4), (⟨"LineBuffers$LineText", "readNumber", "(IIC)I"⟩, 4), (⟨"LineBuffers$LineText", "readMarks", "(LLineBuffers$Line;)V"⟩, 4), (⟨"java/lang/Throwable", "fillInStackTrace", "(I)Ljava/lang/Throwable;"⟩, 6), (⟨"LineBuffers", "needMachine", "(I)V"⟩, 4), (⟨"LineBuffers", "needMachines", "(I)V"⟩, 4), (⟨"LineBuffers$Line", "takeTurn", "(I)V"⟩, 4), (⟨"LineBuffers$Line", "chooseSpeed", "(I)V"⟩, 4), (⟨"LineBuffers$Line", "release", "(I)V"⟩, 4), (⟨"LineBuffers$Line", "takeBottle", "(I)V"⟩, 4), (⟨"LineBuffers$Line", "countFills", "()V"⟩, 4), (⟨"LineBuffers$Line", "upTicks", "(II)I"⟩, 4), (⟨"LineBuffers", "tryCapacity", "(III)I"⟩, 4), (⟨"LineBuffersModel", "refused", "(I)Z"⟩, 12)]
theorem lw_r1 : ∀ q ∈ lw_privs_1, lw_okq q := List.forall_mem_cons.mpr ⟨lw_p0, List.forall_mem_cons.mpr ⟨lw_p1, List.forall_mem_cons.mpr ⟨lw_p2, List.forall_mem_cons.mpr ⟨lw_p3, List.forall_mem_cons.mpr ⟨lw_p4, List.forall_mem_cons.mpr ⟨lw_p5, List.forall_mem_cons.mpr ⟨lw_p6, List.forall_mem_cons.mpr ⟨lw_p7, List.forall_mem_cons.mpr ⟨lw_p8, List.forall_mem_cons.mpr ⟨lw_p9, List.forall_mem_cons.mpr ⟨lw_p10, List.forall_mem_cons.mpr ⟨lw_p11, List.forall_mem_cons.mpr ⟨lw_p12, List.forall_mem_cons.mpr ⟨lw_p13, List.forall_mem_cons.mpr ⟨lw_p14, List.forall_mem_cons.mpr ⟨lw_p15, fun _ h => absurd h List.not_mem_nil⟩⟩⟩⟩⟩⟩⟩⟩⟩⟩⟩⟩⟩⟩⟩⟩
theorem lw_p16 : lw_okq (⟨"LineBuffersModel", "saves", "()V"⟩, 12) := ⟨⟨by decide +kernel, by decide +kernel⟩, List.mem_of_getElem? (i := 629) (by decide +kernel), List.mem_of_getElem? (i := 697) (by decide +kernel), List.mem_of_getElem? (i := 698) (by decide +kernel)⟩
theorem lw_p17 : lw_okq (⟨"LineBuffersModel", "adds", "(III)V"⟩, 12) := ⟨⟨by decide +kernel, by decide +kernel⟩, List.mem_of_getElem? (i := 629) (by decide +kernel), List.mem_of_getElem? (i := 701) (by decide +kernel), List.mem_of_getElem? (i := 702) (by decide +kernel)⟩
theorem lw_p18 : lw_okq (⟨"LineBuffersModel", "isMachine", "(I)Z"⟩, 12) := ⟨⟨by decide +kernel, by decide +kernel⟩, List.mem_of_getElem? (i := 629) (by decide +kernel), List.mem_of_getElem? (i := 712) (by decide +kernel), List.mem_of_getElem? (i := 713) (by decide +kernel)⟩
theorem lw_p19 : lw_okq (⟨"LineBuffersModel", "plans", "(III)V"⟩, 12) := ⟨⟨by decide +kernel, by decide +kernel⟩, List.mem_of_getElem? (i := 629) (by decide +kernel), List.mem_of_getElem? (i := 727) (by decide +kernel), List.mem_of_getElem? (i := 728) (by decide +kernel)⟩
theorem lw_p20 : lw_okq (⟨"LineBuffersModel", "draws", "()I"⟩, 12) := ⟨⟨by decide +kernel, by decide +kernel⟩, List.mem_of_getElem? (i := 629) (by decide +kernel), List.mem_of_getElem? (i := 736) (by decide +kernel), List.mem_of_getElem? (i := 737) (by decide +kernel)⟩
theorem lw_p21 : lw_okq (⟨"LineBuffersModel", "goes", "(I)I"⟩, 12) := ⟨⟨by decide +kernel, by decide +kernel⟩, List.mem_of_getElem? (i := 629) (by decide +kernel), List.mem_of_getElem? (i := 760) (by decide +kernel), List.mem_of_getElem? (i := 761) (by decide +kernel)⟩
theorem lw_p22 : lw_okq (⟨"LineBuffersModel", "made", "()I"⟩, 12) := ⟨⟨by decide +kernel, by decide +kernel⟩, List.mem_of_getElem? (i := 629) (by decide +kernel), List.mem_of_getElem? (i := 764) (by decide +kernel), List.mem_of_getElem? (i := 765) (by decide +kernel)⟩
theorem lw_p23 : lw_okq (⟨"LineBuffersModel", "laysDown", "(II)V"⟩, 12) := ⟨⟨by decide +kernel, by decide +kernel⟩, List.mem_of_getElem? (i := 629) (by decide +kernel), List.mem_of_getElem? (i := 768) (by decide +kernel), List.mem_of_getElem? (i := 769) (by decide +kernel)⟩
theorem lw_p24 : lw_okq (⟨"LineBuffersModel", "passes", "()V"⟩, 12) := ⟨⟨by decide +kernel, by decide +kernel⟩, List.mem_of_getElem? (i := 629) (by decide +kernel), List.mem_of_getElem? (i := 772) (by decide +kernel), List.mem_of_getElem? (i := 773) (by decide +kernel)⟩
theorem lw_p25 : lw_okq (⟨"LineBuffersModel", "turns", "(II)I"⟩, 12) := ⟨⟨by decide +kernel, by decide +kernel⟩, List.mem_of_getElem? (i := 629) (by decide +kernel), List.mem_of_getElem? (i := 776) (by decide +kernel), List.mem_of_getElem? (i := 777) (by decide +kernel)⟩
theorem lw_p26 : lw_okq (⟨"LineBuffersModel", "speeds", "(I)V"⟩, 12) := ⟨⟨by decide +kernel, by decide +kernel⟩, List.mem_of_getElem? (i := 629) (by decide +kernel), List.mem_of_getElem? (i := 780) (by decide +kernel), List.mem_of_getElem? (i := 781) (by decide +kernel)⟩
theorem lw_p27 : lw_okq (⟨"LineBuffersModel", "isDown", "(II)Z"⟩, 12) := ⟨⟨by decide +kernel, by decide +kernel⟩, List.mem_of_getElem? (i := 629) (by decide +kernel), List.mem_of_getElem? (i := 784) (by decide +kernel), List.mem_of_getElem? (i := 785) (by decide +kernel)⟩
theorem lw_p28 : lw_okq (⟨"LineBuffersModel", "leaves", "(II)V"⟩, 12) := ⟨⟨by decide +kernel, by decide +kernel⟩, List.mem_of_getElem? (i := 629) (by decide +kernel), List.mem_of_getElem? (i := 788) (by decide +kernel), List.mem_of_getElem? (i := 789) (by decide +kernel)⟩
theorem lw_p29 : lw_okq (⟨"LineBuffersModel", "cycle", "(I)I"⟩, 12) := ⟨⟨by decide +kernel, by decide +kernel⟩, List.mem_of_getElem? (i := 629) (by decide +kernel), List.mem_of_getElem? (i := 792) (by decide +kernel), List.mem_of_getElem? (i := 793) (by decide +kernel)⟩
theorem lw_p30 : lw_okq (⟨"LineBuffersModel", "takes", "(I)V"⟩, 12) := ⟨⟨by decide +kernel, by decide +kernel⟩, List.mem_of_getElem? (i := 629) (by decide +kernel), List.mem_of_getElem? (i := 796) (by decide +kernel), List.mem_of_getElem? (i := 797) (by decide +kernel)⟩
theorem lw_p31 : lw_okq (⟨"LineBuffersModel", "empties", "()V"⟩, 12) := ⟨⟨by decide +kernel, by decide +kernel⟩, List.mem_of_getElem? (i := 629) (by decide +kernel), List.mem_of_getElem? (i := 804) (by decide +kernel), List.mem_of_getElem? (i := 805) (by decide +kernel)⟩
def lw_privs_2 : List (MethodName × Nat) := [(⟨"LineBuffersModel", "saves", "()V"⟩, 12), (⟨"LineBuffersModel", "adds", "(III)V"⟩, 12), (⟨"LineBuffersModel", "isMachine", "(I)Z"⟩, 12), (⟨"LineBuffersModel", "plans", "(III)V"⟩, 12), (⟨"LineBuffersModel", "draws", "()I"⟩, 12), (⟨"LineBuffersModel", "goes", "(I)I"⟩, 12), (⟨"LineBuffersModel", "made", "()I"⟩, 12), (⟨"LineBuffersModel", "laysDown", "(II)V"⟩, 12), (⟨"LineBuffersModel", "passes", "()V"⟩, 12), (⟨"LineBuffersModel", "turns", "(II)I"⟩, 12), (⟨"LineBuffersModel", "speeds", "(I)V"⟩, 12), (⟨"LineBuffersModel", "isDown", "(II)Z"⟩, 12), (⟨"LineBuffersModel", "leaves", "(II)V"⟩, 12), (⟨"LineBuffersModel", "cycle", "(I)I"⟩, 12), (⟨"LineBuffersModel", "takes", "(I)V"⟩, 12), (⟨"LineBuffersModel", "empties", "()V"⟩, 12)]
theorem lw_r2 : ∀ q ∈ lw_privs_2, lw_okq q := List.forall_mem_cons.mpr ⟨lw_p16, List.forall_mem_cons.mpr ⟨lw_p17, List.forall_mem_cons.mpr ⟨lw_p18, List.forall_mem_cons.mpr ⟨lw_p19, List.forall_mem_cons.mpr ⟨lw_p20, List.forall_mem_cons.mpr ⟨lw_p21, List.forall_mem_cons.mpr ⟨lw_p22, List.forall_mem_cons.mpr ⟨lw_p23, List.forall_mem_cons.mpr ⟨lw_p24, List.forall_mem_cons.mpr ⟨lw_p25, List.forall_mem_cons.mpr ⟨lw_p26, List.forall_mem_cons.mpr ⟨lw_p27, List.forall_mem_cons.mpr ⟨lw_p28, List.forall_mem_cons.mpr ⟨lw_p29, List.forall_mem_cons.mpr ⟨lw_p30, List.forall_mem_cons.mpr ⟨lw_p31, fun _ h => absurd h List.not_mem_nil⟩⟩⟩⟩⟩⟩⟩⟩⟩⟩⟩⟩⟩⟩⟩⟩
theorem lw_p32 : lw_okq (⟨"LineBuffersModel", "tellMachine", "(II)I"⟩, 12) := ⟨⟨by decide +kernel, by decide +kernel⟩, List.mem_of_getElem? (i := 629) (by decide +kernel), List.mem_of_getElem? (i := 824) (by decide +kernel), List.mem_of_getElem? (i := 825) (by decide +kernel)⟩
theorem lw_p33 : lw_okq (⟨"LineBuffersModel", "bottles", "()I"⟩, 12) := ⟨⟨by decide +kernel, by decide +kernel⟩, List.mem_of_getElem? (i := 629) (by decide +kernel), List.mem_of_getElem? (i := 840) (by decide +kernel), List.mem_of_getElem? (i := 841) (by decide +kernel)⟩
theorem lw_p34 : lw_okq (⟨"LineBuffersModel", "refusedLimit", "(I)Z"⟩, 12) := ⟨⟨by decide +kernel, by decide +kernel⟩, List.mem_of_getElem? (i := 629) (by decide +kernel), List.mem_of_getElem? (i := 848) (by decide +kernel), List.mem_of_getElem? (i := 849) (by decide +kernel)⟩
theorem lw_p35 : lw_okq (⟨"LineBuffersModel", "slowestOf", "(I)I"⟩, 12) := ⟨⟨by decide +kernel, by decide +kernel⟩, List.mem_of_getElem? (i := 629) (by decide +kernel), List.mem_of_getElem? (i := 852) (by decide +kernel), List.mem_of_getElem? (i := 853) (by decide +kernel)⟩
theorem lw_p36 : lw_okq (⟨"LineBuffersModel", "most", "(II)I"⟩, 12) := ⟨⟨by decide +kernel, by decide +kernel⟩, List.mem_of_getElem? (i := 629) (by decide +kernel), List.mem_of_getElem? (i := 856) (by decide +kernel), List.mem_of_getElem? (i := 857) (by decide +kernel)⟩
theorem lw_p37 : lw_okq (⟨"LineBuffersModel", "idle", "(I)I"⟩, 12) := ⟨⟨by decide +kernel, by decide +kernel⟩, List.mem_of_getElem? (i := 629) (by decide +kernel), List.mem_of_getElem? (i := 868) (by decide +kernel), List.mem_of_getElem? (i := 869) (by decide +kernel)⟩
theorem lw_p38 : lw_okq (⟨"LineBuffersModel", "madeWith", "(III)I"⟩, 12) := ⟨⟨by decide +kernel, by decide +kernel⟩, List.mem_of_getElem? (i := 629) (by decide +kernel), List.mem_of_getElem? (i := 879) (by decide +kernel), List.mem_of_getElem? (i := 880) (by decide +kernel)⟩
theorem lw_p39 : lw_okq (⟨"LineBuffersModel", "keeps", "()V"⟩, 12) := ⟨⟨by decide +kernel, by decide +kernel⟩, List.mem_of_getElem? (i := 629) (by decide +kernel), List.mem_of_getElem? (i := 883) (by decide +kernel), List.mem_of_getElem? (i := 884) (by decide +kernel)⟩
theorem lw_p40 : lw_okq (⟨"LineBuffersModel", "takesBack", "()V"⟩, 12) := ⟨⟨by decide +kernel, by decide +kernel⟩, List.mem_of_getElem? (i := 629) (by decide +kernel), List.mem_of_getElem? (i := 887) (by decide +kernel), List.mem_of_getElem? (i := 888) (by decide +kernel)⟩
theorem lw_p41 : lw_okq (⟨"LineBuffersModel", "readsMachine", "()Z"⟩, 12) := ⟨⟨by decide +kernel, by decide +kernel⟩, List.mem_of_getElem? (i := 629) (by decide +kernel), List.mem_of_getElem? (i := 911) (by decide +kernel), List.mem_of_getElem? (i := 912) (by decide +kernel)⟩
theorem lw_p42 : lw_okq (⟨"LineBuffersModel", "number", "(II)Z"⟩, 12) := ⟨⟨by decide +kernel, by decide +kernel⟩, List.mem_of_getElem? (i := 629) (by decide +kernel), List.mem_of_getElem? (i := 915) (by decide +kernel), List.mem_of_getElem? (i := 916) (by decide +kernel)⟩
theorem lw_p43 : lw_okq (⟨"LineBuffersModel", "isAt", "(II)Z"⟩, 12) := ⟨⟨by decide +kernel, by decide +kernel⟩, List.mem_of_getElem? (i := 629) (by decide +kernel), List.mem_of_getElem? (i := 919) (by decide +kernel), List.mem_of_getElem? (i := 920) (by decide +kernel)⟩
theorem lw_p44 : lw_okq (⟨"LineBuffersModel", "sign", "(I)Z"⟩, 12) := ⟨⟨by decide +kernel, by decide +kernel⟩, List.mem_of_getElem? (i := 629) (by decide +kernel), List.mem_of_getElem? (i := 923) (by decide +kernel), List.mem_of_getElem? (i := 924) (by decide +kernel)⟩
theorem lw_p45 : lw_okq (⟨"LineBuffersModel", "readsMarks", "()Z"⟩, 12) := ⟨⟨by decide +kernel, by decide +kernel⟩, List.mem_of_getElem? (i := 629) (by decide +kernel), List.mem_of_getElem? (i := 927) (by decide +kernel), List.mem_of_getElem? (i := 928) (by decide +kernel)⟩
theorem lw_p46 : lw_okq (⟨"LineBuffersModel", "mix", "(I)V"⟩, 12) := ⟨⟨by decide +kernel, by decide +kernel⟩, List.mem_of_getElem? (i := 629) (by decide +kernel), List.mem_of_getElem? (i := 936) (by decide +kernel), List.mem_of_getElem? (i := 937) (by decide +kernel)⟩
def lw_privs_3 : List (MethodName × Nat) := [(⟨"LineBuffersModel", "tellMachine", "(II)I"⟩, 12), (⟨"LineBuffersModel", "bottles", "()I"⟩, 12), (⟨"LineBuffersModel", "refusedLimit", "(I)Z"⟩, 12), (⟨"LineBuffersModel", "slowestOf", "(I)I"⟩, 12), (⟨"LineBuffersModel", "most", "(II)I"⟩, 12), (⟨"LineBuffersModel", "idle", "(I)I"⟩, 12), (⟨"LineBuffersModel", "madeWith", "(III)I"⟩, 12), (⟨"LineBuffersModel", "keeps", "()V"⟩, 12), (⟨"LineBuffersModel", "takesBack", "()V"⟩, 12), (⟨"LineBuffersModel", "readsMachine", "()Z"⟩, 12), (⟨"LineBuffersModel", "number", "(II)Z"⟩, 12), (⟨"LineBuffersModel", "isAt", "(II)Z"⟩, 12), (⟨"LineBuffersModel", "sign", "(I)Z"⟩, 12), (⟨"LineBuffersModel", "readsMarks", "()Z"⟩, 12), (⟨"LineBuffersModel", "mix", "(I)V"⟩, 12)]
theorem lw_r3 : ∀ q ∈ lw_privs_3, lw_okq q := List.forall_mem_cons.mpr ⟨lw_p32, List.forall_mem_cons.mpr ⟨lw_p33, List.forall_mem_cons.mpr ⟨lw_p34, List.forall_mem_cons.mpr ⟨lw_p35, List.forall_mem_cons.mpr ⟨lw_p36, List.forall_mem_cons.mpr ⟨lw_p37, List.forall_mem_cons.mpr ⟨lw_p38, List.forall_mem_cons.mpr ⟨lw_p39, List.forall_mem_cons.mpr ⟨lw_p40, List.forall_mem_cons.mpr ⟨lw_p41, List.forall_mem_cons.mpr ⟨lw_p42, List.forall_mem_cons.mpr ⟨lw_p43, List.forall_mem_cons.mpr ⟨lw_p44, List.forall_mem_cons.mpr ⟨lw_p45, List.forall_mem_cons.mpr ⟨lw_p46, fun _ h => absurd h List.not_mem_nil⟩⟩⟩⟩⟩⟩⟩⟩⟩⟩⟩⟩⟩⟩⟩
def lw_privs : List (MethodName × Nat) := lw_privs_1 ++ (lw_privs_2 ++ (lw_privs_3))
def lw_tbl : List Cond := k2_sels lw_privs ++ tables_1
theorem lw_privs_ok : ∀ q ∈ lw_privs, lw_okq q := by
  show ∀ q ∈ lw_privs_1 ++ (lw_privs_2 ++ (lw_privs_3)), lw_okq q
  exact List.forall_mem_append.mpr ⟨lw_r1, List.forall_mem_append.mpr ⟨lw_r2, lw_r3⟩⟩
/-- the streams that the claim lets the run draw from -/
abbrev lw_cs : List Choice := [Jvm.Choice.named "NaN.bits"]
theorem lw_bits : nanBits ∈ lw_cs := by first | decide | exact List.mem_cons_self | simp [lw_cs, nanBits]
end
section
/-- the tables' word of arrays over arrays (the printed names use it, the kit of worlds doesn't hold it) -/
def va_AOA (ty : FieldType) (U : State) : Prop := (Cond.arrayOver (.array ty)).before #[] U = true
theorem va_AOA.of {ty : FieldType} {A : Array Value} {U : State} (h : (Cond.arrayOver (.array ty)).before A U = true) : va_AOA ty U := h
theorem va_AOA.use {ty : FieldType} {A : Array Value} {U : State} (h : va_AOA ty U) : (Cond.arrayOver (.array ty)).before A U = true := h
end
section
/-! ===== BEGIN words of one list among another's, by their places ===== -/
theorem goodIn_r {big : List Cond} (ws : List Cond) (ps : List Nat) (hp : ws = ps.filterMap (fun i => big[i]?)) (h : ws.all goodWord = true) : GoodIn big ws := by
  intro w hw
  have h1 := List.all_eq_true.mp h w hw
  rw [hp] at hw
  obtain ⟨i, -, hi⟩ := List.mem_filterMap.mp hw
  have hm : w ∈ big := by first | exact List.mem_of_getElem? hi | exact List.getElem?_mem hi
  exact ⟨hm, good_of_word h1⟩
theorem goodIn_app {big a b : List Cond} (ha : GoodIn big a) (hb : GoodIn big b) : GoodIn big (a ++ b) := fun w h => (List.mem_append.mp h).elim (ha w) (hb w)
theorem goodIn_ca {big a b : List Cond} {c : Cond} (ha : GoodIn big (c :: a)) (hb : GoodIn big b) : GoodIn big (c :: (a ++ b)) := fun w h => (List.mem_cons.mp h).elim (fun e => ha w (List.mem_cons.mpr (Or.inl e))) (fun h => (List.mem_append.mp h).elim (fun h => ha w (List.mem_cons.mpr (Or.inr h))) (hb w))
theorem goodIn_sub {big ws : List Cond} (hm : ∀ w ∈ ws, w ∈ big) (h : ws.all goodWord = true) : GoodIn big ws := fun w hw => ⟨hm w hw, good_of_word (List.all_eq_true.mp h w hw)⟩
/-! ===== END ===== -/

/-! ===== BEGIN new T[n][m]: the outer array a place, the inner ones among the pooled ===== -/
/-- f, but v at every address of l -/
def vr_up {α : Type} (f : Nat → α) (l : List Nat) (v : α) : Nat → α := fun a => if a ∈ l then v else f a
theorem vr_up_in {α : Type} {f : Nat → α} {l : List Nat} {v : α} {a : Nat} (h : a ∈ l) : vr_up f l v a = v := if_pos h
theorem vr_up_ne {α : Type} {f : Nat → α} {l : List Nat} {v : α} {a : Nat} (h : a ∉ l) : vr_up f l v a = f a := if_neg h
theorem vr_rows {L l : List Nat} {f : Nat → va_E} {e : va_E} (h : ∀ a, a ∈ l → a ∉ L) : va_pl L f ++ l.map (fun a => (a, e)) = va_pl (L ++ l) (vr_up f l e) := by
  unfold va_pl
  rw [List.map_append]
  congr 1
  · apply List.map_congr_left
    intro a ha
    rw [vr_up_ne (fun q => h a q ha)]
  · apply List.map_congr_left
    intro a ha
    rw [vr_up_in ha]
theorem vr_lay {X rows : va_W} {x : Nat × va_E} {pl : va_W} {D : va_G} {cl : List vw_C} {H : Heap} (hP : va_P D cl (((X ++ pl) ++ [x]) ++ rows) H) : va_P D cl ((X ++ [x]) ++ (pl ++ rows)) H := by
  rw [List.append_assoc (X ++ pl)] at hP
  have h := va_P.swap hP
  rw [← List.append_assoc X] at h
  have h2 := va_P.swap h
  rw [List.append_assoc (X ++ [x])] at h2
  exact h2
theorem vr_layD {X rows : va_W} {x : Nat × va_E} {pl : va_W} {A : Nat → Prop} (hD : va_D A (((X ++ pl) ++ [x]) ++ rows)) : va_D A ((X ++ [x]) ++ (pl ++ rows)) := by
  rw [List.append_assoc (X ++ pl)] at hD
  have h := va_D.swap hD
  rw [← List.append_assoc X] at h
  have h2 := va_D.swap h
  rw [List.append_assoc (X ++ [x])] at h2
  exact h2
theorem vr_outer (c : ClassId) (N h0 : Nat) : ∀ i : Nat, Jvm.Free.Multi.outerC c N h0 i = arrV c N (fun j => va_rf (if j < i then some (h0 + 1 + j) else none))
  | 0 => by
    show ({ cls := c, slots := Array.replicate N .null, vm := .none } : Cell) = _
    rw [arrV_new]
    refine congrArg (arrV c N) (funext fun j => ?_)
    simp [va_rf]
  | i + 1 => by
    show (Jvm.Free.Multi.outerC c N h0 i).setSlot i (.ref (h0 + 1 + i)) = _
    rw [vr_outer c N h0 i, arrV_store]
    refine congrArg (arrV c N) (funext fun j => ?_)
    by_cases e : j = i
    · subst e
      simp [updV, va_rf]
    · by_cases h : j < i
      · simp [updV, e, h, Nat.lt_succ_of_lt h]
      · simp [updV, e, h, show ¬ j < i + 1 by omega]
section VGM
variable {p : Program} {l : Launch} {e : Env} {R : Room} {s : State} {m : MethodId} {args : Array Value} {below : List Frame} {meth : Method} {c : Code} {H : Heap} {locs : List Loc} {cells slots : Nat} {Q : State → Prop}
variable {cc : ByteArray} {pc : Nat} {ls : Array Slot} {rest : List Value} {D : va_G} {cl : List vw_C} {A : Nat → Prop} {a : Nat} {tys : List (ClassId × FieldType)} {ws : va_W} {H0 : Heap}
theorem va_mna {X : va_W} {L : List Nat} {f : Nat → va_E} {cc : ByteArray} (hexec : p.tables.exec = Jvm.exec) (hb : c.code = cc) {own : String} {index : Nat} {ty : FieldType} {cy : ClassId} (hown : s.vm.findClass own = some m.cls) (hclink : (Cond.classLink own index ("[" ++ (FieldType.array ty).toString)).before args s = true) (hover : va_AOA ty s) (harr : (Cond.arrayClass ty).before args s = true) (hcy : s.vm.findClass (FieldType.array ty).toString = some cy)
    (hK : va_K D cl tys s) (hP : va_P D cl (X ++ va_pl L f) H) (hD : va_D A (X ++ va_pl L f)) (hS : va_S A H0 H locs) (hA : ∀ q, H0.size ≤ q → A q) {n k : Int32} {N' K' : Nat} {z : vp_A} (hn : ¬ n < 0) (hk : ¬ k < 0) (hN : n.toNatClampNeg = N') (hM : k.toNatClampNeg = K')
    (hb1 : N' * 4 ≤ 536870912) (hb2 : K' * componentBytes ty ≤ 536870912) (hb3 : K' ≤ 536870912) (hdf : fits ty (defaultValue ty) = true) (hdd : (defaultValue ty).isDefault = true) (hcells : cells + (1 + N') ≤ R.cells) (hslots : slots + (N' + N' * K') ≤ R.slots) (hz : ∀ c : ClassId, Jvm.Free.Multi.innerC c K' (defaultValue ty) = vp_cell c z) (hdg : decode cc pc = .ok (.multianewarray index 2, 4))
    (kk : ∀ (q : Nat) (r : Nat → Nat) (cA : ClassId) (H1 : Heap), (∀ i j : Nat, i < N' → j < N' → r i = r j → i = j) → (∀ i : Nat, i < N' → r i ∉ L) → va_K D cl (tys ++ [(cA, .array ty)]) s →
      va_P D cl ((X ++ [(q, .inl (cA, N', .inr (.inr (.inr (.inr (fun i => if i < N' then some (r i) else none))))))]) ++ va_pl (L ++ (List.range N').map r) (vr_up f ((List.range N').map r) (.inl (cy, z)))) H1 → va_D A ((X ++ [(q, .inl (cA, N', .inr (.inr (.inr (.inr (fun i => if i < N' then some (r i) else none))))))]) ++ va_pl (L ++ (List.range N').map r) (vr_up f ((List.range N').map r) (.inl (cy, z)))) → va_S A H0 H1 locs →
      W p l e R s m args below meth c H1 locs (cells + 1 + N') (slots + N' + N' * K') Q (F0 m (pc + 4) ls (.ref q :: rest))) : W p l e R s m args below meth c H locs cells slots Q (F0 m pc ls (.int k :: .int n :: rest)) := by
  subst hN
  subst hM
  intro T hT Xs
  obtain ⟨vm₁, cA, comp, -, fA, fC, hO, -, X', step⟩ := Xs.multianewarray2F hexec hown hclink (va_AOA.use hover) harr (g := F0 m pc ls (.int k :: .int n :: rest)) rfl (by rw [hb]; exact hdg) rfl hn hk hb1 hb2 hb3 hdf hdd hcells hslots
  have ec : some cy = some comp := hcy.symm.trans fC
  cases ec
  generalize hF : Jvm.Free.Multi.fill (T.setVm vm₁) cA cy n.toNatClampNeg k.toNatClampNeg (defaultValue ty) n.toNatClampNeg = F at X' step
  have hTh : (T.setVm vm₁).heap = H := hT
  obtain ⟨f1, f2, -, -⟩ := Jvm.Free.Multi.fill_facts (T.setVm vm₁) cA cy n.toNatClampNeg k.toNatClampNeg (defaultValue ty) n.toNatClampNeg
  rw [hF, hTh] at f1 f2
  have hold : ∀ x : Nat, x < H.size → F.heap[x]? = H[x]? := fun x hx => by
    have := Jvm.Free.Multi.fill_old (T.setVm vm₁) cA cy n.toNatClampNeg k.toNatClampNeg (defaultValue ty) (a := x) (by rw [hTh]; exact hx) n.toNatClampNeg
    rw [hF, hTh] at this
    exact this
  have hrow : ∀ j : Nat, j < n.toNatClampNeg → F.heap[H.size + 1 + j]? = some (vp_cell cy z) := fun j hj => by
    have := Jvm.Free.Multi.fill_inner (T.setVm vm₁) cA cy n.toNatClampNeg k.toNatClampNeg (defaultValue ty) n.toNatClampNeg j hj
    rw [hF, hTh, hz] at this
    exact this
  have hout : Jvm.Free.Multi.outerC cA n.toNatClampNeg H.size n.toNatClampNeg = vp_cell cA (n.toNatClampNeg, .inr (.inr (.inr (.inr (fun i => if i < n.toNatClampNeg then some (H.size + 1 + i) else none))))) := by
    rw [vp_cell_q]
    exact vr_outer cA n.toNatClampNeg H.size n.toNatClampNeg
  rw [hout] at f2
  have hlt : ∀ a, a ∈ L → a < H.size := fun a ha => by
    obtain ⟨k9, hk9⟩ := va_pl_get (X := X) (f := f) ha
    exact (hP k9 _ hk9).lt
  have hnl : ∀ i : Nat, i < n.toNatClampNeg → H.size + 1 + i ∉ L := fun i _ h => by
    have := hlt _ h
    omega
  have hnm : ∀ a, a ∈ (List.range n.toNatClampNeg).map (fun i => H.size + 1 + i) → a ∉ L := fun a ha h => by
    obtain ⟨i, -, rfl⟩ := List.mem_map.mp ha
    have := hlt _ h
    omega
  have hP0 : va_P D cl (X ++ va_pl L f) F.heap := hP.kept (fun k9 x hx => hold x.1 ((hP k9 x hx).lt))
  have hP1 : va_P D cl ((X ++ va_pl L f) ++ [(H.size, .inl (cA, n.toNatClampNeg, .inr (.inr (.inr (.inr (fun i => if i < n.toNatClampNeg then some (H.size + 1 + i) else none))))))]) F.heap := hP0.app (fun k9 x hx => by
    have h0 : k9 < 1 := (List.getElem?_eq_some_iff.mp hx).1
    rw [show k9 = 0 by omega] at hx
    cases hx
    exact f2)
  have hP2 : va_P D cl (((X ++ va_pl L f) ++ [(H.size, .inl (cA, n.toNatClampNeg, .inr (.inr (.inr (.inr (fun i => if i < n.toNatClampNeg then some (H.size + 1 + i) else none))))))]) ++ ((List.range n.toNatClampNeg).map (fun i => H.size + 1 + i)).map (fun a => (a, .inl (cy, z)))) F.heap := hP1.app (fun k9 x hx => by
    obtain ⟨a, ha, rfl⟩ := List.mem_map.mp (List.mem_of_getElem? hx)
    obtain ⟨i, hi, rfl⟩ := List.mem_map.mp ha
    exact hrow i (List.mem_range.mp hi))
  have hD2 : va_D A (((X ++ va_pl L f) ++ [(H.size, .inl (cA, n.toNatClampNeg, .inr (.inr (.inr (.inr (fun i => if i < n.toNatClampNeg then some (H.size + 1 + i) else none))))))]) ++ ((List.range n.toNatClampNeg).map (fun i => H.size + 1 + i)).map (fun a => (a, .inl (cy, z)))) := by
    have hD1 := hD.push (e := .inl (cA, n.toNatClampNeg, .inr (.inr (.inr (.inr (fun i => if i < n.toNatClampNeg then some (H.size + 1 + i) else none)))))) hP rfl (hA _ hS.1)
    generalize hW1 : (X ++ va_pl L f) ++ [(H.size, .inl (cA, n.toNatClampNeg, .inr (.inr (.inr (.inr (fun i => if i < n.toNatClampNeg then some (H.size + 1 + i) else none))))))] = W1 at hD1 hP1 ⊢
    have hle : ∀ (k9 : Nat) (x : Nat × va_E), W1[k9]? = some x → x.1 ≤ H.size := fun k9 x hx => by
      rw [← hW1] at hx
      by_cases hl : k9 < (X ++ va_pl L f).length
      · rw [List.getElem?_append_left hl] at hx
        exact Nat.le_of_lt ((hP k9 x hx).lt)
      · rw [List.getElem?_append_right (by omega)] at hx
        have h0 : k9 - (X ++ va_pl L f).length < 1 := (List.getElem?_eq_some_iff.mp hx).1
        rw [show k9 - (X ++ va_pl L f).length = 0 by omega] at hx
        cases hx
        exact Nat.le_refl _
    have hr : ∀ (k9 : Nat) (x : Nat × va_E), (((List.range n.toNatClampNeg).map (fun i => H.size + 1 + i)).map (fun a => ((a, .inl (cy, z)) : Nat × va_E)))[k9]? = some x → x.1 = H.size + 1 + k9 := fun k9 x hx => by
      rw [List.getElem?_map, List.getElem?_map] at hx
      by_cases h9 : k9 < n.toNatClampNeg
      · rw [List.getElem?_range h9] at hx
        cases hx
        rfl
      · have hn0 : (List.range n.toNatClampNeg)[k9]? = none := List.getElem?_eq_none (by rw [List.length_range]; omega)
        rw [hn0] at hx
        cases hx
    refine ⟨fun i j x y hi hj hxy => ?_, fun k9 x hx => ?_⟩
    · by_cases h1 : i < W1.length <;> by_cases h2 : j < W1.length
      · rw [List.getElem?_append_left h1] at hi
        rw [List.getElem?_append_left h2] at hj
        exact hD1.1 i j x y hi hj hxy
      · rw [List.getElem?_append_left h1] at hi
        rw [List.getElem?_append_right (by omega)] at hj
        have := hle _ _ hi
        have := hr _ _ hj
        omega
      · rw [List.getElem?_append_right (by omega)] at hi
        rw [List.getElem?_append_left h2] at hj
        have := hle _ _ hj
        have := hr _ _ hi
        omega
      · rw [List.getElem?_append_right (by omega)] at hi hj
        have := hr _ _ hi
        have := hr _ _ hj
        omega
    · by_cases h1 : k9 < W1.length
      · rw [List.getElem?_append_left h1] at hx
        exact hD1.2 k9 x hx
      · rw [List.getElem?_append_right (by omega)] at hx
        have := hr _ _ hx
        exact hA _ (by have := hS.1; omega)
  have hAr : ArrOfT s cA (.array ty) := fun N9 z9 => by
    obtain ⟨-, k9, hk9, cm9, hkk9⟩ := (hO 0 0 0).1
    exact ⟨(fun q hq => by cases hq), k9, hk9, cm9, hkk9⟩
  have hK2 : va_K D cl (tys ++ [(cA, .array ty)]) s := ⟨hK.1, fun k9 x hx => by
    by_cases hl : k9 < tys.length
    · rw [List.getElem?_append_left hl] at hx
      exact hK.2 k9 x hx
    · rw [List.getElem?_append_right (by omega)] at hx
      have h0 : k9 - tys.length < 1 := (List.getElem?_eq_some_iff.mp hx).1
      rw [show k9 - tys.length = 0 by omega] at hx
      cases hx
      exact ⟨hAr, fA⟩⟩
  obtain ⟨t, a1, b1⟩ := kk H.size (fun i => H.size + 1 + i) cA F.heap (fun i j _ _ h => by have h9 : H.size + 1 + i = H.size + 1 + j := h; omega) hnl hK2 (by rw [← vr_rows hnm]; exact vr_lay hP2) (by rw [← vr_rows hnm]; exact vr_layD hD2) ⟨by rw [f1]; have := hS.1; omega, fun x h1 h2 => (hold x (Nat.lt_of_lt_of_le h1 hS.1)).trans (hS.2.1 x h1 h2), hS.2.2⟩ F rfl X'
  refine ⟨t, step t ?_, b1⟩
  have e : T.heap.size = H.size := by rw [hT]
  rw [e]
  exact a1
end VGM
/-! ===== END ===== -/

/-! ===== BEGIN exceptions that leave a method, and their catching by the caller (launches without stack traces) ===== -/
section VXA
/-! The laws vx_back, vx_callV, vx_callS, vx_callSW, vx_throw0, vx_throwS follow proofs of the library, with one case more: JvmDerived/Free/Laws.lean (Back.of_free), Shelf42/LK1.lean (callV, callS), Shelf/KitTraced.lean (throwNew0V, throwNewS). -/
/-- where a method has thrown q: the class by its name, the cell, what was written, the world -/
def vx_T (XC : String → State → State → Prop) (st : State) (q : Addr) (t : State) (mc ms : Nat) (free : Addr → Prop) : Prop :=
  ∃ (E : String) (ce : Cell) (L : List Loc), XC E st t ∧ t.heap[q]? = some ce ∧ ce.vm = .none ∧ st.vm.findClass E = some ce.cls ∧ st.WarmedH t.vm ∧ st.sameButNew ({ t with vm := st.vm } : State) L mc ms ∧ ∀ z ∈ L, free z.base
def vx_Q (Qc : Array Value → State → Outcome → State → Prop) (XC : String → State → State → Prop) (mc ms : Nat) (free : Addr → Prop) : Array Value → State → Outcome → State → Prop := fun a st o t =>
  (Qc a st o t ∧ ∃ L, FrameEnd st o t L mc ms ∧ ∀ q ∈ L, free q.base) ∨ ∃ q, o = .threw q ∧ vx_T XC st q t mc ms free
/-- a callee that returns or throws -/
def vx_Met (l : Launch) (y : MethodName) (ws : List Cond) (rm : Room) (Pc : Array Value → State → Prop) (Qc : Array Value → State → Outcome → State → Prop) (XC : String → State → State → Prop) (mc ms : Nat) (free : Addr → Prop) : Prop :=
  MetFree l y (headSpec ws rm) Pc (fun _ _ _ _ _ => True) (vx_Q Qc XC mc ms free)
def vx_Post (XC : String → State → State → Prop) (mc ms : Nat) (free : Addr → Prop) : Pt → Array Value → Addr → Pt → Prop := fun A a q B =>
  ∃ (g : JFrame) (mk : MethodId) (t : State) (L : List Loc) (E : String) (ce : Cell), B.U.heap = t.heap ∧ B.U.vm = t.vm ∧ XC E (A.U.calling g mk a) t ∧ t.heap[q]? = some ce ∧ ce.vm = .none ∧ A.U.vm.findClass E = some ce.cls ∧ B.locs = A.locs ++ L ∧ (∀ z ∈ L, free z.base) ∧ B.cells = A.cells + mc ∧ B.slots = A.slots + ms
def vx_Back (l : Launch) (R : Room) (p : Program) (e : Env) (below : List Frame) (s : State) (sargs : Array Value) (y : MethodName) (len W9 : Nat)
    (Pre : Pt → Array Value → Prop) (Post : Pt → Array Value → Option Value → Pt → Prop) (PostX : Pt → Array Value → Addr → Pt → Prop) : Prop :=
  ∀ (m : MethodId) (meth : Method) (c : Code) (A : Pt) (g : JFrame) (ig : Instr) (mk : MethodId) (a : Array Value),
    Stand p l e R s m sargs below meth c A.U A.locs A.cells A.slots → g.method = m → g.locals.size = c.maxLocals → decode c.code g.pc = .ok (ig, len) →
    2 * g.monitorRoom + (g.stack.map fun v => v.category).sum ≤ W9 → A.U.methodNamed? y = some mk → Pre A a →
    (∃ (v : Option Value) (B : Pt), Stand p l e R s m sargs below meth c B.U B.locs B.cells B.slots ∧ Post A a v B ∧
      Steps p.tables e below (doInvoke e (A.U.setTop g) [] mk a).1 (B.U.setTop { g with pc := g.pc + len, stack := v.toList ++ g.stack })) ∨
    (∃ (q : Addr) (B : Pt), Stand p l e R s m sargs below meth c B.U B.locs B.cells B.slots ∧ PostX A a q B ∧
      Steps p.tables e below (doInvoke e (A.U.setTop g) [] mk a).1 ((B.U.setTop g).pushFrame (.throwing q)))
section Payer
variable {l : Launch} {R : Room} {p : Program} {e : Env} {below : List Frame} {s : State} {sargs : Array Value} {y : MethodName} {len W9 : Nat}
theorem vx_back {ws : List Cond} {rm : Room} {Pc : Array Value → State → Prop} {Qc : Array Value → State → Outcome → State → Prop} {XC : String → State → State → Prop} {mc ms : Nat} {free : Addr → Prop} {bytes : ByteArray} {maxL : Nat} {ret : Option FieldType}
    (hM : vx_Met l y ws rm Pc Qc XC mc ms free) (hblind : FrameBlind Pc) (hrc : rm.cells = mc) (hrs : rm.slots = ms)
    (hframes : rm.frames + 1 ≤ R.frames) (hlocals : W9 + (maxL + 11) + rm.locals ≤ R.locals)
    (hws : ∀ w ∈ ws, ∀ a' U, s.WarmedH U.vm → w.before a' U = true) (hcode : Cond.code y bytes maxL ret ∈ ws) (hinit : ∀ a' U, s.WarmedH U.vm → (Cond.initialized y.cls).before a' U = true) :
    vx_Back l R p e below s sargs y len W9 (PreOf R mc ms Pc) (PostOf Qc mc ms free) (vx_Post XC mc ms free) := by
  intro m meth c A g ig mk a X hg hsize hdg hW hn hp
  have h1 : (headSpec ws rm).pre.before a A.U = true := atoms_intro fun w hw => hws w hw _ _ X.warmed
  have h2 : (Cond.code y bytes maxL ret).before a A.U = true := hws _ hcode _ _ X.warmed
  have h3 : (Cond.initialized y.cls).before a A.U = true := hinit _ _ X.warmed
  have h4 : A.cells + (headSpec ws rm).room.cells ≤ R.cells := by rw [show (headSpec ws rm).room.cells = mc from hrc]; exact hp.1
  have h5 : A.slots + (headSpec ws rm).room.slots ≤ R.slots := by rw [show (headSpec ws rm).room.slots = ms from hrs]; exact hp.2.1
  have hPc : Pc a (A.U.calling g mk a) := hblind _ _ _ _ hp.2.2
  obtain ⟨U, Ls, c0, s0⟩ := A
  dsimp only [Pt.U, Pt.locs, Pt.cells, Pt.slots] at h1 h2 h3 h4 h5 X hn hPc ⊢
  obtain ⟨methY, cY, hmY, hcY, -, hlY, -, -, -, -⟩ := Cond.code_spec hn h2
  obtain ⟨kY, hkY, -⟩ := className_of_methodNamed hn
  have hinitY : kY.init = .initialized := Cond.initialized_spec (findClass_of_methodNamed hn) hkY h3
  have h : At U g.method c below := by rw [hg]; exact X.here
  have hlocals9 : W9 + (maxL + 11) + (headSpec ws rm).room.locals ≤ R.locals := hlocals
  have happ : (headSpec ws rm).appliesLoose y e.platform (U.calling g mk a) = true :=
    Spec.appliesLoose_calling (g := g) h hdg hn hkY hinitY
      (X.room_calling (g := g) (R' := (headSpec ws rm).room) hsize hmY hcY hframes (by rw [hlY]; omega) h4 h5) h1
  obtain ⟨mid, hmid⟩ := h.above
  have hfr : (U.setTop g).frames = (.java g :: mid) ++ below := by rw [State.frames_setTop' g h.top, hmid]; rfl
  obtain ⟨o, s₂, hsteps, -, hend, hq⟩ := Steps.callFree hM p X.admits X.cas X.clock (acts := []) hfr happ hPc trivial
  have hq' : vx_Q Qc XC mc ms free a (U.calling g mk a) o s₂ := hq
  rw [State.frames_setTop' g h.top] at hend
  obtain ⟨g₀, hg0⟩ := Option.isSome_iff_exists.mp h.top
  obtain ⟨r, hr⟩ := State.topJava?_eq_some.mp hg0
  have hr' : (({ U with heap := s₂.heap, slotsUsed := s₂.slotsUsed } : State).setVm s₂.vm).frames = .java g₀ :: r := hr
  rcases hq' with ⟨hqc, L, hfe, hL⟩ | ⟨q, rfl, E, ce, L, hx, hce, hcv, hcl, hW₂, hsm, hL⟩
  · obtain ⟨⟨v, rfl⟩, hW₂, e2, q2, q3, q4, q5, q6⟩ := id hfe
    have e3 : s₂ = ({ (U.calling g mk a).setFrames s₂.frames with heap := s₂.heap, slotsUsed := s₂.slotsUsed } : State).setVm s₂.vm := by
      have : s₂ = ({ s₂ with vm := (U.calling g mk a).vm } : State).setVm s₂.vm := rfl
      rw [e2] at this
      exact this
    obtain ⟨c₂, i₂, len₂, hc₂, hd₂, hf₂⟩ := hend
    have hW' : U.WarmedH s₂.vm := hW₂
    have hcc : c₂ = c := by
      have h1 : s₂.code? g.method = U.code? g.method := by
        rw [State.code?_eq, State.code?_eq, hW'.alike.method?]
      exact Option.some.inj (hc₂.symm.trans (h1.trans h.code))
    subst hcc
    have hlen : len₂ = len := by rw [hdg] at hd₂; cases hd₂; rfl
    subst hlen
    have hs₂ : s₂ = (({ U with heap := s₂.heap, slotsUsed := s₂.slotsUsed } : State).setVm s₂.vm).setTop { g with pc := g.pc + len₂, stack := v.toList ++ g.stack } := by
      refine e3.trans ?_
      rw [hf₂, State.calling_eq h.top, State.setFrames_setFrames, State.setTop_of_frames _ hr', hr]
      rfl
    have hsame : U.sameButNew ({ U with heap := s₂.heap, slotsUsed := s₂.slotsUsed } : State) L mc ms := by
      refine ⟨?_, q2, q3, q4, q5, q6⟩
      obtain ⟨t, ht, -⟩ := State.frames_cons hr
      show ({ U with heap := s₂.heap, slotsUsed := s₂.slotsUsed } : State) = { U.setFrames U.frames with heap := s₂.heap, slotsUsed := s₂.slotsUsed }
      rw [State.setFrames_self ht]
    subst hg
    refine Or.inl ⟨v, ⟨(({ U with heap := s₂.heap, slotsUsed := s₂.slotsUsed } : State).setVm s₂.vm), Ls ++ L, c0 + mc, s0 + ms⟩,
      ⟨X.admits, X.cas, X.clock, X.frames, X.room, X.hears, X.method, X.code, (X.here.setHeapUsed s₂.heap s₂.slotsUsed).setVm hW'.alike, X.tail, State.WarmedH.trans X.warmed hW', X.limits, X.bytes, X.same.trans (hsame.setVm s.vm)⟩,
      ⟨g, mk, s₂, L, rfl, rfl, hqc, rfl, hL, rfl, rfl⟩, ?_⟩
    show Steps p.tables e below _ ((({ U with heap := s₂.heap, slotsUsed := s₂.slotsUsed } : State).setVm s₂.vm).setTop { g with pc := g.pc + len₂, stack := v.toList ++ g.stack })
    rw [← hs₂]
    exact hsteps
  · obtain ⟨e2, q2, q3, q4, q5, q6⟩ := id hsm
    have e3 : s₂ = ({ (U.calling g mk a).setFrames s₂.frames with heap := s₂.heap, slotsUsed := s₂.slotsUsed } : State).setVm s₂.vm := by
      have : s₂ = ({ s₂ with vm := (U.calling g mk a).vm } : State).setVm s₂.vm := rfl
      rw [e2] at this
      exact this
    have hf₂ : s₂.frames = .throwing q :: .java g :: U.frames.tail := hend
    have hW' : U.WarmedH s₂.vm := hW₂
    have hs₂ : s₂ = ((({ U with heap := s₂.heap, slotsUsed := s₂.slotsUsed } : State).setVm s₂.vm).setTop g).pushFrame (.throwing q) := by
      refine e3.trans ?_
      rw [hf₂, State.calling_eq h.top, State.setFrames_setFrames, State.pushFrame, State.frames_setTop _ hr', State.setTop_of_frames _ hr', State.setFrames_setFrames, hr]
      rfl
    have hsame : U.sameButNew ({ U with heap := s₂.heap, slotsUsed := s₂.slotsUsed } : State) L mc ms := by
      refine ⟨?_, q2, q3, q4, q5, q6⟩
      obtain ⟨t, ht, -⟩ := State.frames_cons hr
      show ({ U with heap := s₂.heap, slotsUsed := s₂.slotsUsed } : State) = { U.setFrames U.frames with heap := s₂.heap, slotsUsed := s₂.slotsUsed }
      rw [State.setFrames_self ht]
    subst hg
    refine Or.inr ⟨q, ⟨(({ U with heap := s₂.heap, slotsUsed := s₂.slotsUsed } : State).setVm s₂.vm), Ls ++ L, c0 + mc, s0 + ms⟩,
      ⟨X.admits, X.cas, X.clock, X.frames, X.room, X.hears, X.method, X.code, (X.here.setHeapUsed s₂.heap s₂.slotsUsed).setVm hW'.alike, X.tail, State.WarmedH.trans X.warmed hW', X.limits, X.bytes, X.same.trans (hsame.setVm s.vm)⟩,
      ⟨g, mk, s₂, L, E, ce, rfl, rfl, hx, hce, hcv, hcl, rfl, hL, rfl, rfl⟩, ?_⟩
    show Steps p.tables e below _ (((({ U with heap := s₂.heap, slotsUsed := s₂.slotsUsed } : State).setVm s₂.vm).setTop g).pushFrame (.throwing q))
    rw [← hs₂]
    exact hsteps
end Payer
section Calls
variable {p : Program} {l : Launch} {e : Env} {R : Room} {s : State} {m : MethodId} {args : Array Value} {below : List Frame} {meth : Method} {c : Code} {T : State} {locs : List Loc} {cells slots : Nat}
theorem vx_callV (X : Stand p l e R s m args below meth c T locs cells slots) (hexec : p.tables.exec = Jvm.exec) {own C : String} {index : Nat} {y : MethodName} {bytes : ByteArray} {maxL : Nat} {ret : Option FieldType}
    (hown : s.vm.findClass own = some m.cls) (hlink : (Cond.methodLink own index y).before args s = true) (hinst : (Cond.instanceMethod y).before args s = true) (hsel : (Cond.selects C y y).before args s = true)
    (hcode : (Cond.code y bytes maxL ret).before args s = true) (hy : y.cls ≠ "java/lang/invoke/MethodHandle" ∧ y.cls ≠ "java/lang/invoke/VarHandle")
    {W9 : Nat} {Pre : Pt → Array Value → Prop} {Post : Pt → Array Value → Option Value → Pt → Prop} {PostX : Pt → Array Value → Addr → Pt → Prop} (hK : vx_Back l R p e below s args y 3 W9 Pre Post PostX)
    {b : Addr} {cellB : Cell} (hcell : T.heap[b]? = some cellB) (hobj : cellB.vm.isStatics = false) (hcls : s.vm.findClass C = some cellB.cls)
    {g : JFrame} (hg : g.method = m) (hsize : g.locals.size = c.maxLocals) {argsL rest : List Value} (hlen : ∀ sig, parseMethodDescriptor y.desc = some sig → argsL.length = sig.parameters.length)
    (hstack : g.stack = argsL.reverse ++ .ref b :: rest) (hW : 2 * g.monitorRoom + (rest.map fun v => v.category).sum ≤ W9) (hdg : decode c.code g.pc = .ok (.invokevirtual index, 3))
    (hpre : ∀ vm₁, s.WarmedH vm₁ → Pre ⟨T.setVm vm₁, locs, cells, slots⟩ (Value.ref b :: argsL).toArray) :
    (∃ (v : Option Value) (vm₁ : Vm) (B : Pt), s.WarmedH vm₁ ∧ Stand p l e R s m args below meth c B.U B.locs B.cells B.slots ∧ Post ⟨T.setVm vm₁, locs, cells, slots⟩ (Value.ref b :: argsL).toArray v B ∧
      ∀ target, Steps p.tables e below (B.U.setTop { g with pc := g.pc + 3, stack := v.toList ++ rest }) target → Steps p.tables e below (T.setTop g) target) ∨
    (∃ (q : Addr) (vm₁ : Vm) (B : Pt), s.WarmedH vm₁ ∧ Stand p l e R s m args below meth c B.U B.locs B.cells B.slots ∧ PostX ⟨T.setVm vm₁, locs, cells, slots⟩ (Value.ref b :: argsL).toArray q B ∧
      Steps p.tables e below (T.setTop g) ((B.U.setTop { g with stack := rest }).pushFrame (.throwing q))) := by
  obtain ⟨mk, methM, hnamed, hmethM, hstM, habM⟩ := Cond.instanceMethod_spec hinst
  obtain ⟨methM', cM, hmethM', -, -, -, -, -, -, hsigM⟩ := Cond.code_spec hnamed hcode
  cases hmethM.symm.trans hmethM'
  obtain ⟨c2, r2, m2, q1, q2, q3, q4, kP, hkP, hkPi⟩ := Cond.selects_spec hsel
  cases hcls.symm.trans q1
  cases (State.methodFound?_of_named hnamed hy).symm.trans q2
  cases hnamed.symm.trans q3
  have hselP : selectMethod e.platform s.vm cellB.cls mk = .method mk := by rw [Launch.admits_selectMethod X.admits]; exact q4
  obtain ⟨vm₁, X₁, hstep₁⟩ := X.invokevirtual hexec hown hlink hnamed hmethM hstM hkP hkPi hy (a := b) (cell := cellB) hcell
    (fun z h => by rw [h] at hobj; cases hobj) hselP hmethM habM hkP hkPi (g := g) hg (argsL := argsL) (rest := rest) (hlen _ hsigM) hstack hdg
  rcases hK m meth c ⟨T.setVm vm₁, locs, cells, slots⟩ { g with stack := rest } (.invokevirtual index) mk (Value.ref b :: argsL).toArray X₁ hg hsize hdg hW (X₁.named hnamed) (hpre vm₁ X₁.warmed) with ⟨v, B, X', hpost, hsteps⟩ | ⟨q, B, X', hpost, hsteps⟩
  · exact Or.inl ⟨v, vm₁, B, X₁.warmed, X', hpost, fun target h => hstep₁ _ fun acts => by rw [doInvoke_state]; exact hsteps.trans h⟩
  · exact Or.inr ⟨q, vm₁, B, X₁.warmed, X', hpost, hstep₁ _ fun acts => by rw [doInvoke_state]; exact hsteps⟩
theorem vx_callS (X : Stand p l e R s m args below meth c T locs cells slots) (hexec : p.tables.exec = Jvm.exec) {own : String} {index : Nat} {y : MethodName} {bytes : ByteArray} {maxL : Nat} {ret : Option FieldType}
    (hown : s.vm.findClass own = some m.cls) (hlink : (Cond.methodLink own index y).before args s = true) (hstat : (Cond.static y).before args s = true) (hinit : (Cond.initialized y.cls).before args s = true)
    (hcode : (Cond.code y bytes maxL ret).before args s = true) (hy : y.cls ≠ "java/lang/invoke/MethodHandle" ∧ y.cls ≠ "java/lang/invoke/VarHandle")
    {W9 : Nat} {Pre : Pt → Array Value → Prop} {Post : Pt → Array Value → Option Value → Pt → Prop} {PostX : Pt → Array Value → Addr → Pt → Prop} (hK : vx_Back l R p e below s args y 3 W9 Pre Post PostX)
    {g : JFrame} (hg : g.method = m) (hsize : g.locals.size = c.maxLocals) {argsL rest : List Value} (hlen : ∀ sig, parseMethodDescriptor y.desc = some sig → argsL.length = sig.parameters.length)
    (hstack : g.stack = argsL.reverse ++ rest) (hW : 2 * g.monitorRoom + (rest.map fun v => v.category).sum ≤ W9) (hdg : decode c.code g.pc = .ok (.invokestatic index, 3))
    (hpre : ∀ vm₁, s.WarmedH vm₁ → Pre ⟨T.setVm vm₁, locs, cells, slots⟩ argsL.toArray) :
    (∃ (v : Option Value) (vm₁ : Vm) (B : Pt), s.WarmedH vm₁ ∧ Stand p l e R s m args below meth c B.U B.locs B.cells B.slots ∧ Post ⟨T.setVm vm₁, locs, cells, slots⟩ argsL.toArray v B ∧
      ∀ target, Steps p.tables e below (B.U.setTop { g with pc := g.pc + 3, stack := v.toList ++ rest }) target → Steps p.tables e below (T.setTop g) target) ∨
    (∃ (q : Addr) (vm₁ : Vm) (B : Pt), s.WarmedH vm₁ ∧ Stand p l e R s m args below meth c B.U B.locs B.cells B.slots ∧ PostX ⟨T.setVm vm₁, locs, cells, slots⟩ argsL.toArray q B ∧
      Steps p.tables e below (T.setTop g) ((B.U.setTop { g with stack := rest }).pushFrame (.throwing q))) := by
  obtain ⟨mk, hnamed⟩ := Cond.code_named hcode
  obtain ⟨methM, cM, hmethM, -, -, -, -, -, -, hsigM⟩ := Cond.code_spec hnamed hcode
  have hstatic : methM.isStatic = true := Cond.static_spec hnamed hmethM hstat
  obtain ⟨kP, hkP, -⟩ := className_of_methodNamed hnamed
  have hinitP : kP.init = .initialized := Cond.initialized_spec (findClass_of_methodNamed hnamed) hkP hinit
  obtain ⟨vm₁, X₁, hstep₁⟩ := X.invokestatic hexec hown hlink hnamed hmethM hstatic hkP hinitP hy (g := g) hg (argsL := argsL) (rest := rest) (hlen _ hsigM) hstack hdg
  rcases hK m meth c ⟨T.setVm vm₁, locs, cells, slots⟩ { g with stack := rest } (.invokestatic index) mk argsL.toArray X₁ hg hsize hdg hW (X₁.named hnamed) (hpre vm₁ X₁.warmed) with ⟨v, B, X', hpost, hsteps⟩ | ⟨q, B, X', hpost, hsteps⟩
  · exact Or.inl ⟨v, vm₁, B, X₁.warmed, X', hpost, fun target h => hstep₁ _ fun acts => by rw [doInvoke_state]; exact hsteps.trans h⟩
  · exact Or.inr ⟨q, vm₁, B, X₁.warmed, X', hpost, hstep₁ _ fun acts => by rw [doInvoke_state]; exact hsteps⟩
end Calls
theorem vx_cls {s : State} {T : State} {vm₁ : Vm} {E : String} {k : ClassId} (hW : s.WarmedH vm₁) (h : (T.setVm vm₁).vm.findClass E = some k) : s.vm.findClass E = some k := by
  have h1 : vm₁.findClass E = some k := h
  rw [hW.alike.findClass] at h1
  exact h1
/-- the method's frame g, with q thrown over it -/
def vx_W (p : Program) (l : Launch) (e : Env) (R : Room) (s : State) (m : MethodId) (args : Array Value) (below : List Frame) (meth : Method) (c : Code) (H : Heap) (locs : List Loc) (cells slots : Nat) (Q : State → Prop) (g : JFrame) (q : Addr) : Prop :=
  ∀ T : State, T.heap = H → Stand p l e R s m args below meth c T locs cells slots → ∃ t, Steps p.tables e below ((T.setTop g).pushFrame (.throwing q)) t ∧ Q t
def vx_Run (p : Program) (l : Launch) (e : Env) (R : Room) (s : State) (m : MethodId) (args : Array Value) (below : List Frame) (meth : Method) (c : Code) (H : Heap) (locs : List Loc) (cells slots mc ms : Nat) (g : JFrame) (rest : List Value) (Qa : State → Outcome → State → Prop) (XC : String → State → State → Prop) (free : Addr → Prop) : Prop :=
  ∀ T : State, T.heap = H → Stand p l e R s m args below meth c T locs cells slots →
    (∃ (v : Option Value) (st₀ t T' : State) (L : List Loc), st₀.heap = H ∧ Stand p l e R s m args below meth c T' (locs ++ L) (cells + mc) (slots + ms) ∧ (∀ q ∈ L, free q.base) ∧ T'.heap = t.heap ∧ T'.vm = t.vm ∧ Qa st₀ (.returned v) t ∧
      Goes p e below T g T' { g with pc := g.pc + 3, stack := v.toList ++ rest }) ∨
    (∃ (q : Addr) (st₀ t T' : State) (L : List Loc) (E : String) (ce : Cell), st₀.heap = H ∧ Stand p l e R s m args below meth c T' (locs ++ L) (cells + mc) (slots + ms) ∧ (∀ z ∈ L, free z.base) ∧ T'.heap = t.heap ∧ T'.vm = t.vm ∧ XC E st₀ t ∧ t.heap[q]? = some ce ∧ ce.vm = .none ∧ s.vm.findClass E = some ce.cls ∧
      Steps p.tables e below (T.setTop g) ((T'.setTop { g with stack := rest }).pushFrame (.throwing q)))
def vx_X {S : Type} (px : S → Prop) (B : String → S → State → Prop) (A : Nat → Prop) : String → State → State → Prop := fun E st t => ∃ u : S, px u ∧ B E u t ∧ va_F A st t
section Runs
variable {p : Program} {l : Launch} {e : Env} {R : Room} {s : State} {m : MethodId} {args : Array Value} {below : List Frame} {meth : Method} {c : Code} {H : Heap} {locs : List Loc} {cells slots : Nat}
variable {y : MethodName} {bytes cc : ByteArray} {maxL nL mc ms n index : Nat} {ret : Option FieldType} {ws : List Cond} {rm : Room} {Pc : Array Value → State → Prop} {Qc : Array Value → State → Outcome → State → Prop} {XC : String → State → State → Prop} {free : Addr → Prop} {Ts : List Cond} {own C : String} {b : Addr} {As rest : List Value} {g : JFrame}
theorem vx_callBack (cb : CallB R s args own index y bytes maxL ret ws rm mc ms n) (hM : vx_Met l y ws rm Pc Qc XC mc ms free) (hbl : FrameBlind Pc) : vx_Back l R p e below s args y 3 8 (PreOf R mc ms Pc) (PostOf Qc mc ms free) (vx_Post XC mc ms free) := by
  obtain ⟨hrc, hrs, hfr, hlo, hws, hcw, -, hini, -⟩ := cb
  exact vx_back (bytes := bytes) (maxL := maxL) (ret := ret) hM hbl hrc hrs hfr hlo hws hcw (fun a' U hW => word_at hW (Or.inl (by first | rfl | simp [Cond.onTables, Cond.keeps, Cond.steady])) hini)
theorem vx_runV (S : CallFix p m c cc nL s args Ts own) (hM : vx_Met l y ws rm Pc Qc XC mc ms free) (cw : CallW R s args own C index y bytes maxL ret ws rm mc ms n) (hp : PreV s H C b Pc As)
    (hg : g.method = m) (hn : As.length = n) (hsize : g.locals.size = nL) (hstack : g.stack = As.reverse ++ .ref b :: rest) (hW : 2 * g.monitorRoom + (rest.map fun v => v.category).sum ≤ 8) (hdg : decode cc g.pc = .ok (.invokevirtual index, 3)) (hf : cells + mc ≤ R.cells ∧ slots + ms ≤ R.slots) :
    vx_Run p l e R s m args below meth c H locs cells slots mc ms g rest (Qc (Value.ref b :: As).toArray) XC free := by
  have hK : vx_Back l R p e below s args y 3 8 (PreOf R mc ms Pc) (PostOf Qc mc ms free) (vx_Post XC mc ms free) := vx_callBack cw.1 hM hp.1
  obtain ⟨⟨-, -, -, -, -, -, hcode, -, hy, hlen, hl⟩, hin, hse⟩ := cw
  obtain ⟨hx, hb, hml, ho, -⟩ := S
  obtain ⟨-, ⟨cellB, hcB, hoB, hclB⟩, hPc⟩ := hp
  intro T hT X
  rcases vx_callV X hx (C := C) (bytes := bytes) (maxL := maxL) (ret := ret) ho hl hin hse hcode hy hK (by rw [hT]; exact hcB) hoB hclB hg (hsize.trans hml.symm) (argsL := As) (rest := rest) (fun sig h => hn.trans (hlen sig h)) hstack hW (by rw [hb]; exact hdg)
    (fun vm₁ hW₁ => ⟨hf.1, hf.2, hPc (T.setVm vm₁) hT hW₁⟩) with ⟨v, vm₁, ⟨U', l2, c2, s2⟩, hW₁, X', ⟨g', mk, t, L, e1, e2, hq, h1, hL, h2, h3⟩, st⟩ | ⟨q, vm₁, ⟨U', l2, c2, s2⟩, hW₁, X', ⟨g', mk, t, L, E, ce, e1, e2, hq, hce, hcv, hcl, h1, hL, h2, h3⟩, st⟩
  · dsimp only [Pt.U, Pt.locs, Pt.cells, Pt.slots] at X' e1 e2 h1 h2 h3 st
    subst h1; subst h2; subst h3
    exact Or.inl ⟨v, (T.setVm vm₁).calling g' mk (Value.ref b :: As).toArray, t, U', L, hT, X', hL, e1, e2, hq, st⟩
  · dsimp only [Pt.U, Pt.locs, Pt.cells, Pt.slots] at X' e1 e2 h1 h2 h3 st hcl
    subst h1; subst h2; subst h3
    exact Or.inr ⟨q, (T.setVm vm₁).calling g' mk (Value.ref b :: As).toArray, t, U', L, E, ce, hT, X', hL, e1, e2, hq, hce, hcv, vx_cls hW₁ hcl, st⟩
theorem vx_runS (S : CallFix p m c cc nL s args Ts own) (hM : vx_Met l y ws rm Pc Qc XC mc ms free) (cw : CallB R s args own index y bytes maxL ret ws rm mc ms n ∧ (Cond.static y).before args s = true) (hp : PreS s H Pc As)
    (hg : g.method = m) (hn : As.length = n) (hsize : g.locals.size = nL) (hstack : g.stack = As.reverse ++ rest) (hW : 2 * g.monitorRoom + (rest.map fun v => v.category).sum ≤ 8) (hdg : decode cc g.pc = .ok (.invokestatic index, 3)) (hf : cells + mc ≤ R.cells ∧ slots + ms ≤ R.slots) :
    vx_Run p l e R s m args below meth c H locs cells slots mc ms g rest (Qc As.toArray) XC free := by
  have hK : vx_Back l R p e below s args y 3 8 (PreOf R mc ms Pc) (PostOf Qc mc ms free) (vx_Post XC mc ms free) := vx_callBack cw.1 hM hp.1
  obtain ⟨⟨-, -, -, -, -, -, hcode, hini, hy, hlen, hl⟩, hstt⟩ := cw
  obtain ⟨hx, hb, hml, ho, -⟩ := S
  intro T hT X
  rcases vx_callS X hx (bytes := bytes) (maxL := maxL) (ret := ret) ho hl hstt hini hcode hy hK hg (hsize.trans hml.symm) (argsL := As) (rest := rest) (fun sig h => hn.trans (hlen sig h)) hstack hW (by rw [hb]; exact hdg)
    (fun vm₁ hW₁ => ⟨hf.1, hf.2, hp.2 (T.setVm vm₁) hT hW₁⟩) with ⟨v, vm₁, ⟨U', l2, c2, s2⟩, hW₁, X', ⟨g', mk, t, L, e1, e2, hq, h1, hL, h2, h3⟩, st⟩ | ⟨q, vm₁, ⟨U', l2, c2, s2⟩, hW₁, X', ⟨g', mk, t, L, E, ce, e1, e2, hq, hce, hcv, hcl, h1, hL, h2, h3⟩, st⟩
  · dsimp only [Pt.U, Pt.locs, Pt.cells, Pt.slots] at X' e1 e2 h1 h2 h3 st
    subst h1; subst h2; subst h3
    exact Or.inl ⟨v, (T.setVm vm₁).calling g' mk As.toArray, t, U', L, hT, X', hL, e1, e2, hq, st⟩
  · dsimp only [Pt.U, Pt.locs, Pt.cells, Pt.slots] at X' e1 e2 h1 h2 h3 st hcl
    subst h1; subst h2; subst h3
    exact Or.inr ⟨q, (T.setVm vm₁).calling g' mk As.toArray, t, U', L, E, ce, hT, X', hL, e1, e2, hq, hce, hcv, vx_cls hW₁ hcl, st⟩
end Runs
section Rows
variable {p : Program} {l : Launch} {e : Env} {R : Room} {s : State} {m : MethodId} {args : Array Value} {below : List Frame} {meth : Method} {c : Code} {H : Heap} {locs : List Loc} {cells slots : Nat} {Q : State → Prop}
variable {mc ms : Nat} {free : Addr → Prop} {A0 A1 : Nat → Prop} {H0 : Heap} {a : Array Value} {pc : Nat} {ls : Array Slot} {st0 rest : List Value}
theorem vx_keep {st₀ t T' : State} {L : List Loc} (h0 : st₀.heap = H) (e1 : T'.heap = t.heap) (hS : va_S A0 H0 H locs) (hA : ∀ q, q < H.size → A1 q → A0 q) (hf : ∀ q, free q → A0 q) (hL : ∀ q ∈ L, free q.base) (hF : va_F A1 st₀ t) :
    H.size ≤ T'.heap.size ∧ (∀ q : Nat, q < H.size → ¬ A1 q → T'.heap[q]? = H[q]?) ∧ va_S A0 H0 T'.heap (locs ++ L) := by
  obtain ⟨hz, hk⟩ := hF
  rw [h0] at hz hk
  exact ⟨by rw [e1]; exact hz, fun q h1 h2 => by rw [e1]; exact hk q h1 h2,
    ⟨Nat.le_trans hS.1 (by rw [e1]; exact hz), fun q h1 h2 => by rw [e1, hk q (Nat.lt_of_lt_of_le h1 hS.1) (fun z => h2 (hA q (Nat.lt_of_lt_of_le h1 hS.1) z))]; exact hS.2.1 q h1 h2, fun q hq => by
      rcases List.mem_append.mp hq with h | h
      · exact hS.2.2 q h
      · exact hf _ (hL q h)⟩⟩
theorem vx_calli {S SX : Type} {post : Int32 → S → Prop} {px : SX → Prop} {B : S → State → Prop} {BX : String → SX → State → Prop} {AX : Nat → Prop} (hr : vx_Run p l e R s m args below meth c H locs cells slots mc ms (F0 m pc ls st0) rest (va_Qi post B A1 a) (vx_X px BX AX) free) (hS : va_S A0 H0 H locs) (hA : ∀ q, q < H.size → A1 q → A0 q) (hf : ∀ q, free q → A0 q) (hAX : ∀ q, q < H.size → AX q → A0 q)
    (kx : ∀ (E : String) (ce : Cell) (q9 : Addr) (u : SX) (t : State) (H1 : Heap) (locs1 : List Loc), t.heap = H1 → s.vm.Alike t.vm → px u → BX E u t → H.size ≤ H1.size → (∀ q : Nat, q < H.size → ¬ AX q → H1[q]? = H[q]?) → va_S A0 H0 H1 locs1 → H1[q9]? = some ce → ce.vm = .none → s.vm.findClass E = some ce.cls → vx_W p l e R s m args below meth c H1 locs1 (cells + mc) (slots + ms) Q (F0 m pc ls rest) q9)
    (kk : ∀ (r : Int32) (u : S) (t : State) (H1 : Heap) (locs1 : List Loc), t.heap = H1 → s.vm.Alike t.vm → post r u → B u t → H.size ≤ H1.size → (∀ q : Nat, q < H.size → ¬ A1 q → H1[q]? = H[q]?) → va_S A0 H0 H1 locs1 → W p l e R s m args below meth c H1 locs1 (cells + mc) (slots + ms) Q (F0 m (pc + 3) ls (.int r :: rest))) : W p l e R s m args below meth c H locs cells slots Q (F0 m pc ls st0) := by
  intro T hT X
  rcases hr T hT X with ⟨v, st₀, t, T', L, h0, X', hL, e1, e2, ⟨⟨r, u, hv, hp, hb⟩, hF⟩, st⟩ | ⟨q, st₀, t, T', L, E, ce, h0, X', hL, e1, e2, ⟨u, hp, hb, hF⟩, hce, hcv, hcl, st⟩
  · cases hv
    obtain ⟨k1, k2, k3⟩ := vx_keep h0 e1 hS hA hf hL hF
    obtain ⟨t2, a1, b1⟩ := kk r u t T'.heap (locs ++ L) e1.symm (by rw [← e2]; exact X'.warmed.alike) hp hb k1 k2 k3 T' rfl X'
    exact ⟨t2, st t2 a1, b1⟩
  · obtain ⟨k1, k2, k3⟩ := vx_keep h0 e1 hS hAX hf hL hF
    obtain ⟨t2, a1, b1⟩ := kx E ce q u t T'.heap (locs ++ L) e1.symm (by rw [← e2]; exact X'.warmed.alike) hp hb k1 k2 k3 (by rw [e1]; exact hce) hcv hcl T' rfl X'
    exact ⟨t2, st.trans a1, b1⟩
theorem vx_calll {S SX : Type} {post : Int64 → S → Prop} {px : SX → Prop} {B : S → State → Prop} {BX : String → SX → State → Prop} {AX : Nat → Prop} (hr : vx_Run p l e R s m args below meth c H locs cells slots mc ms (F0 m pc ls st0) rest (va_Ql post B A1 a) (vx_X px BX AX) free) (hS : va_S A0 H0 H locs) (hA : ∀ q, q < H.size → A1 q → A0 q) (hf : ∀ q, free q → A0 q) (hAX : ∀ q, q < H.size → AX q → A0 q)
    (kx : ∀ (E : String) (ce : Cell) (q9 : Addr) (u : SX) (t : State) (H1 : Heap) (locs1 : List Loc), t.heap = H1 → s.vm.Alike t.vm → px u → BX E u t → H.size ≤ H1.size → (∀ q : Nat, q < H.size → ¬ AX q → H1[q]? = H[q]?) → va_S A0 H0 H1 locs1 → H1[q9]? = some ce → ce.vm = .none → s.vm.findClass E = some ce.cls → vx_W p l e R s m args below meth c H1 locs1 (cells + mc) (slots + ms) Q (F0 m pc ls rest) q9)
    (kk : ∀ (r : Int64) (u : S) (t : State) (H1 : Heap) (locs1 : List Loc), t.heap = H1 → s.vm.Alike t.vm → post r u → B u t → H.size ≤ H1.size → (∀ q : Nat, q < H.size → ¬ A1 q → H1[q]? = H[q]?) → va_S A0 H0 H1 locs1 → W p l e R s m args below meth c H1 locs1 (cells + mc) (slots + ms) Q (F0 m (pc + 3) ls (.long r :: rest))) : W p l e R s m args below meth c H locs cells slots Q (F0 m pc ls st0) := by
  intro T hT X
  rcases hr T hT X with ⟨v, st₀, t, T', L, h0, X', hL, e1, e2, ⟨⟨r, u, hv, hp, hb⟩, hF⟩, st⟩ | ⟨q, st₀, t, T', L, E, ce, h0, X', hL, e1, e2, ⟨u, hp, hb, hF⟩, hce, hcv, hcl, st⟩
  · cases hv
    obtain ⟨k1, k2, k3⟩ := vx_keep h0 e1 hS hA hf hL hF
    obtain ⟨t2, a1, b1⟩ := kk r u t T'.heap (locs ++ L) e1.symm (by rw [← e2]; exact X'.warmed.alike) hp hb k1 k2 k3 T' rfl X'
    exact ⟨t2, st t2 a1, b1⟩
  · obtain ⟨k1, k2, k3⟩ := vx_keep h0 e1 hS hAX hf hL hF
    obtain ⟨t2, a1, b1⟩ := kx E ce q u t T'.heap (locs ++ L) e1.symm (by rw [← e2]; exact X'.warmed.alike) hp hb k1 k2 k3 (by rw [e1]; exact hce) hcv hcl T' rfl X'
    exact ⟨t2, st.trans a1, b1⟩
theorem vx_callf {S SX : Type} {post : UInt32 → S → Prop} {px : SX → Prop} {B : S → State → Prop} {BX : String → SX → State → Prop} {AX : Nat → Prop} (hr : vx_Run p l e R s m args below meth c H locs cells slots mc ms (F0 m pc ls st0) rest (va_Qf post B A1 a) (vx_X px BX AX) free) (hS : va_S A0 H0 H locs) (hA : ∀ q, q < H.size → A1 q → A0 q) (hf : ∀ q, free q → A0 q) (hAX : ∀ q, q < H.size → AX q → A0 q)
    (kx : ∀ (E : String) (ce : Cell) (q9 : Addr) (u : SX) (t : State) (H1 : Heap) (locs1 : List Loc), t.heap = H1 → s.vm.Alike t.vm → px u → BX E u t → H.size ≤ H1.size → (∀ q : Nat, q < H.size → ¬ AX q → H1[q]? = H[q]?) → va_S A0 H0 H1 locs1 → H1[q9]? = some ce → ce.vm = .none → s.vm.findClass E = some ce.cls → vx_W p l e R s m args below meth c H1 locs1 (cells + mc) (slots + ms) Q (F0 m pc ls rest) q9)
    (kk : ∀ (r : UInt32) (u : S) (t : State) (H1 : Heap) (locs1 : List Loc), t.heap = H1 → s.vm.Alike t.vm → post r u → B u t → H.size ≤ H1.size → (∀ q : Nat, q < H.size → ¬ A1 q → H1[q]? = H[q]?) → va_S A0 H0 H1 locs1 → W p l e R s m args below meth c H1 locs1 (cells + mc) (slots + ms) Q (F0 m (pc + 3) ls (.float r :: rest))) : W p l e R s m args below meth c H locs cells slots Q (F0 m pc ls st0) := by
  intro T hT X
  rcases hr T hT X with ⟨v, st₀, t, T', L, h0, X', hL, e1, e2, ⟨⟨r, u, hv, hp, hb⟩, hF⟩, st⟩ | ⟨q, st₀, t, T', L, E, ce, h0, X', hL, e1, e2, ⟨u, hp, hb, hF⟩, hce, hcv, hcl, st⟩
  · cases hv
    obtain ⟨k1, k2, k3⟩ := vx_keep h0 e1 hS hA hf hL hF
    obtain ⟨t2, a1, b1⟩ := kk r u t T'.heap (locs ++ L) e1.symm (by rw [← e2]; exact X'.warmed.alike) hp hb k1 k2 k3 T' rfl X'
    exact ⟨t2, st t2 a1, b1⟩
  · obtain ⟨k1, k2, k3⟩ := vx_keep h0 e1 hS hAX hf hL hF
    obtain ⟨t2, a1, b1⟩ := kx E ce q u t T'.heap (locs ++ L) e1.symm (by rw [← e2]; exact X'.warmed.alike) hp hb k1 k2 k3 (by rw [e1]; exact hce) hcv hcl T' rfl X'
    exact ⟨t2, st.trans a1, b1⟩
theorem vx_calld {S SX : Type} {post : UInt64 → S → Prop} {px : SX → Prop} {B : S → State → Prop} {BX : String → SX → State → Prop} {AX : Nat → Prop} (hr : vx_Run p l e R s m args below meth c H locs cells slots mc ms (F0 m pc ls st0) rest (va_Qd post B A1 a) (vx_X px BX AX) free) (hS : va_S A0 H0 H locs) (hA : ∀ q, q < H.size → A1 q → A0 q) (hf : ∀ q, free q → A0 q) (hAX : ∀ q, q < H.size → AX q → A0 q)
    (kx : ∀ (E : String) (ce : Cell) (q9 : Addr) (u : SX) (t : State) (H1 : Heap) (locs1 : List Loc), t.heap = H1 → s.vm.Alike t.vm → px u → BX E u t → H.size ≤ H1.size → (∀ q : Nat, q < H.size → ¬ AX q → H1[q]? = H[q]?) → va_S A0 H0 H1 locs1 → H1[q9]? = some ce → ce.vm = .none → s.vm.findClass E = some ce.cls → vx_W p l e R s m args below meth c H1 locs1 (cells + mc) (slots + ms) Q (F0 m pc ls rest) q9)
    (kk : ∀ (r : UInt64) (u : S) (t : State) (H1 : Heap) (locs1 : List Loc), t.heap = H1 → s.vm.Alike t.vm → post r u → B u t → H.size ≤ H1.size → (∀ q : Nat, q < H.size → ¬ A1 q → H1[q]? = H[q]?) → va_S A0 H0 H1 locs1 → W p l e R s m args below meth c H1 locs1 (cells + mc) (slots + ms) Q (F0 m (pc + 3) ls (.double r :: rest))) : W p l e R s m args below meth c H locs cells slots Q (F0 m pc ls st0) := by
  intro T hT X
  rcases hr T hT X with ⟨v, st₀, t, T', L, h0, X', hL, e1, e2, ⟨⟨r, u, hv, hp, hb⟩, hF⟩, st⟩ | ⟨q, st₀, t, T', L, E, ce, h0, X', hL, e1, e2, ⟨u, hp, hb, hF⟩, hce, hcv, hcl, st⟩
  · cases hv
    obtain ⟨k1, k2, k3⟩ := vx_keep h0 e1 hS hA hf hL hF
    obtain ⟨t2, a1, b1⟩ := kk r u t T'.heap (locs ++ L) e1.symm (by rw [← e2]; exact X'.warmed.alike) hp hb k1 k2 k3 T' rfl X'
    exact ⟨t2, st t2 a1, b1⟩
  · obtain ⟨k1, k2, k3⟩ := vx_keep h0 e1 hS hAX hf hL hF
    obtain ⟨t2, a1, b1⟩ := kx E ce q u t T'.heap (locs ++ L) e1.symm (by rw [← e2]; exact X'.warmed.alike) hp hb k1 k2 k3 (by rw [e1]; exact hce) hcv hcl T' rfl X'
    exact ⟨t2, st.trans a1, b1⟩
theorem vx_callv {S SX : Type} {post : S → Prop} {px : SX → Prop} {B : S → State → Prop} {BX : String → SX → State → Prop} {AX : Nat → Prop} (hr : vx_Run p l e R s m args below meth c H locs cells slots mc ms (F0 m pc ls st0) rest (va_Qv post B A1 a) (vx_X px BX AX) free) (hS : va_S A0 H0 H locs) (hA : ∀ q, q < H.size → A1 q → A0 q) (hf : ∀ q, free q → A0 q) (hAX : ∀ q, q < H.size → AX q → A0 q)
    (kx : ∀ (E : String) (ce : Cell) (q9 : Addr) (u : SX) (t : State) (H1 : Heap) (locs1 : List Loc), t.heap = H1 → s.vm.Alike t.vm → px u → BX E u t → H.size ≤ H1.size → (∀ q : Nat, q < H.size → ¬ AX q → H1[q]? = H[q]?) → va_S A0 H0 H1 locs1 → H1[q9]? = some ce → ce.vm = .none → s.vm.findClass E = some ce.cls → vx_W p l e R s m args below meth c H1 locs1 (cells + mc) (slots + ms) Q (F0 m pc ls rest) q9)
    (kk : ∀ (u : S) (t : State) (H1 : Heap) (locs1 : List Loc), t.heap = H1 → s.vm.Alike t.vm → post u → B u t → H.size ≤ H1.size → (∀ q : Nat, q < H.size → ¬ A1 q → H1[q]? = H[q]?) → va_S A0 H0 H1 locs1 → W p l e R s m args below meth c H1 locs1 (cells + mc) (slots + ms) Q (F0 m (pc + 3) ls (rest))) : W p l e R s m args below meth c H locs cells slots Q (F0 m pc ls st0) := by
  intro T hT X
  rcases hr T hT X with ⟨v, st₀, t, T', L, h0, X', hL, e1, e2, ⟨⟨u, hv, hp, hb⟩, hF⟩, st⟩ | ⟨q, st₀, t, T', L, E, ce, h0, X', hL, e1, e2, ⟨u, hp, hb, hF⟩, hce, hcv, hcl, st⟩
  · cases hv
    obtain ⟨k1, k2, k3⟩ := vx_keep h0 e1 hS hA hf hL hF
    obtain ⟨t2, a1, b1⟩ := kk u t T'.heap (locs ++ L) e1.symm (by rw [← e2]; exact X'.warmed.alike) hp hb k1 k2 k3 T' rfl X'
    exact ⟨t2, st t2 a1, b1⟩
  · obtain ⟨k1, k2, k3⟩ := vx_keep h0 e1 hS hAX hf hL hF
    obtain ⟨t2, a1, b1⟩ := kx E ce q u t T'.heap (locs ++ L) e1.symm (by rw [← e2]; exact X'.warmed.alike) hp hb k1 k2 k3 (by rw [e1]; exact hce) hcv hcl T' rfl X'
    exact ⟨t2, st.trans a1, b1⟩
/-- caught by the row x of this method's table; the rows ahead don't take it -/
theorem vx_catch {own name : String} {E : String} {ce : Cell} {q : Addr} (hown : s.vm.findClass own = some m.cls) (pre : List ExceptionTableEntry) (x : ExceptionTableEntry) (suf : List ExceptionTableEntry) (hsplit : c.exceptionTable.toList = pre ++ x :: suf)
    (hpass : ∀ z ∈ pre, covers z pc = false ∨ (z.catchType ≠ 0 ∧ ∃ nm : String, (Cond.classLink own z.catchType nm).before args s = true ∧ va_Nc E nm s)) (hx : covers x pc = true) (h0 : x.catchType ≠ 0)
    (hlink : (Cond.classLink own x.catchType name).before args s = true) (hcast : (Cond.castable E name).before args s = true) (hcell : H[q]? = some ce) (hv : ce.vm = .none) (hcl : s.vm.findClass E = some ce.cls)
    (kk : W p l e R s m args below meth c H locs cells slots Q (F0 m x.handlerPc ls [.ref q])) : vx_W p l e R s m args below meth c H locs cells slots Q (F0 m pc ls rest) q := by
  intro T hT X
  have hpl : e.platform.magicAccessors = ({} : Platform).magicAccessors := by rw [X.admits.platform]
  obtain ⟨c3, c4, hc3, hc4, hasg⟩ := Cond.castable_spec hcast
  cases Option.some.inj (hc3.symm.trans hcl)
  obtain ⟨c5, hc5, hcl5⟩ := Cond.classLink_spec hown hlink e.platform hpl
  cases Option.some.inj (hc4.symm.trans hc5)
  obtain ⟨vm', X', st⟩ := X.thenCaughtThrough q (g := F0 m pc ls rest) rfl (Steps.refl _) (by rw [hT]; exact hcell) (by rw [hv]; rfl) (by obtain ⟨k9, h9, -⟩ := Vm.findClass_spec hcl; exact ⟨k9, h9⟩) pre x suf hsplit
    (fun z hz => by
      rcases hpass z hz with h | ⟨hz0, nm, hl1, hn1⟩
      · exact Or.inl h
      · obtain ⟨c6, hc6, hcl6⟩ := Cond.classLink_spec hown hl1 e.platform hpl
        obtain ⟨a8, b8, h1, h2, h3⟩ := hn1
        cases Option.some.inj (h1.symm.trans hcl)
        cases Option.some.inj (h2.symm.trans hc6)
        exact Or.inr ⟨hz0, _, hcl6, h3⟩) hx (Or.inr ⟨h0, c4, hcl5, hasg⟩)
  obtain ⟨t, a1, b1⟩ := kk (T.setVm vm') hT X'
  exact ⟨t, st.trans a1, b1⟩
end Rows
section Ends
variable {p : Program} {l : Launch} {e : Env} {R : Room} {s : State} {m : MethodId} {args : Array Value} {below : List Frame} {meth : Method} {c : Code} {H : Heap} {locs : List Loc} {cells slots : Nat} {Q : State → Prop}
variable {mc ms : Nat} {free : Addr → Prop} {A0 A1 : Nat → Prop} {H0 : Heap} {a : Array Value} {ls : Array Slot} {st0 rest : List Value}
variable {Qc : Array Value → State → Outcome → State → Prop} {XC : String → State → State → Prop}
/-- what a body that may throw owes at its end -/
def vx_MQ (below : List Frame) (Qc : Array Value → State → Outcome → State → Prop) (XC : String → State → State → Prop) (a : Array Value) (s : State) (mc ms : Nat) (free : Addr → Prop) : State → Prop := fun t =>
  ∃ o, t.status = .running ∧ Ended t below o ∧ vx_Q Qc XC mc ms free a s o t
theorem vx_ret {g : JFrame} {mc ms : Nat} (k : W p l e R s m args below meth c H locs cells slots (MQ below Qc args s mc ms free) g) : W p l e R s m args below meth c H locs cells slots (vx_MQ below Qc XC args s mc ms free) g := by
  intro T hT X
  obtain ⟨t, a1, o, b1, b2, b3, b4⟩ := k T hT X
  exact ⟨t, a1, o, b1, b2, Or.inl ⟨b3, b4⟩⟩
/-- not caught here: it goes on to the caller -/
theorem vx_widen {g : JFrame} {q : Addr} {k n : Nat} (h1 : cells ≤ k) (h2 : slots ≤ n) (kk : vx_W p l e R s m args below meth c H locs k n Q g q) : vx_W p l e R s m args below meth c H locs cells slots Q g q := fun T hT X => kk T hT (stand_widen X h1 h2)
theorem vx_out {pc : Nat} {E : String} {ce : Cell} {q : Addr} {mc ms : Nat} (hout : ∀ x ∈ c.exceptionTable.toList, covers x pc = false) (hlocks : meth.locks = false) (hcell : H[q]? = some ce) (hv : ce.vm = .none) (hcl : s.vm.findClass E = some ce.cls)
    (hx : ∀ t : State, t.heap = H → s.vm.Alike t.vm → XC E s t) (hf : ∀ z ∈ locs, free z.base) (hc : cells ≤ mc) (hs : slots ≤ ms) :
    vx_W p l e R s m args below meth c H locs cells slots (vx_MQ below Qc XC args s mc ms free) (F0 m pc ls rest) q := by
  intro T hT X
  obtain ⟨st1, hrun, hend, hW, hsm⟩ := X.leaveThrown q (g := F0 m pc ls rest) rfl rfl rfl hout hlocks
  have hcell9 : (T.setFrames (.throwing q :: below)).heap[q]? = some ce := by
    show T.heap[q]? = some ce
    rw [hT]; exact hcell
  exact ⟨_, st1, .threw q, hrun, hend, Or.inr ⟨q, rfl, E, ce, locs, hx _ hT hW.alike, hcell9, hv, hcl, hW, hsm.mono hc hs, hf⟩⟩
theorem vx_frame {U : State} {k n : Nat} (h : s.sameButNew ({ U with vm := s.vm } : State) locs k n) : s.heap.size ≤ U.heap.size ∧ ∀ q : Nat, q < s.heap.size → (∀ z ∈ locs, z.base ≠ q) → U.heap[q]? = s.heap[q]? := by
  obtain ⟨-, h2, -, -, -, h6⟩ := h
  refine ⟨h2, fun q hq hz => ?_⟩
  obtain ⟨c9, e1, e2, e3, e4⟩ := h6 q _ (Array.getElem?_eq_getElem hq)
  have hs : c9.slots = (s.heap[q]).slots := Array.ext_getElem? fun i => e4 i fun hm => hz _ hm rfl
  have h9 : c9 = s.heap[q] := by
    rw [hs] at e2
    exact e2
  have e5 : U.heap[q]? = some c9 := e1
  rw [e5, h9, Array.getElem?_eq_getElem hq]
/-- the words of a throw but the four that speak of the heap -/
def vx_no (w : Cond) : Bool := decide (w ≠ .isRef (.static Bundle.tN "UNASSIGNED_STACK" Bundle.steD)) && decide (w ≠ .isRef (.static Bundle.tN "SUPPRESSED_SENTINEL" Bundle.listD)) && decide (w ≠ .laysStatic Bundle.tN "UNASSIGNED_STACK" Bundle.steD) && decide (w ≠ .laysStatic Bundle.tN "SUPPRESSED_SENTINEL" Bundle.listD)
def vx_at0 (own : String) (ic : Nat) (X : String) (names : List String) : List Cond := (Bundle.ownAtoms0 own ic X names).filter vx_no
def vx_atS (own : String) (ic : Nat) (X : String) (names : List String) : List Cond := (Bundle.ownAtoms own ic X names).filter vx_no
/-- a word that the tables alone decide, or a good one -/
def vx_ot (w : Cond) : Bool := w.onTables || goodWord w
theorem vx_ot_at {args a' : Array Value} {s U : State} {w : Cond} (hW : s.WarmedH U.vm) (hvm : s.vm = U.vm) (hg : vx_ot w = true) (h : w.before args s = true) : w.before a' U = true := by
  simp only [vx_ot, Bool.or_eq_true] at hg
  rcases hg with hg | hg
  · exact va_tabs hg hvm h
  · exact word_at hW (good_of_word hg) h
/-- a list's words: the good ones out of the method's own list, the others by premises of their own -/
theorem vx_hat {args : Array Value} {s : State} {L B : List Cond} (h1 : ∀ w ∈ L.filter goodWord, w.before args s = true) (h2 : ∀ w ∈ L.filter (fun w => !goodWord w), w ∈ B) (h3 : ∀ w ∈ B, w.before args s = true) : ∀ w ∈ L, w.before args s = true := by
  intro w hw
  by_cases g : goodWord w = true
  · exact h1 w (List.mem_filter.mpr ⟨hw, g⟩)
  · refine h3 w (h2 w (List.mem_filter.mpr ⟨hw, ?_⟩))
    show (!goodWord w) = true
    cases hgw : goodWord w
    · rfl
    · exact absurd hgw g
theorem vx_c {args : Array Value} {s : State} {w : Cond} {B : List Cond} (h : w.before args s = true) (t : ∀ w ∈ B, w.before args s = true) : ∀ w' ∈ w :: B, w'.before args s = true := fun w' h' => (List.mem_cons.mp h').elim (fun e => by rw [e]; exact h) (t w')
theorem vx_n {args : Array Value} {s : State} : ∀ w ∈ ([] : List Cond), w.before args s = true := fun _ h => nomatch h
theorem vx_own {args : Array Value} {s : State} {L : List Cond} (h1 : ∀ w ∈ L.filter vx_no, w.before args s = true)
    (hU : (Cond.isRef (.static Bundle.tN "UNASSIGNED_STACK" Bundle.steD)).before args s = true) (hN : (Cond.isRef (.static Bundle.tN "SUPPRESSED_SENTINEL" Bundle.listD)).before args s = true)
    (lU : (Cond.laysStatic Bundle.tN "UNASSIGNED_STACK" Bundle.steD).before args s = true) (lN : (Cond.laysStatic Bundle.tN "SUPPRESSED_SENTINEL" Bundle.listD).before args s = true) : ∀ w ∈ L, w.before args s = true := by
  intro w hw
  by_cases e1 : w = .isRef (.static Bundle.tN "UNASSIGNED_STACK" Bundle.steD)
  · rw [e1]; exact hU
  · by_cases e2 : w = .isRef (.static Bundle.tN "SUPPRESSED_SENTINEL" Bundle.listD)
    · rw [e2]; exact hN
    · by_cases e3 : w = .laysStatic Bundle.tN "UNASSIGNED_STACK" Bundle.steD
      · rw [e3]; exact lU
      · by_cases e4 : w = .laysStatic Bundle.tN "SUPPRESSED_SENTINEL" Bundle.listD
        · rw [e4]; exact lN
        · exact h1 w (List.mem_filter.mpr ⟨hw, by unfold vx_no; rw [decide_eq_true e1, decide_eq_true e2, decide_eq_true e3, decide_eq_true e4]; rfl⟩)
/-- where a static field lies, its class's statics cell in H -/
def vx_L (C n d : String) (A : Nat → Prop) (U : State) (H : Heap) : Prop := ∃ (c : ClassId) (k : Class) (i : Nat) (f : Field) (a : Nat) (cell : Cell), U.vm.findClass C = some c ∧ U.fieldFound? C n d = some (c, k, i, f) ∧ f.isStatic = true ∧ k.statics = some a ∧ H[a]? = some cell ∧ cell.vm.isStatics = true ∧ cell.cls = c ∧ f.slot < cell.slots.size ∧ k.staticTypes[f.slot]? = some f.type ∧ ¬ A a
theorem vx_L.moved {C n d : String} {A : Nat → Prop} {u U : State} {H : Heap} (hvm : u.vm.Alike U.vm) (h : vx_L C n d A u H) : vx_L C n d A U H := by
  obtain ⟨c, k, i, f, a, cell, h1, h2, h3, h4, h5, h6, h7, h8, h9, h10⟩ := h
  obtain ⟨k', hi', he⟩ := State.fieldFound?_setVm hvm h2
  exact ⟨c, k', i, f, a, cell, by rw [hvm.findClass]; exact h1, hi', h3, by rw [he]; exact h4, h5, h6, h7, h8, by rw [he]; exact h9, h10⟩
theorem vx_L.kept {C n d : String} {A : Nat → Prop} {U : State} {H H1 : Heap} (h : vx_L C n d A U H) (hq : ∀ a : Nat, a < H.size → ¬ A a → H1[a]? = H[a]?) : vx_L C n d A U H1 := by
  obtain ⟨c, k, i, f, a, cell, h1, h2, h3, h4, h5, h6, h7, h8, h9, h10⟩ := h
  exact ⟨c, k, i, f, a, cell, h1, h2, h3, h4, by rw [hq a (Array.getElem?_eq_some_iff.mp h5).1 h10]; exact h5, h6, h7, h8, h9, h10⟩
theorem vx_L.narrow {C n d : String} {A B : Nat → Prop} {U : State} {H : Heap} (h : vx_L C n d A U H) (hAB : ∀ q, B q → A q) : vx_L C n d B U H := by
  obtain ⟨c, k, i, f, a, cell, h1, h2, h3, h4, h5, h6, h7, h8, h9, h10⟩ := h
  exact ⟨c, k, i, f, a, cell, h1, h2, h3, h4, h5, h6, h7, h8, h9, fun z => h10 (hAB _ z)⟩
theorem vx_L.word {C n d : String} {A : Nat → Prop} {s : State} {args : Array Value} (h : vx_L C n d A s s.heap) : (Cond.laysStatic C n d).before args s = true := by
  obtain ⟨c, k, i, f, a, cell, h1, h2, h3, h4, h5, h6, h7, h8, h9, -⟩ := h
  show (Cond.laysStatic C n d).holds args s none s [] = true
  exact Cond.laysStatic_of h1 h2 h3 h4 h5 h6 h7 h8 h9
/-- .. and what it holds: null or some reference -/
def vx_Zq (C n d : String) (A : Nat → Prop) (U : State) (H : Heap) : Prop := va_Zq C n d A U H ∧ vx_L C n d A U H
theorem vx_Zq.moved {C n d : String} {A : Nat → Prop} {u U : State} {H : Heap} (hvm : u.vm.Alike U.vm) (h : vx_Zq C n d A u H) : vx_Zq C n d A U H := ⟨va_Zq.moved hvm h.1, vx_L.moved hvm h.2⟩
theorem vx_Zq.kept {C n d : String} {A : Nat → Prop} {U : State} {H H1 : Heap} (h : vx_Zq C n d A U H) (hq : ∀ a : Nat, a < H.size → ¬ A a → H1[a]? = H[a]?) : vx_Zq C n d A U H1 := ⟨va_Zq.kept h.1 hq, vx_L.kept h.2 hq⟩
theorem vx_Zq.narrow {C n d : String} {A B : Nat → Prop} {U : State} {H : Heap} (h : vx_Zq C n d A U H) (hAB : ∀ q, B q → A q) : vx_Zq C n d B U H := ⟨va_Zq.narrow h.1 hAB, vx_L.narrow h.2 hAB⟩
theorem vx_Zqof {args : Array Value} {s : State} {C n d : String} {A : Nat → Prop} (hl : (Cond.laysStatic C n d).before args s = true) (hini : (Cond.initialized C).before args s = true) (h : (Cond.isRef (.static C n d)).before args s = true) (hA : ∀ a : Nat, a < s.heap.size → ¬ A a) : vx_Zq C n d A s s.heap := by
  refine ⟨va_Zqof hl hini h hA, ?_⟩
  obtain ⟨c, k, i, f, a, cell, h1, h2, h3, h4, h5, h6, h7, h8, h9⟩ := Cond.laysStatic_spec hl
  exact ⟨c, k, i, f, a, cell, h1, h2, h3, h4, h5, h6, h7, h8, h9, hA a (Array.getElem?_eq_some_iff.mp h5).1⟩
theorem vx_isRef {C n d : String} {v : Value} {A : Nat → Prop} {s : State} {args : Array Value} (h : va_Z C n d v A s s.heap) (hv : v.isRef = true) : (Cond.isRef (.static C n d)).before args s = true := by
  obtain ⟨cf, kf, fi, f, a, cell, h1, h2, h3, h4, h5, h6, h7, -⟩ := h
  have he : (Term.static C n d).eval args s none [] s = some v := by
    simp [Term.eval, State.fieldNamed?, h1, h2, h4, h5, h6, h7]
  simp only [Cond.before, Cond.holds, Cond.value, he]
  cases v <;> simp_all [Value.isRef]
theorem vx_isRefq {C n d : String} {A : Nat → Prop} {s : State} {args : Array Value} (h : va_Zq C n d A s s.heap) : (Cond.isRef (.static C n d)).before args s = true := by
  rcases h with h | ⟨t, h⟩
  · exact vx_isRef h rfl
  · exact vx_isRef h rfl
/-- the same frame, seen from here: as if the method were called anew in this heap -/
theorem vx_rebase {T : State} (X : Stand p l e R s m args below meth c T locs cells slots) {R' : Room} (hf : R'.frames ≤ R.frames) (hl : R'.locals ≤ R.locals) (hc : cells + R'.cells ≤ R.cells) (hs : slots + R'.slots ≤ R.slots) :
    Stand p l e R' ((T.setVm s.vm).setFrames (.invoking m args :: below)) m args below meth c T [] 0 0 := by
  have htop : (T.setVm s.vm).topJava?.isSome := X.here.top
  have hF : ((T.setVm s.vm).setFrames (.invoking m args :: below)).frames = .invoking m args :: below := State.frames_setFrames _ (State.cur_lt_of_top htop)
  obtain ⟨g₀, hg0⟩ := Option.isSome_iff_exists.mp htop
  obtain ⟨r, hr⟩ := State.topJava?_eq_some.mp hg0
  have hl9 : e.platform.stackLimits (T.setVm s.vm).me = e.platform.stackLimits s.me := X.limits
  have hb9 : (T.setVm s.vm).me.stackBytes = s.me.stackBytes := X.bytes
  refine ⟨X.admits, X.cas, X.clock, hF, ?_, X.hears, X.method, X.code, X.here, X.tail, X.warmed, ?_, ?_, ?_⟩
  · have h := X.room
    have hU : ((T.setVm s.vm).setFrames (.invoking m args :: below)).localsInUse = s.localsInUse := by
      rw [State.localsInUse_invoking hF (meth := meth) (c := c) X.method X.code, State.localsInUse_invoking X.frames X.method X.code]
    simp only [State.hasRoom, Bool.and_eq_true, decide_eq_true_eq] at h ⊢
    obtain ⟨⟨⟨⟨h1, h2, h3, h4, h5, h6⟩, h7⟩, h8⟩, h9⟩ := h
    rw [X.frames, List.length_cons] at h2 h3
    have q1 := X.heapSize
    have q2 := X.used
    simp only [hF, hU, List.length_cons, State.stackLimits_setFrames, State.stackBytes_setFrames, hl9, hb9]
    refine ⟨⟨⟨⟨by omega, by omega, by omega, by omega, by omega, h6⟩, ?_⟩, ?_⟩, X.book⟩
    · show T.heap.size + R'.cells ≤ e.platform.maxCells
      omega
    · show T.slotsUsed + R'.slots ≤ e.platform.maxSlots
      omega
  · rw [State.stackLimits_setFrames]; rfl
  · rw [State.stackBytes_setFrames]; rfl
  · refine ⟨?_, Nat.le_refl _, Nat.le_refl _, ?_, ?_, fun a c9 h9 => ⟨c9, h9, rfl, rfl, fun _ _ => rfl⟩⟩
    · obtain ⟨t, ht, -⟩ := State.frames_cons hr
      show T.setVm s.vm = { ((T.setVm s.vm).setFrames (.invoking m args :: below)).setFrames (T.setVm s.vm).frames with heap := T.heap, slotsUsed := T.slotsUsed }
      rw [State.setFrames_setFrames, State.setFrames_self ht]
      rfl
    · show T.slotsUsed = T.slotsUsed + ((T.heap.toList.drop T.heap.size).map (·.slots.size)).sum
      rw [List.drop_eq_nil_of_le (Nat.le_of_eq Array.length_toList)]
      rfl
    · show ((T.heap.toList.drop T.heap.size).map (·.slots.size)).sum ≤ 0
      rw [List.drop_eq_nil_of_le (Nat.le_of_eq Array.length_toList)]
      exact Nat.le_refl _
/-- 'throw new E()': new; dup; invokespecial; athrow -/
theorem vx_throw0 {cc : ByteArray} {pc : Nat} (hexec : p.tables.exec = Jvm.exec) (hb : c.code = cc) (hl : l.stackTraces = false) {own cls : String} {names : List String} {ik ic mc ms : Nat} {A : Nat → Prop}
    (hown : s.vm.findClass own = some m.cls) (hcls : Bundle.fit cls = true) (hnames : ∀ n ∈ names, Bundle.fit n = true)
    (hk : (Cond.classLink own ik cls).before args s = true) (hini : (Cond.initialized cls).before args s = true) (hat : ∀ w ∈ vx_at0 own ic cls names, w.before args s = true)
    (hgood : ∀ w ∈ Cond.classLink own ik cls :: Cond.initialized cls :: vx_at0 own ic cls names, vx_ot w = true)
    (hU : vx_Zq Bundle.tN "UNASSIGNED_STACK" Bundle.steD A s s.heap) (hN : vx_Zq Bundle.tN "SUPPRESSED_SENTINEL" Bundle.listD A s s.heap) (hS : va_S A s.heap H locs) (hsize : ls.size = c.maxLocals)
    (d0 : decode cc pc = .ok (.new ik, 3)) (d3 : decode cc (pc + 3) = .ok (.dup, 1)) (d4 : decode cc (pc + 4) = .ok (.invokespecial ic, 3)) (d7 : decode cc (pc + 7) = .ok (.athrow, 1))
    (hout : ∀ x ∈ c.exceptionTable.toList, covers x (pc + 7) = false)
    (hRframes : names.length + 3 < R.frames) (hRlocals : (rest.map fun v => v.category).sum + (13 * (names.length + 1) + 42) ≤ R.locals) (hRcells : cells + 1 ≤ R.cells) (hRslots : slots + 6 ≤ R.slots) (hlocks : meth.locks = false)
    (hx : ∀ t : State, s.vm.Alike t.vm → H.size ≤ t.heap.size → (∀ q : Nat, q < H.size → t.heap[q]? = H[q]?) → XC cls s t)
    (hf : ∀ z ∈ locs, free z.base) (hc : cells + 1 ≤ mc) (hs : slots + 6 ≤ ms) :
    W p l e R s m args below meth c H locs cells slots (vx_MQ below Qc XC args s mc ms free) (F0 m pc ls rest) := by
  intro T hT X
  have htr : e.platform.stackTraces = false := (show e.platform.stackTraces = l.stackTraces by rw [X.admits.platform]).trans hl
  have Y := vx_rebase X (R' := { frames := R.frames, locals := R.locals, cells := 1, slots := 6 }) (Nat.le_refl _) (Nat.le_refl _) hRcells hRslots
  obtain ⟨s', hA⟩ : ∃ z, z = (T.setVm s.vm).setFrames (.invoking m args :: below) := ⟨_, rfl⟩
  rw [← hA] at Y
  have hvm : s'.vm = s.vm := by rw [hA]; rfl
  have hhp : s'.heap = H := by rw [hA]; exact hT
  have hW0 : s.WarmedH s'.vm := by rw [hvm]; exact State.WarmedH.refl s
  have hat' : ∀ w ∈ vx_at0 own ic cls names, w.before args s' = true := fun w hw => vx_ot_at hW0 hvm.symm (hgood w (List.mem_cons_of_mem _ (List.mem_cons_of_mem _ hw))) (hat w hw)
  have hk' : (Cond.classLink own ik cls).before args s' = true := vx_ot_at hW0 hvm.symm (hgood _ List.mem_cons_self) hk
  have hini' : (Cond.initialized cls).before args s' = true := vx_ot_at hW0 hvm.symm (hgood _ (List.mem_cons_of_mem _ List.mem_cons_self)) hini
  have hU' : vx_Zq Bundle.tN "UNASSIGNED_STACK" Bundle.steD A s' s'.heap := by rw [hhp]; exact vx_Zq.moved hW0.alike (hU.kept hS.2.1)
  have hN' : vx_Zq Bundle.tN "SUPPRESSED_SENTINEL" Bundle.listD A s' s'.heap := by rw [hhp]; exact vx_Zq.moved hW0.alike (hN.kept hS.2.1)
  have h : ∀ w ∈ Bundle.ownAtoms0 own ic cls names, w.before args s' = true := vx_own hat' (vx_isRefq hU'.1) (vx_isRefq hN'.1) hU'.2.word hN'.2.word
  have hown' : s'.vm.findClass own = some m.cls := by rw [hvm]; exact hown
  have hins : (Cond.instantiable cls 6).before args s' = true := h _ (by simp [Bundle.ownAtoms0])
  obtain ⟨vm₁, cX, kX, hfX, hkX, -, -, X₁, st1⟩ := Y.newCold hexec (own := own) (C := cls) (index := ik) (n := 6) hown' hk' hins hini'
    (g := F0 m pc ls rest) rfl (by rw [hb]; exact d0) (Nat.le_refl _) (Nat.le_refl _)
  generalize hT1 : (T.setVm vm₁).pushCell { cls := cX, slots := kX.instanceTypes.map defaultValue, vm := .none } = T1 at X₁ st1
  have hcat : (Value.ref T.heap.size).category = 1 := rfl
  have hcellA : T1.heap[T.heap.size]? = some (freshCell cX kX) := by rw [← hT1]; exact State.heap_pushCell_size _ _
  have d3' : decode c.code (pc + 3) = .ok (.dup, 1) := by rw [hb]; exact d3
  obtain ⟨U, hsteps, hrun, hend, hW, hsame, ce, hce, hO⟩ := X₁.ctorThrow0 hexec htr (own := own) (cls := cls) (names := names) (ic := ic) hown' hcls hnames h (fun x hx => nomatch hx) hfX hkX hcellA (by rw [hhp, hT]; exact Nat.le_refl _)
    (g := { method := m, pc := pc + 4, locals := ls, stack := .ref T.heap.size :: .ref T.heap.size :: rest, locked := none }) rfl hsize rfl rfl (rest := rest) rfl
    (by rw [hb]; exact d4) (by rw [hb]; exact d7) hout hRframes (by simp only [List.map_cons, List.sum_cons, hcat]; omega) hlocks
  obtain ⟨f1, f2⟩ := vx_frame hsame
  rw [hhp] at f1 f2
  have hWs : s.WarmedH U.vm := State.WarmedH.trans hW0 hW
  have hcl : s.vm.findClass cls = some ce.cls := by
    have h9 := hO.cls
    rw [hvm] at h9
    exact h9
  have hall : s.sameButNew ({ U with vm := s.vm } : State) locs mc ms := by
    subst hA
    obtain ⟨e1, e2⟩ := hsame
    rw [State.setFrames_setFrames] at e1
    have h2 : (T.setVm s.vm).sameButNew ({ U with vm := s.vm } : State) [] (0 + 1) (0 + 6) := ⟨e1, e2⟩
    have h3 := X.same.trans h2
    rw [List.append_nil] at h3
    exact h3.mono hc hs
  refine ⟨U, ?_, .threw T.heap.size, hrun, hend, Or.inr ⟨T.heap.size, rfl, cls, ce, locs, hx U hWs.alike f1 (fun q hq => f2 q hq (fun z hz => nomatch hz)), hce, hO.vm, hcl, hWs, hall, hf⟩⟩
  refine st1 _ ?_
  show Steps p.tables e below (T1.setTop { method := m, pc := pc + 3, locals := ls, stack := .ref T.heap.size :: rest, locked := none }) _
  jvm_step X₁.here [X₁.here.top, hexec, d3', Value.category]
  exact hsteps
/-- 'throw new E("text")': new; dup; ldc; invokespecial; athrow -/
theorem vx_throwS {cc : ByteArray} {pc : Nat} (hexec : p.tables.exec = Jvm.exec) (hb : c.code = cc) (hl : l.stackTraces = false) {own cls text : String} {names : List String} {ik is ic mc ms sa : Nat} {A : Nat → Prop}
    (hown : s.vm.findClass own = some m.cls) (hcls : Bundle.fit cls = true) (hnames : ∀ n ∈ names, Bundle.fit n = true)
    (hk : (Cond.classLink own ik cls).before args s = true) (hini : (Cond.initialized cls).before args s = true) (hstr : vk_R own is text sa s) (hat : ∀ w ∈ vx_atS own ic cls names, w.before args s = true)
    (hgood : ∀ w ∈ Cond.classLink own ik cls :: Cond.initialized cls :: vx_atS own ic cls names, vx_ot w = true)
    (hU : vx_Zq Bundle.tN "UNASSIGNED_STACK" Bundle.steD A s s.heap) (hN : vx_Zq Bundle.tN "SUPPRESSED_SENTINEL" Bundle.listD A s s.heap) (hS : va_S A s.heap H locs) (hsize : ls.size = c.maxLocals)
    (d0 : decode cc pc = .ok (.new ik, 3)) (d3 : decode cc (pc + 3) = .ok (.dup, 1)) (d4 : decode cc (pc + 4) = .ok (.ldc is, 2)) (d6 : decode cc (pc + 6) = .ok (.invokespecial ic, 3)) (d9 : decode cc (pc + 9) = .ok (.athrow, 1))
    (hout : ∀ x ∈ c.exceptionTable.toList, covers x (pc + 9) = false)
    (hRframes : names.length + 3 < R.frames) (hRlocals : (rest.map fun v => v.category).sum + (13 * (names.length + 1) + 43) ≤ R.locals) (hRcells : cells + 1 ≤ R.cells) (hRslots : slots + 6 ≤ R.slots) (hlocks : meth.locks = false)
    (hx : ∀ t : State, s.vm.Alike t.vm → H.size ≤ t.heap.size → (∀ q : Nat, q < H.size → t.heap[q]? = H[q]?) → XC cls s t)
    (hf : ∀ z ∈ locs, free z.base) (hc : cells + 1 ≤ mc) (hs : slots + 6 ≤ ms) :
    W p l e R s m args below meth c H locs cells slots (vx_MQ below Qc XC args s mc ms free) (F0 m pc ls rest) := by
  intro T hT X
  have htr : e.platform.stackTraces = false := (show e.platform.stackTraces = l.stackTraces by rw [X.admits.platform]).trans hl
  have Y := vx_rebase X (R' := { frames := R.frames, locals := R.locals, cells := 1, slots := 6 }) (Nat.le_refl _) (Nat.le_refl _) hRcells hRslots
  obtain ⟨s', hA⟩ : ∃ z, z = (T.setVm s.vm).setFrames (.invoking m args :: below) := ⟨_, rfl⟩
  rw [← hA] at Y
  have hvm : s'.vm = s.vm := by rw [hA]; rfl
  have hhp : s'.heap = H := by rw [hA]; exact hT
  have hW0 : s.WarmedH s'.vm := by rw [hvm]; exact State.WarmedH.refl s
  have hat' : ∀ w ∈ vx_atS own ic cls names, w.before args s' = true := fun w hw => vx_ot_at hW0 hvm.symm (hgood w (List.mem_cons_of_mem _ (List.mem_cons_of_mem _ hw))) (hat w hw)
  have hk' : (Cond.classLink own ik cls).before args s' = true := vx_ot_at hW0 hvm.symm (hgood _ List.mem_cons_self) hk
  have hini' : (Cond.initialized cls).before args s' = true := vx_ot_at hW0 hvm.symm (hgood _ (List.mem_cons_of_mem _ List.mem_cons_self)) hini
  have hU' : vx_Zq Bundle.tN "UNASSIGNED_STACK" Bundle.steD A s' s'.heap := by rw [hhp]; exact vx_Zq.moved hW0.alike (hU.kept hS.2.1)
  have hN' : vx_Zq Bundle.tN "SUPPRESSED_SENTINEL" Bundle.listD A s' s'.heap := by rw [hhp]; exact vx_Zq.moved hW0.alike (hN.kept hS.2.1)
  have h : ∀ w ∈ Bundle.ownAtoms own ic cls names, w.before args s' = true := vx_own hat' (vx_isRefq hU'.1) (vx_isRefq hN'.1) hU'.2.word hN'.2.word
  have hown' : s'.vm.findClass own = some m.cls := by rw [hvm]; exact hown
  have hins : (Cond.instantiable cls 6).before args s' = true := h _ (by simp [Bundle.ownAtoms])
  obtain ⟨vm₁, cX, kX, hfX, hkX, -, -, X₁, st1⟩ := Y.newCold hexec (own := own) (C := cls) (index := ik) (n := 6) hown' hk' hins hini'
    (g := F0 m pc ls rest) rfl (by rw [hb]; exact d0) (Nat.le_refl _) (Nat.le_refl _)
  generalize hT1 : (T.setVm vm₁).pushCell { cls := cX, slots := kX.instanceTypes.map defaultValue, vm := .none } = T1 at X₁ st1
  have hcat : (Value.ref T.heap.size).category = 1 := rfl
  have hcellA : T1.heap[T.heap.size]? = some (freshCell cX kX) := by rw [← hT1]; exact State.heap_pushCell_size _ _
  have d3' : decode c.code (pc + 3) = .ok (.dup, 1) := by rw [hb]; exact d3
  have d4' : decode c.code (pc + 4) = .ok (.ldc is, 2) := by rw [hb]; exact d4
  have hstr' : vk_R own is text sa s' := vk_R.warm hW0 hstr
  obtain ⟨U, hsteps, hrun, hend, hW, hsame, ce, hce, hO⟩ := X₁.ctorThrowS hexec htr (own := own) (cls := cls) (names := names) (ic := ic) hown' hcls hnames h (fun x hx => nomatch hx) hfX hkX hcellA (by rw [hhp, hT]; exact Nat.le_refl _) (msg := .ref sa) rfl
    (g := { method := m, pc := pc + 6, locals := ls, stack := .ref sa :: .ref T.heap.size :: .ref T.heap.size :: rest, locked := none }) rfl hsize rfl rfl (rest := rest) rfl
    (by rw [hb]; exact d6) (by rw [hb]; exact d9) hout hRframes (by simp only [List.map_cons, List.sum_cons, hcat]; omega) hlocks
  obtain ⟨f1, f2⟩ := vx_frame hsame
  rw [hhp] at f1 f2
  have hWs : s.WarmedH U.vm := State.WarmedH.trans hW0 hW
  have hcl : s.vm.findClass cls = some ce.cls := by
    have h9 := hO.cls
    rw [hvm] at h9
    exact h9
  have hall : s.sameButNew ({ U with vm := s.vm } : State) locs mc ms := by
    subst hA
    obtain ⟨e1, e2⟩ := hsame
    rw [State.setFrames_setFrames] at e1
    have h2 : (T.setVm s.vm).sameButNew ({ U with vm := s.vm } : State) [] (0 + 1) (0 + 6) := ⟨e1, e2⟩
    have h3 := X.same.trans h2
    rw [List.append_nil] at h3
    exact h3.mono hc hs
  refine ⟨U, ?_, .threw T.heap.size, hrun, hend, Or.inr ⟨T.heap.size, rfl, cls, ce, locs, hx U hWs.alike f1 (fun q hq => f2 q hq (fun z hz => nomatch hz)), hce, hO.vm, hcl, hWs, hall, hf⟩⟩
  refine st1 _ ?_
  show Steps p.tables e below (T1.setTop { method := m, pc := pc + 3, locals := ls, stack := .ref T.heap.size :: rest, locked := none }) _
  jvm_step X₁.here [X₁.here.top, hexec, d3', Value.category]
  exact X₁.ldcString hexec (own := own) (text := text) (index := is) (a := sa) hown' hstr'.1 hstr'.2
    (g := { method := m, pc := pc + 4, locals := ls, stack := .ref T.heap.size :: .ref T.heap.size :: rest, locked := none }) rfl d4' _ hsteps
/-- 'throw new E("text")', the text by a wide index -/
theorem vx_throwSW {cc : ByteArray} {pc : Nat} (hexec : p.tables.exec = Jvm.exec) (hb : c.code = cc) (hl : l.stackTraces = false) {own cls text : String} {names : List String} {ik is ic mc ms sa : Nat} {A : Nat → Prop}
    (hown : s.vm.findClass own = some m.cls) (hcls : Bundle.fit cls = true) (hnames : ∀ n ∈ names, Bundle.fit n = true)
    (hk : (Cond.classLink own ik cls).before args s = true) (hini : (Cond.initialized cls).before args s = true) (hstr : vk_R own is text sa s) (hat : ∀ w ∈ vx_atS own ic cls names, w.before args s = true)
    (hgood : ∀ w ∈ Cond.classLink own ik cls :: Cond.initialized cls :: vx_atS own ic cls names, vx_ot w = true)
    (hU : vx_Zq Bundle.tN "UNASSIGNED_STACK" Bundle.steD A s s.heap) (hN : vx_Zq Bundle.tN "SUPPRESSED_SENTINEL" Bundle.listD A s s.heap) (hS : va_S A s.heap H locs) (hsize : ls.size = c.maxLocals)
    (d0 : decode cc pc = .ok (.new ik, 3)) (d3 : decode cc (pc + 3) = .ok (.dup, 1)) (d4 : decode cc (pc + 4) = .ok (.ldc_w is, 3)) (d7 : decode cc (pc + 7) = .ok (.invokespecial ic, 3)) (d10 : decode cc (pc + 10) = .ok (.athrow, 1))
    (hout : ∀ x ∈ c.exceptionTable.toList, covers x (pc + 10) = false)
    (hRframes : names.length + 3 < R.frames) (hRlocals : (rest.map fun v => v.category).sum + (13 * (names.length + 1) + 43) ≤ R.locals) (hRcells : cells + 1 ≤ R.cells) (hRslots : slots + 6 ≤ R.slots) (hlocks : meth.locks = false)
    (hx : ∀ t : State, s.vm.Alike t.vm → H.size ≤ t.heap.size → (∀ q : Nat, q < H.size → t.heap[q]? = H[q]?) → XC cls s t)
    (hf : ∀ z ∈ locs, free z.base) (hc : cells + 1 ≤ mc) (hs : slots + 6 ≤ ms) :
    W p l e R s m args below meth c H locs cells slots (vx_MQ below Qc XC args s mc ms free) (F0 m pc ls rest) := by
  intro T hT X
  have htr : e.platform.stackTraces = false := (show e.platform.stackTraces = l.stackTraces by rw [X.admits.platform]).trans hl
  have Y := vx_rebase X (R' := { frames := R.frames, locals := R.locals, cells := 1, slots := 6 }) (Nat.le_refl _) (Nat.le_refl _) hRcells hRslots
  obtain ⟨s', hA⟩ : ∃ z, z = (T.setVm s.vm).setFrames (.invoking m args :: below) := ⟨_, rfl⟩
  rw [← hA] at Y
  have hvm : s'.vm = s.vm := by rw [hA]; rfl
  have hhp : s'.heap = H := by rw [hA]; exact hT
  have hW0 : s.WarmedH s'.vm := by rw [hvm]; exact State.WarmedH.refl s
  have hat' : ∀ w ∈ vx_atS own ic cls names, w.before args s' = true := fun w hw => vx_ot_at hW0 hvm.symm (hgood w (List.mem_cons_of_mem _ (List.mem_cons_of_mem _ hw))) (hat w hw)
  have hk' : (Cond.classLink own ik cls).before args s' = true := vx_ot_at hW0 hvm.symm (hgood _ List.mem_cons_self) hk
  have hini' : (Cond.initialized cls).before args s' = true := vx_ot_at hW0 hvm.symm (hgood _ (List.mem_cons_of_mem _ List.mem_cons_self)) hini
  have hU' : vx_Zq Bundle.tN "UNASSIGNED_STACK" Bundle.steD A s' s'.heap := by rw [hhp]; exact vx_Zq.moved hW0.alike (hU.kept hS.2.1)
  have hN' : vx_Zq Bundle.tN "SUPPRESSED_SENTINEL" Bundle.listD A s' s'.heap := by rw [hhp]; exact vx_Zq.moved hW0.alike (hN.kept hS.2.1)
  have h : ∀ w ∈ Bundle.ownAtoms own ic cls names, w.before args s' = true := vx_own hat' (vx_isRefq hU'.1) (vx_isRefq hN'.1) hU'.2.word hN'.2.word
  have hown' : s'.vm.findClass own = some m.cls := by rw [hvm]; exact hown
  have hins : (Cond.instantiable cls 6).before args s' = true := h _ (by simp [Bundle.ownAtoms])
  obtain ⟨vm₁, cX, kX, hfX, hkX, -, -, X₁, st1⟩ := Y.newCold hexec (own := own) (C := cls) (index := ik) (n := 6) hown' hk' hins hini'
    (g := F0 m pc ls rest) rfl (by rw [hb]; exact d0) (Nat.le_refl _) (Nat.le_refl _)
  generalize hT1 : (T.setVm vm₁).pushCell { cls := cX, slots := kX.instanceTypes.map defaultValue, vm := .none } = T1 at X₁ st1
  have hcat : (Value.ref T.heap.size).category = 1 := rfl
  have hcellA : T1.heap[T.heap.size]? = some (freshCell cX kX) := by rw [← hT1]; exact State.heap_pushCell_size _ _
  have d3' : decode c.code (pc + 3) = .ok (.dup, 1) := by rw [hb]; exact d3
  have d4' : decode c.code (pc + 4) = .ok (.ldc_w is, 3) := by rw [hb]; exact d4
  have hstr' : vk_R own is text sa s' := vk_R.warm hW0 hstr
  obtain ⟨U, hsteps, hrun, hend, hW, hsame, ce, hce, hO⟩ := X₁.ctorThrowS hexec htr (own := own) (cls := cls) (names := names) (ic := ic) hown' hcls hnames h (fun x hx => nomatch hx) hfX hkX hcellA (by rw [hhp, hT]; exact Nat.le_refl _) (msg := .ref sa) rfl
    (g := { method := m, pc := pc + 7, locals := ls, stack := .ref sa :: .ref T.heap.size :: .ref T.heap.size :: rest, locked := none }) rfl hsize rfl rfl (rest := rest) rfl
    (by rw [hb]; exact d7) (by rw [hb]; exact d10) hout hRframes (by simp only [List.map_cons, List.sum_cons, hcat]; omega) hlocks
  obtain ⟨f1, f2⟩ := vx_frame hsame
  rw [hhp] at f1 f2
  have hWs : s.WarmedH U.vm := State.WarmedH.trans hW0 hW
  have hcl : s.vm.findClass cls = some ce.cls := by
    have h9 := hO.cls
    rw [hvm] at h9
    exact h9
  have hall : s.sameButNew ({ U with vm := s.vm } : State) locs mc ms := by
    subst hA
    obtain ⟨e1, e2⟩ := hsame
    rw [State.setFrames_setFrames] at e1
    have h2 : (T.setVm s.vm).sameButNew ({ U with vm := s.vm } : State) [] (0 + 1) (0 + 6) := ⟨e1, e2⟩
    have h3 := X.same.trans h2
    rw [List.append_nil] at h3
    exact h3.mono hc hs
  refine ⟨U, ?_, .threw T.heap.size, hrun, hend, Or.inr ⟨T.heap.size, rfl, cls, ce, locs, hx U hWs.alike f1 (fun q hq => f2 q hq (fun z hz => nomatch hz)), hce, hO.vm, hcl, hWs, hall, hf⟩⟩
  refine st1 _ ?_
  show Steps p.tables e below (T1.setTop { method := m, pc := pc + 3, locals := ls, stack := .ref T.heap.size :: rest, locked := none }) _
  jvm_step X₁.here [X₁.here.top, hexec, d3', Value.category]
  exact X₁.ldcStringW hexec (own := own) (text := text) (index := is) (a := sa) hown' hstr'.1 hstr'.2
    (g := { method := m, pc := pc + 4, locals := ls, stack := .ref T.heap.size :: .ref T.heap.size :: rest, locked := none }) rfl d4' _ hsteps
end Ends
section Bodies
variable {l : Launch}
theorem vx_ofW {y : MethodName} {ws ws' : List Cond} {rm : Room} {Pc : Array Value → State → Prop} {Qc : Array Value → State → Outcome → State → Prop} {XC : String → State → State → Prop} {mc ms : Nat} {free : Addr → Prop} {cc : ByteArray} {maxL : Nat} {ret : Option FieldType}
    (hy : plainName y.cls = true) (hw : ws = Cond.code y cc maxL ret :: ws')
    (body : ∀ p e s m args below meth c s₁, BodyLoose p l y (headSpec ws rm) cc maxL ret e s m args below meth c s₁ → c.maxLocals = maxL → (∀ x ∈ c.exceptionTable.toList, False) → Pc args s →
      W p l e (headSpec ws rm).room s m args below meth c s.heap [] 0 0 (vx_MQ below Qc XC args s mc ms free) (entryFrame m args maxL)) : vx_Met l y ws rm Pc Qc XC mc ms free := by
  refine MetFree.of_bodyS (code := cc) (maxLocals := maxL) (ret := ret) hy ?_ ?_
  · intro args s m h hn
    obtain ⟨meth, c, h1, h2, h3, h4, h5, h6, -, -⟩ := Cond.code_spec hn (atoms_spec (ws := ws) h _ (by rw [hw]; exact List.mem_cons_self))
    exact ⟨meth, c, h1, h2, h3, h4, h5, h6⟩
  · intro p e s m args below meth c s₁ B hml hP _
    have hh0 : s₁.heap = s.heap := by rw [B.state]; rfl
    have ht : ∀ x ∈ c.exceptionTable.toList, False := by
      obtain ⟨meth9, c9, h1, h2, -, -, -, -, h7, -⟩ := Cond.code_spec B.named (atoms_spec (ws := ws) B.pre _ (by rw [hw]; exact List.mem_cons_self))
      cases Option.some.inj (h1.symm.trans B.method)
      cases Option.some.inj (h2.symm.trans (Stand.of_body B).code)
      intro x hx
      rw [Array.isEmpty_iff.mp h7] at hx
      cases hx
    obtain ⟨t, a1, o, b1, b2, b3⟩ := body p e s m args below meth c s₁ B hml ht hP s₁ hh0 (Stand.of_body B)
    exact ⟨t, o, a1, b1, b2, b3⟩
/-- the table of a body with handlers -/
theorem vx_table {p : Program} {x y : MethodName} {S : Spec} {cc bytes : ByteArray} {maxL maxL' : Nat} {ret ret' : Option FieldType} {e : Env} {s s₁ : State} {m : MethodId} {args : Array Value} {below : List Frame} {meth : Method} {c : Code} {hh : List (Nat × Nat × Nat × Nat)}
    (B : BodyLoose p l y S cc maxL ret e s m args below meth c s₁) (h : (Cond.codeWith y bytes maxL' ret' hh).before args s = true) : c.exceptionTable.toList = tableOf hh := by
  obtain ⟨m9, meth9, c9, hn9, h1, h2, -, -, h6, -⟩ := Cond.codeWith_spec h
  cases Option.some.inj (hn9.symm.trans B.named)
  cases Option.some.inj (h1.symm.trans B.method)
  cases Option.some.inj (h2.symm.trans (Stand.of_body B).code)
  rw [← h6, table_eq]
end Bodies
end VXA
/-! ===== END ===== -/
/-! ===== BEGIN a static call of a method with an exception table ===== -/
section VXS
variable {p : Program} {l : Launch} {e : Env} {R : Room} {s : State} {m : MethodId} {args : Array Value} {below : List Frame} {meth : Method} {c : Code} {T : State} {H : Heap} {locs : List Loc} {cells slots : Nat}
abbrev vx_CSW (R : Room) (s : State) (args : Array Value) (own : String) (index : Nat) (y : MethodName) (bytes : ByteArray) (maxL : Nat) (ret : Option FieldType) (hh : List (Nat × Nat × Nat × Nat)) (ws : List Cond) (rm : Room) (mc ms n : Nat) : Prop :=
  (rm.cells = mc ∧ rm.slots = ms ∧ rm.frames + 1 ≤ R.frames ∧ 8 + (maxL + 11) + rm.locals ≤ R.locals ∧ (∀ w ∈ ws, ∀ (a' : Array Value) (U : State), s.WarmedH U.vm → w.before a' U = true) ∧ Cond.codeWith y bytes maxL ret hh ∈ ws) ∧
  (Cond.codeWith y bytes maxL ret hh).before args s = true ∧ (Cond.initialized y.cls).before args s = true ∧ (y.cls ≠ "java/lang/invoke/MethodHandle" ∧ y.cls ≠ "java/lang/invoke/VarHandle") ∧
  (∀ sig, parseMethodDescriptor y.desc = some sig → n = sig.parameters.length) ∧ (Cond.methodLink own index y).before args s = true ∧ (Cond.static y).before args s = true
theorem vx_cwSW {own : String} {index maxL mc ms : Nat} {y : MethodName} {bytes : ByteArray} {ret : Option FieldType} {hh : List (Nat × Nat × Nat × Nat)} {Ts ws ws' : List Cond} {rm : Room} (n : Nat) (ht : ∀ w ∈ Ts, w.before args s = true) (hT : GoodIn Ts (va_wsS own index y ws)) (hw : ws = Cond.codeWith y bytes maxL ret hh :: ws') (hrc : rm.cells = mc) (hrs : rm.slots = ms)
    (hd : y.cls ≠ "java/lang/invoke/MethodHandle" ∧ y.cls ≠ "java/lang/invoke/VarHandle" ∧ (parseMethodDescriptor y.desc).map (fun d => d.parameters.length) = some n) (hR : rm.frames + 1 ≤ R.frames ∧ 8 + (maxL + 11) + rm.locals ≤ R.locals) :
    vx_CSW R s args own index y bytes maxL ret hh ws rm mc ms n := by
  have ok : ∀ w ∈ va_wsS own index y ws, w.before args s = true := fun w h => ht w (hT w h).1
  have hG : GoodIn Ts ws := fun w h => hT w (by unfold va_wsS; exact List.mem_append_right _ h)
  have hc : Cond.codeWith y bytes maxL ret hh ∈ ws := by rw [hw]; exact List.mem_cons_self
  refine ⟨⟨hrc, hrs, hR.1, hR.2, pay_in ht hG, hc⟩, ht _ (hG _ hc).1, ok _ (by simp [va_wsS]), ⟨hd.1, hd.2.1⟩, fun sig h => ?_, ok _ (by simp [va_wsS]), ok _ (by simp [va_wsS])⟩
  have h2 := hd.2.2
  rw [h] at h2
  exact (Option.some.inj h2).symm
theorem vx_callSW (X : Stand p l e R s m args below meth c T locs cells slots) (hexec : p.tables.exec = Jvm.exec) {own : String} {index : Nat} {y : MethodName} {bytes : ByteArray} {maxL : Nat} {ret : Option FieldType} {hh : List (Nat × Nat × Nat × Nat)}
    (hown : s.vm.findClass own = some m.cls) (hlink : (Cond.methodLink own index y).before args s = true) (hstat : (Cond.static y).before args s = true) (hinit : (Cond.initialized y.cls).before args s = true)
    (hcode : (Cond.codeWith y bytes maxL ret hh).before args s = true) (hy : y.cls ≠ "java/lang/invoke/MethodHandle" ∧ y.cls ≠ "java/lang/invoke/VarHandle")
    {W9 : Nat} {Pre : Pt → Array Value → Prop} {Post : Pt → Array Value → Option Value → Pt → Prop} (hK : Back l R p e below s args y 3 W9 Pre Post)
    {g : JFrame} (hg : g.method = m) (hsize : g.locals.size = c.maxLocals) {argsL rest : List Value} (hlen : ∀ sig, parseMethodDescriptor y.desc = some sig → argsL.length = sig.parameters.length)
    (hstack : g.stack = argsL.reverse ++ rest) (hW : 2 * g.monitorRoom + (rest.map fun v => v.category).sum ≤ W9) (hdg : decode c.code g.pc = .ok (.invokestatic index, 3))
    (hpre : ∀ vm₁, s.WarmedH vm₁ → Pre ⟨T.setVm vm₁, locs, cells, slots⟩ argsL.toArray) :
    ∃ (v : Option Value) (vm₁ : Vm) (B : Pt), s.WarmedH vm₁ ∧ Stand p l e R s m args below meth c B.U B.locs B.cells B.slots ∧ Post ⟨T.setVm vm₁, locs, cells, slots⟩ argsL.toArray v B ∧
      ∀ target, Steps p.tables e below (B.U.setTop { g with pc := g.pc + 3, stack := v.toList ++ rest }) target → Steps p.tables e below (T.setTop g) target := by
  obtain ⟨mk, methM, cM, hnamed, hmethM, -, -, -, -, -, -, hsigM⟩ := Cond.codeWith_spec hcode
  have hstatic : methM.isStatic = true := Cond.static_spec hnamed hmethM hstat
  obtain ⟨kP, hkP, -⟩ := className_of_methodNamed hnamed
  have hinitP : kP.init = .initialized := Cond.initialized_spec (findClass_of_methodNamed hnamed) hkP hinit
  obtain ⟨vm₁, X₁, hstep₁⟩ := X.invokestatic hexec hown hlink hnamed hmethM hstatic hkP hinitP hy (g := g) hg (argsL := argsL) (rest := rest) (hlen _ hsigM) hstack hdg
  obtain ⟨v, B, X', hpost, hsteps⟩ := hK m meth c ⟨T.setVm vm₁, locs, cells, slots⟩ { g with stack := rest } (.invokestatic index) mk argsL.toArray X₁ hg hsize hdg hW (X₁.named hnamed) (hpre vm₁ X₁.warmed)
  exact ⟨v, vm₁, B, X₁.warmed, X', hpost, fun target h => hstep₁ _ fun acts => by rw [doInvoke_state]; exact hsteps.trans h⟩
theorem vx_runSW {y : MethodName} {bytes cc : ByteArray} {maxL nL mc ms n index : Nat} {ret : Option FieldType} {hh : List (Nat × Nat × Nat × Nat)} {ws : List Cond} {rm : Room} {Pc : Array Value → State → Prop} {Qc : Array Value → State → Outcome → State → Prop} {free : Addr → Prop} {Ts : List Cond} {own : String} {As rest : List Value} {g : JFrame}
    (S : CallFix p m c cc nL s args Ts own) (hM : Met l y ws rm Pc Qc mc ms free) (cw : vx_CSW R s args own index y bytes maxL ret hh ws rm mc ms n) (hp : PreS s H Pc As)
    (hg : g.method = m) (hn : As.length = n) (hsize : g.locals.size = nL) (hstack : g.stack = As.reverse ++ rest) (hW : 2 * g.monitorRoom + (rest.map fun v => v.category).sum ≤ 8) (hdg : decode cc g.pc = .ok (.invokestatic index, 3)) (hf : cells + mc ≤ R.cells ∧ slots + ms ≤ R.slots) :
    va_Run p l e R s m args below meth c H locs cells slots mc ms g rest (Qc As.toArray) (free) := by
  obtain ⟨⟨hrc, hrs, hfr, hlo, hws, hcw⟩, hcode, hini, hy, hlen, hl, hstt⟩ := cw
  have hK : Back l R p e below s args y 3 8 (PreOf R mc ms Pc) (PostOf Qc mc ms free) := va_backW (hh := hh) (bytes := bytes) (maxL := maxL) (ret := ret) hM hp.1 hrc hrs hfr hlo hws hcw (fun a' U hW => word_at hW (Or.inl (by first | rfl | simp [Cond.onTables, Cond.keeps, Cond.steady])) hini)
  obtain ⟨hx, hb, hml, ho, -⟩ := S
  intro T hT X
  obtain ⟨v, vm₁, ⟨U', l2, c2, s2⟩, hW₁, X', ⟨g', mk, t, L, e1, e2, hq, h1, hL, h2, h3⟩, st⟩ := vx_callSW X hx (hh := hh) (bytes := bytes) (maxL := maxL) (ret := ret) ho hl hstt hini hcode hy hK hg (hsize.trans hml.symm) (argsL := As) (rest := rest) (fun sig h => hn.trans (hlen sig h)) hstack hW (by rw [hb]; exact hdg)
    (fun vm₁ hW₁ => ⟨hf.1, hf.2, hp.2 (T.setVm vm₁) hT hW₁⟩)
  dsimp only [Pt.U, Pt.locs, Pt.cells, Pt.slots] at X' e1 e2 h1 h2 h3 st
  subst h1; subst h2; subst h3
  exact ⟨v, (T.setVm vm₁).calling g' mk As.toArray, t, U', L, hT, X', hL, e1, e2, hq, st⟩
/-- not caught here, past rows that name other classes: it goes on to the caller -/
theorem vx_outP {p : Program} {l : Launch} {e : Env} {R : Room} {s : State} {m : MethodId} {args : Array Value} {below : List Frame} {meth : Method} {c : Code} {H : Heap} {locs : List Loc} {cells slots : Nat} {free : Addr → Prop} {ls : Array Slot} {rest : List Value} {Qc : Array Value → State → Outcome → State → Prop} {XC : String → State → State → Prop}
    {pc : Nat} {own E : String} {ce : Cell} {q : Addr} {mc ms : Nat} (hown : s.vm.findClass own = some m.cls) (hlocks : meth.locks = false)
    (hpass : ∀ z ∈ c.exceptionTable.toList, covers z pc = false ∨ (z.catchType ≠ 0 ∧ ∃ nm : String, (Cond.classLink own z.catchType nm).before args s = true ∧ va_Nc E nm s)) (hcell : H[q]? = some ce) (hv : ce.vm = .none) (hcl : s.vm.findClass E = some ce.cls)
    (hx : ∀ t : State, t.heap = H → s.vm.Alike t.vm → XC E s t) (hf : ∀ z ∈ locs, free z.base) (hc : cells ≤ mc) (hs : slots ≤ ms) :
    vx_W p l e R s m args below meth c H locs cells slots (vx_MQ below Qc XC args s mc ms free) (F0 m pc ls rest) q := by
  intro T hT X
  have hpl : e.platform.magicAccessors = ({} : Platform).magicAccessors := by rw [X.admits.platform]
  obtain ⟨vm', hW', X', st⟩ := X.outThrough hlocks q (g := F0 m pc ls rest) rfl rfl rfl (cell := ce) (by rw [hT]; exact hcell) (by rw [hv]; rfl)
    (by obtain ⟨k9, h9, -⟩ := Vm.findClass_spec hcl; exact ⟨k9, h9⟩) (fun z hz => by
      rcases hpass z hz with h | ⟨hz0, nm, hl1, hn1⟩
      · exact Or.inl h
      · obtain ⟨c6, hc6, hcl6⟩ := Cond.classLink_spec hown hl1 e.platform hpl
        obtain ⟨a8, b8, h1, h2, h3⟩ := hn1
        cases Option.some.inj (h1.symm.trans hcl)
        cases Option.some.inj (h2.symm.trans hc6)
        exact Or.inr ⟨hz0, _, hcl6, h3⟩)
  obtain ⟨g₀, hfr⟩ := X'.frames_eq
  have hcell9 : ((T.setVm vm').setFrames (.throwing q :: below)).heap[q]? = some ce := by
    show T.heap[q]? = some ce
    rw [hT]; exact hcell
  have hend : Ended ((T.setVm vm').setFrames (.throwing q :: below)) below (.threw q) := State.frames_setFrames _ (State.cur_lt_of_frames hfr)
  refine ⟨(T.setVm vm').setFrames (.throwing q :: below), ?_, .threw q, X'.here.running, hend, Or.inr ⟨q, rfl, E, ce, locs, hx _ hT (X'.ends _).1.alike, hcell9, hv, hcl, (X'.ends _).1, (X'.ends _).2.mono hc hs, hf⟩⟩
  rw [X.pushThrowing_eq]
  exact st
/-- a thing of a world lies in the heap -/
theorem vx_lt {D : va_G} {cl : List vw_C} {ws : va_W} {H1 : Heap} (h : va_P D cl ws H1) {k : Nat} {q : Nat × va_E} (hk : ws[k]? = some q) : q.1 < H1.size := (h k q hk).lt
end VXS
/-! ===== END ===== -/
/-! ===== BEGIN methods with a table of their own: called by a name, returning or throwing ===== -/
section VXH
/-! vx_backW, vx_callVX, vx_callSX, vx_callVW, vx_runVW, vx_runVX, vx_runSX, vx_ofWH follow the same proofs as their sisters above (Free/Laws.lean, Shelf42/LK1.lean); vx_outP calls Shelf42/NT130.lean (outThrough). -/
section
variable {l : Launch} {R : Room} {p : Program} {e : Env} {below : List Frame} {s : State} {sargs : Array Value} {y : MethodName} {len W9 : Nat}
theorem vx_backW {ws : List Cond} {rm : Room} {Pc : Array Value → State → Prop} {Qc : Array Value → State → Outcome → State → Prop} {XC : String → State → State → Prop} {mc ms : Nat} {free : Addr → Prop} {bytes : ByteArray} {maxL : Nat} {ret : Option FieldType} {hh : List (Nat × Nat × Nat × Nat)}
    (hM : vx_Met l y ws rm Pc Qc XC mc ms free) (hblind : FrameBlind Pc) (hrc : rm.cells = mc) (hrs : rm.slots = ms)
    (hframes : rm.frames + 1 ≤ R.frames) (hlocals : W9 + (maxL + 11) + rm.locals ≤ R.locals)
    (hws : ∀ w ∈ ws, ∀ a' U, s.WarmedH U.vm → w.before a' U = true) (hcode : Cond.codeWith y bytes maxL ret hh ∈ ws) (hinit : ∀ a' U, s.WarmedH U.vm → (Cond.initialized y.cls).before a' U = true) :
    vx_Back l R p e below s sargs y len W9 (PreOf R mc ms Pc) (PostOf Qc mc ms free) (vx_Post XC mc ms free) := by
  intro m meth c A g ig mk a X hg hsize hdg hW hn hp
  have h1 : (headSpec ws rm).pre.before a A.U = true := atoms_intro fun w hw => hws w hw _ _ X.warmed
  have h2 : (Cond.codeWith y bytes maxL ret hh).before a A.U = true := hws _ hcode _ _ X.warmed
  have h3 : (Cond.initialized y.cls).before a A.U = true := hinit _ _ X.warmed
  have h4 : A.cells + (headSpec ws rm).room.cells ≤ R.cells := by rw [show (headSpec ws rm).room.cells = mc from hrc]; exact hp.1
  have h5 : A.slots + (headSpec ws rm).room.slots ≤ R.slots := by rw [show (headSpec ws rm).room.slots = ms from hrs]; exact hp.2.1
  have hPc : Pc a (A.U.calling g mk a) := hblind _ _ _ _ hp.2.2
  obtain ⟨U, Ls, c0, s0⟩ := A
  dsimp only [Pt.U, Pt.locs, Pt.cells, Pt.slots] at h1 h2 h3 h4 h5 X hn hPc ⊢
  obtain ⟨m9, methY, cY, hn9, hmY, hcY, -, hlY, -⟩ := Cond.codeWith_spec h2
  cases Option.some.inj (hn9.symm.trans hn)
  obtain ⟨kY, hkY, -⟩ := className_of_methodNamed hn
  have hinitY : kY.init = .initialized := Cond.initialized_spec (findClass_of_methodNamed hn) hkY h3
  have h : At U g.method c below := by rw [hg]; exact X.here
  have hlocals9 : W9 + (maxL + 11) + (headSpec ws rm).room.locals ≤ R.locals := hlocals
  have happ : (headSpec ws rm).appliesLoose y e.platform (U.calling g mk a) = true :=
    Spec.appliesLoose_calling (g := g) h hdg hn hkY hinitY
      (X.room_calling (g := g) (R' := (headSpec ws rm).room) hsize hmY hcY hframes (by rw [hlY]; omega) h4 h5) h1
  obtain ⟨mid, hmid⟩ := h.above
  have hfr : (U.setTop g).frames = (.java g :: mid) ++ below := by rw [State.frames_setTop' g h.top, hmid]; rfl
  obtain ⟨o, s₂, hsteps, -, hend, hq⟩ := Steps.callFree hM p X.admits X.cas X.clock (acts := []) hfr happ hPc trivial
  have hq' : vx_Q Qc XC mc ms free a (U.calling g mk a) o s₂ := hq
  rw [State.frames_setTop' g h.top] at hend
  obtain ⟨g₀, hg0⟩ := Option.isSome_iff_exists.mp h.top
  obtain ⟨r, hr⟩ := State.topJava?_eq_some.mp hg0
  have hr' : (({ U with heap := s₂.heap, slotsUsed := s₂.slotsUsed } : State).setVm s₂.vm).frames = .java g₀ :: r := hr
  rcases hq' with ⟨hqc, L, hfe, hL⟩ | ⟨q, rfl, E, ce, L, hx, hce, hcv, hcl, hW₂, hsm, hL⟩
  · obtain ⟨⟨v, rfl⟩, hW₂, e2, q2, q3, q4, q5, q6⟩ := id hfe
    have e3 : s₂ = ({ (U.calling g mk a).setFrames s₂.frames with heap := s₂.heap, slotsUsed := s₂.slotsUsed } : State).setVm s₂.vm := by
      have : s₂ = ({ s₂ with vm := (U.calling g mk a).vm } : State).setVm s₂.vm := rfl
      rw [e2] at this
      exact this
    obtain ⟨c₂, i₂, len₂, hc₂, hd₂, hf₂⟩ := hend
    have hW' : U.WarmedH s₂.vm := hW₂
    have hcc : c₂ = c := by
      have h1 : s₂.code? g.method = U.code? g.method := by
        rw [State.code?_eq, State.code?_eq, hW'.alike.method?]
      exact Option.some.inj (hc₂.symm.trans (h1.trans h.code))
    subst hcc
    have hlen : len₂ = len := by rw [hdg] at hd₂; cases hd₂; rfl
    subst hlen
    have hs₂ : s₂ = (({ U with heap := s₂.heap, slotsUsed := s₂.slotsUsed } : State).setVm s₂.vm).setTop { g with pc := g.pc + len₂, stack := v.toList ++ g.stack } := by
      refine e3.trans ?_
      rw [hf₂, State.calling_eq h.top, State.setFrames_setFrames, State.setTop_of_frames _ hr', hr]
      rfl
    have hsame : U.sameButNew ({ U with heap := s₂.heap, slotsUsed := s₂.slotsUsed } : State) L mc ms := by
      refine ⟨?_, q2, q3, q4, q5, q6⟩
      obtain ⟨t, ht, -⟩ := State.frames_cons hr
      show ({ U with heap := s₂.heap, slotsUsed := s₂.slotsUsed } : State) = { U.setFrames U.frames with heap := s₂.heap, slotsUsed := s₂.slotsUsed }
      rw [State.setFrames_self ht]
    subst hg
    refine Or.inl ⟨v, ⟨(({ U with heap := s₂.heap, slotsUsed := s₂.slotsUsed } : State).setVm s₂.vm), Ls ++ L, c0 + mc, s0 + ms⟩,
      ⟨X.admits, X.cas, X.clock, X.frames, X.room, X.hears, X.method, X.code, (X.here.setHeapUsed s₂.heap s₂.slotsUsed).setVm hW'.alike, X.tail, State.WarmedH.trans X.warmed hW', X.limits, X.bytes, X.same.trans (hsame.setVm s.vm)⟩,
      ⟨g, mk, s₂, L, rfl, rfl, hqc, rfl, hL, rfl, rfl⟩, ?_⟩
    show Steps p.tables e below _ ((({ U with heap := s₂.heap, slotsUsed := s₂.slotsUsed } : State).setVm s₂.vm).setTop { g with pc := g.pc + len₂, stack := v.toList ++ g.stack })
    rw [← hs₂]
    exact hsteps
  · obtain ⟨e2, q2, q3, q4, q5, q6⟩ := id hsm
    have e3 : s₂ = ({ (U.calling g mk a).setFrames s₂.frames with heap := s₂.heap, slotsUsed := s₂.slotsUsed } : State).setVm s₂.vm := by
      have : s₂ = ({ s₂ with vm := (U.calling g mk a).vm } : State).setVm s₂.vm := rfl
      rw [e2] at this
      exact this
    have hf₂ : s₂.frames = .throwing q :: .java g :: U.frames.tail := hend
    have hW' : U.WarmedH s₂.vm := hW₂
    have hs₂ : s₂ = ((({ U with heap := s₂.heap, slotsUsed := s₂.slotsUsed } : State).setVm s₂.vm).setTop g).pushFrame (.throwing q) := by
      refine e3.trans ?_
      rw [hf₂, State.calling_eq h.top, State.setFrames_setFrames, State.pushFrame, State.frames_setTop _ hr', State.setTop_of_frames _ hr', State.setFrames_setFrames, hr]
      rfl
    have hsame : U.sameButNew ({ U with heap := s₂.heap, slotsUsed := s₂.slotsUsed } : State) L mc ms := by
      refine ⟨?_, q2, q3, q4, q5, q6⟩
      obtain ⟨t, ht, -⟩ := State.frames_cons hr
      show ({ U with heap := s₂.heap, slotsUsed := s₂.slotsUsed } : State) = { U.setFrames U.frames with heap := s₂.heap, slotsUsed := s₂.slotsUsed }
      rw [State.setFrames_self ht]
    subst hg
    refine Or.inr ⟨q, ⟨(({ U with heap := s₂.heap, slotsUsed := s₂.slotsUsed } : State).setVm s₂.vm), Ls ++ L, c0 + mc, s0 + ms⟩,
      ⟨X.admits, X.cas, X.clock, X.frames, X.room, X.hears, X.method, X.code, (X.here.setHeapUsed s₂.heap s₂.slotsUsed).setVm hW'.alike, X.tail, State.WarmedH.trans X.warmed hW', X.limits, X.bytes, X.same.trans (hsame.setVm s.vm)⟩,
      ⟨g, mk, s₂, L, E, ce, rfl, rfl, hx, hce, hcv, hcl, rfl, hL, rfl, rfl⟩, ?_⟩
    show Steps p.tables e below _ (((({ U with heap := s₂.heap, slotsUsed := s₂.slotsUsed } : State).setVm s₂.vm).setTop g).pushFrame (.throwing q))
    rw [← hs₂]
    exact hsteps
end
variable {p : Program} {l : Launch} {e : Env} {R : Room} {s : State} {m : MethodId} {args : Array Value} {below : List Frame} {meth : Method} {c : Code} {T : State} {H : Heap} {locs : List Loc} {cells slots : Nat}
theorem vx_callVX (X : Stand p l e R s m args below meth c T locs cells slots) (hexec : p.tables.exec = Jvm.exec) {own C : String} {index : Nat} {y : MethodName} {bytes : ByteArray} {maxL : Nat} {ret : Option FieldType} {hh : List (Nat × Nat × Nat × Nat)}
    (hown : s.vm.findClass own = some m.cls) (hlink : (Cond.methodLink own index y).before args s = true) (hinst : (Cond.instanceMethod y).before args s = true) (hsel : (Cond.selects C y y).before args s = true)
    (hcode : (Cond.codeWith y bytes maxL ret hh).before args s = true) (hy : y.cls ≠ "java/lang/invoke/MethodHandle" ∧ y.cls ≠ "java/lang/invoke/VarHandle")
    {W9 : Nat} {Pre : Pt → Array Value → Prop} {Post : Pt → Array Value → Option Value → Pt → Prop} {PostX : Pt → Array Value → Addr → Pt → Prop} (hK : vx_Back l R p e below s args y 3 W9 Pre Post PostX)
    {b : Addr} {cellB : Cell} (hcell : T.heap[b]? = some cellB) (hobj : cellB.vm.isStatics = false) (hcls : s.vm.findClass C = some cellB.cls)
    {g : JFrame} (hg : g.method = m) (hsize : g.locals.size = c.maxLocals) {argsL rest : List Value} (hlen : ∀ sig, parseMethodDescriptor y.desc = some sig → argsL.length = sig.parameters.length)
    (hstack : g.stack = argsL.reverse ++ .ref b :: rest) (hW : 2 * g.monitorRoom + (rest.map fun v => v.category).sum ≤ W9) (hdg : decode c.code g.pc = .ok (.invokevirtual index, 3))
    (hpre : ∀ vm₁, s.WarmedH vm₁ → Pre ⟨T.setVm vm₁, locs, cells, slots⟩ (Value.ref b :: argsL).toArray) :
    (∃ (v : Option Value) (vm₁ : Vm) (B : Pt), s.WarmedH vm₁ ∧ Stand p l e R s m args below meth c B.U B.locs B.cells B.slots ∧ Post ⟨T.setVm vm₁, locs, cells, slots⟩ (Value.ref b :: argsL).toArray v B ∧
      ∀ target, Steps p.tables e below (B.U.setTop { g with pc := g.pc + 3, stack := v.toList ++ rest }) target → Steps p.tables e below (T.setTop g) target) ∨
    (∃ (q : Addr) (vm₁ : Vm) (B : Pt), s.WarmedH vm₁ ∧ Stand p l e R s m args below meth c B.U B.locs B.cells B.slots ∧ PostX ⟨T.setVm vm₁, locs, cells, slots⟩ (Value.ref b :: argsL).toArray q B ∧
      Steps p.tables e below (T.setTop g) ((B.U.setTop { g with stack := rest }).pushFrame (.throwing q))) := by
  obtain ⟨mk, methM, hnamed, hmethM, hstM, habM⟩ := Cond.instanceMethod_spec hinst
  obtain ⟨m8, methM', cM, hn8, hmethM', -, -, -, -, -, -, hsigM⟩ := Cond.codeWith_spec hcode
  cases Option.some.inj (hn8.symm.trans hnamed)
  cases hmethM.symm.trans hmethM'
  obtain ⟨c2, r2, m2, q1, q2, q3, q4, kP, hkP, hkPi⟩ := Cond.selects_spec hsel
  cases hcls.symm.trans q1
  cases (State.methodFound?_of_named hnamed hy).symm.trans q2
  cases hnamed.symm.trans q3
  have hselP : selectMethod e.platform s.vm cellB.cls mk = .method mk := by rw [Launch.admits_selectMethod X.admits]; exact q4
  obtain ⟨vm₁, X₁, hstep₁⟩ := X.invokevirtual hexec hown hlink hnamed hmethM hstM hkP hkPi hy (a := b) (cell := cellB) hcell
    (fun z h => by rw [h] at hobj; cases hobj) hselP hmethM habM hkP hkPi (g := g) hg (argsL := argsL) (rest := rest) (hlen _ hsigM) hstack hdg
  rcases hK m meth c ⟨T.setVm vm₁, locs, cells, slots⟩ { g with stack := rest } (.invokevirtual index) mk (Value.ref b :: argsL).toArray X₁ hg hsize hdg hW (X₁.named hnamed) (hpre vm₁ X₁.warmed) with ⟨v, B, X', hpost, hsteps⟩ | ⟨q, B, X', hpost, hsteps⟩
  · exact Or.inl ⟨v, vm₁, B, X₁.warmed, X', hpost, fun target h => hstep₁ _ fun acts => by rw [doInvoke_state]; exact hsteps.trans h⟩
  · exact Or.inr ⟨q, vm₁, B, X₁.warmed, X', hpost, hstep₁ _ fun acts => by rw [doInvoke_state]; exact hsteps⟩
theorem vx_callSX (X : Stand p l e R s m args below meth c T locs cells slots) (hexec : p.tables.exec = Jvm.exec) {own : String} {index : Nat} {y : MethodName} {bytes : ByteArray} {maxL : Nat} {ret : Option FieldType} {hh : List (Nat × Nat × Nat × Nat)}
    (hown : s.vm.findClass own = some m.cls) (hlink : (Cond.methodLink own index y).before args s = true) (hstat : (Cond.static y).before args s = true) (hinit : (Cond.initialized y.cls).before args s = true)
    (hcode : (Cond.codeWith y bytes maxL ret hh).before args s = true) (hy : y.cls ≠ "java/lang/invoke/MethodHandle" ∧ y.cls ≠ "java/lang/invoke/VarHandle")
    {W9 : Nat} {Pre : Pt → Array Value → Prop} {Post : Pt → Array Value → Option Value → Pt → Prop} {PostX : Pt → Array Value → Addr → Pt → Prop} (hK : vx_Back l R p e below s args y 3 W9 Pre Post PostX)
    {g : JFrame} (hg : g.method = m) (hsize : g.locals.size = c.maxLocals) {argsL rest : List Value} (hlen : ∀ sig, parseMethodDescriptor y.desc = some sig → argsL.length = sig.parameters.length)
    (hstack : g.stack = argsL.reverse ++ rest) (hW : 2 * g.monitorRoom + (rest.map fun v => v.category).sum ≤ W9) (hdg : decode c.code g.pc = .ok (.invokestatic index, 3))
    (hpre : ∀ vm₁, s.WarmedH vm₁ → Pre ⟨T.setVm vm₁, locs, cells, slots⟩ argsL.toArray) :
    (∃ (v : Option Value) (vm₁ : Vm) (B : Pt), s.WarmedH vm₁ ∧ Stand p l e R s m args below meth c B.U B.locs B.cells B.slots ∧ Post ⟨T.setVm vm₁, locs, cells, slots⟩ argsL.toArray v B ∧
      ∀ target, Steps p.tables e below (B.U.setTop { g with pc := g.pc + 3, stack := v.toList ++ rest }) target → Steps p.tables e below (T.setTop g) target) ∨
    (∃ (q : Addr) (vm₁ : Vm) (B : Pt), s.WarmedH vm₁ ∧ Stand p l e R s m args below meth c B.U B.locs B.cells B.slots ∧ PostX ⟨T.setVm vm₁, locs, cells, slots⟩ argsL.toArray q B ∧
      Steps p.tables e below (T.setTop g) ((B.U.setTop { g with stack := rest }).pushFrame (.throwing q))) := by
  obtain ⟨mk, methM, cM, hnamed, hmethM, -, -, -, -, -, -, hsigM⟩ := Cond.codeWith_spec hcode
  have hstatic : methM.isStatic = true := Cond.static_spec hnamed hmethM hstat
  obtain ⟨kP, hkP, -⟩ := className_of_methodNamed hnamed
  have hinitP : kP.init = .initialized := Cond.initialized_spec (findClass_of_methodNamed hnamed) hkP hinit
  obtain ⟨vm₁, X₁, hstep₁⟩ := X.invokestatic hexec hown hlink hnamed hmethM hstatic hkP hinitP hy (g := g) hg (argsL := argsL) (rest := rest) (hlen _ hsigM) hstack hdg
  rcases hK m meth c ⟨T.setVm vm₁, locs, cells, slots⟩ { g with stack := rest } (.invokestatic index) mk argsL.toArray X₁ hg hsize hdg hW (X₁.named hnamed) (hpre vm₁ X₁.warmed) with ⟨v, B, X', hpost, hsteps⟩ | ⟨q, B, X', hpost, hsteps⟩
  · exact Or.inl ⟨v, vm₁, B, X₁.warmed, X', hpost, fun target h => hstep₁ _ fun acts => by rw [doInvoke_state]; exact hsteps.trans h⟩
  · exact Or.inr ⟨q, vm₁, B, X₁.warmed, X', hpost, hstep₁ _ fun acts => by rw [doInvoke_state]; exact hsteps⟩
theorem vx_callVW (X : Stand p l e R s m args below meth c T locs cells slots) (hexec : p.tables.exec = Jvm.exec) {own C : String} {index : Nat} {y : MethodName} {bytes : ByteArray} {maxL : Nat} {ret : Option FieldType} {hh : List (Nat × Nat × Nat × Nat)}
    (hown : s.vm.findClass own = some m.cls) (hlink : (Cond.methodLink own index y).before args s = true) (hinst : (Cond.instanceMethod y).before args s = true) (hsel : (Cond.selects C y y).before args s = true)
    (hcode : (Cond.codeWith y bytes maxL ret hh).before args s = true) (hy : y.cls ≠ "java/lang/invoke/MethodHandle" ∧ y.cls ≠ "java/lang/invoke/VarHandle")
    {W9 : Nat} {Pre : Pt → Array Value → Prop} {Post : Pt → Array Value → Option Value → Pt → Prop} (hK : Back l R p e below s args y 3 W9 Pre Post)
    {b : Addr} {cellB : Cell} (hcell : T.heap[b]? = some cellB) (hobj : cellB.vm.isStatics = false) (hcls : s.vm.findClass C = some cellB.cls)
    {g : JFrame} (hg : g.method = m) (hsize : g.locals.size = c.maxLocals) {argsL rest : List Value} (hlen : ∀ sig, parseMethodDescriptor y.desc = some sig → argsL.length = sig.parameters.length)
    (hstack : g.stack = argsL.reverse ++ .ref b :: rest) (hW : 2 * g.monitorRoom + (rest.map fun v => v.category).sum ≤ W9) (hdg : decode c.code g.pc = .ok (.invokevirtual index, 3))
    (hpre : ∀ vm₁, s.WarmedH vm₁ → Pre ⟨T.setVm vm₁, locs, cells, slots⟩ (Value.ref b :: argsL).toArray) :
    ∃ (v : Option Value) (vm₁ : Vm) (B : Pt), s.WarmedH vm₁ ∧ Stand p l e R s m args below meth c B.U B.locs B.cells B.slots ∧ Post ⟨T.setVm vm₁, locs, cells, slots⟩ (Value.ref b :: argsL).toArray v B ∧
      ∀ target, Steps p.tables e below (B.U.setTop { g with pc := g.pc + 3, stack := v.toList ++ rest }) target → Steps p.tables e below (T.setTop g) target := by
  obtain ⟨mk, methM, hnamed, hmethM, hstM, habM⟩ := Cond.instanceMethod_spec hinst
  obtain ⟨m8, methM', cM, hn8, hmethM', -, -, -, -, -, -, hsigM⟩ := Cond.codeWith_spec hcode
  cases Option.some.inj (hn8.symm.trans hnamed)
  cases hmethM.symm.trans hmethM'
  obtain ⟨c2, r2, m2, q1, q2, q3, q4, kP, hkP, hkPi⟩ := Cond.selects_spec hsel
  cases hcls.symm.trans q1
  cases (State.methodFound?_of_named hnamed hy).symm.trans q2
  cases hnamed.symm.trans q3
  have hselP : selectMethod e.platform s.vm cellB.cls mk = .method mk := by rw [Launch.admits_selectMethod X.admits]; exact q4
  obtain ⟨vm₁, X₁, hstep₁⟩ := X.invokevirtual hexec hown hlink hnamed hmethM hstM hkP hkPi hy (a := b) (cell := cellB) hcell
    (fun z h => by rw [h] at hobj; cases hobj) hselP hmethM habM hkP hkPi (g := g) hg (argsL := argsL) (rest := rest) (hlen _ hsigM) hstack hdg
  obtain ⟨v, B, X', hpost, hsteps⟩ := hK m meth c ⟨T.setVm vm₁, locs, cells, slots⟩ { g with stack := rest } (.invokevirtual index) mk (Value.ref b :: argsL).toArray X₁ hg hsize hdg hW (X₁.named hnamed) (hpre vm₁ X₁.warmed)
  exact ⟨v, vm₁, B, X₁.warmed, X', hpost, fun target h => hstep₁ _ fun acts => by rw [doInvoke_state]; exact hsteps.trans h⟩
abbrev vx_CVW (R : Room) (s : State) (args : Array Value) (own C : String) (index : Nat) (y : MethodName) (bytes : ByteArray) (maxL : Nat) (ret : Option FieldType) (hh : List (Nat × Nat × Nat × Nat)) (ws : List Cond) (rm : Room) (mc ms n : Nat) : Prop :=
  (rm.cells = mc ∧ rm.slots = ms ∧ rm.frames + 1 ≤ R.frames ∧ 8 + (maxL + 11) + rm.locals ≤ R.locals ∧ (∀ w ∈ ws, ∀ (a' : Array Value) (U : State), s.WarmedH U.vm → w.before a' U = true) ∧ Cond.codeWith y bytes maxL ret hh ∈ ws) ∧
  (Cond.codeWith y bytes maxL ret hh).before args s = true ∧ (Cond.initialized y.cls).before args s = true ∧ (y.cls ≠ "java/lang/invoke/MethodHandle" ∧ y.cls ≠ "java/lang/invoke/VarHandle") ∧
  (∀ sig, parseMethodDescriptor y.desc = some sig → n = sig.parameters.length) ∧ (Cond.methodLink own index y).before args s = true ∧ (Cond.instanceMethod y).before args s = true ∧ (Cond.selects C y y).before args s = true
theorem vx_cwVW {own C : String} {index maxL mc ms : Nat} {y : MethodName} {bytes : ByteArray} {ret : Option FieldType} {hh : List (Nat × Nat × Nat × Nat)} {Ts ws ws' : List Cond} {rm : Room} (n : Nat) (ht : ∀ w ∈ Ts, w.before args s = true) (hT : GoodIn Ts (wsV own index C y ws)) (hw : ws = Cond.codeWith y bytes maxL ret hh :: ws') (hrc : rm.cells = mc) (hrs : rm.slots = ms)
    (hd : y.cls = C ∧ y.cls ≠ "java/lang/invoke/MethodHandle" ∧ y.cls ≠ "java/lang/invoke/VarHandle" ∧ (parseMethodDescriptor y.desc).map (fun d => d.parameters.length) = some n) (hR : rm.frames + 1 ≤ R.frames ∧ 8 + (maxL + 11) + rm.locals ≤ R.locals) :
    vx_CVW R s args own C index y bytes maxL ret hh ws rm mc ms n := by
  obtain ⟨hC, hd⟩ := hd
  subst hC
  have ok : ∀ w ∈ wsV own index y.cls y ws, w.before args s = true := fun w h => ht w (hT w h).1
  have hG : GoodIn Ts ws := fun w h => hT w (by unfold wsV; exact List.mem_append_right _ h)
  have hc : Cond.codeWith y bytes maxL ret hh ∈ ws := by rw [hw]; exact List.mem_cons_self
  refine ⟨⟨hrc, hrs, hR.1, hR.2, pay_in ht hG, hc⟩, ht _ (hG _ hc).1, ok _ (by simp [wsV]), ⟨hd.1, hd.2.1⟩, fun sig h => ?_, ok _ (by simp [wsV]), ok _ (by simp [wsV]), ok _ (by simp [wsV])⟩
  have h2 := hd.2.2
  rw [h] at h2
  exact (Option.some.inj h2).symm
theorem vx_runVW {y : MethodName} {bytes cc : ByteArray} {maxL nL mc ms n index : Nat} {ret : Option FieldType} {hh : List (Nat × Nat × Nat × Nat)} {ws : List Cond} {rm : Room} {Pc : Array Value → State → Prop} {Qc : Array Value → State → Outcome → State → Prop} {free : Addr → Prop} {Ts : List Cond} {own C : String} {b : Addr} {As rest : List Value} {g : JFrame}
    (S : CallFix p m c cc nL s args Ts own) (hM : Met l y ws rm Pc Qc mc ms free) (cw : vx_CVW R s args own C index y bytes maxL ret hh ws rm mc ms n) (hp : PreV s H C b Pc As)
    (hg : g.method = m) (hn : As.length = n) (hsize : g.locals.size = nL) (hstack : g.stack = As.reverse ++ .ref b :: rest) (hW : 2 * g.monitorRoom + (rest.map fun v => v.category).sum ≤ 8) (hdg : decode cc g.pc = .ok (.invokevirtual index, 3)) (hf : cells + mc ≤ R.cells ∧ slots + ms ≤ R.slots) :
    va_Run p l e R s m args below meth c H locs cells slots mc ms g rest (Qc (Value.ref b :: As).toArray) free := by
  obtain ⟨⟨hrc, hrs, hfr, hlo, hws, hcw⟩, hcode, hini, hy, hlen, hl, hin, hse⟩ := cw
  have hK : Back l R p e below s args y 3 8 (PreOf R mc ms Pc) (PostOf Qc mc ms free) := va_backW (hh := hh) (bytes := bytes) (maxL := maxL) (ret := ret) hM hp.1 hrc hrs hfr hlo hws hcw (fun a' U hW => word_at hW (Or.inl (by first | rfl | simp [Cond.onTables, Cond.keeps, Cond.steady])) hini)
  obtain ⟨hx, hb, hml, ho, -⟩ := S
  obtain ⟨-, ⟨cellB, hcB, hoB, hclB⟩, hPc⟩ := hp
  intro T hT X
  obtain ⟨v, vm₁, ⟨U', l2, c2, s2⟩, hW₁, X', ⟨g', mk, t, L, e1, e2, hq, h1, hL, h2, h3⟩, st⟩ := vx_callVW X hx (C := C) (hh := hh) (bytes := bytes) (maxL := maxL) (ret := ret) ho hl hin hse hcode hy hK (by rw [hT]; exact hcB) hoB hclB hg (hsize.trans hml.symm) (argsL := As) (rest := rest) (fun sig h => hn.trans (hlen sig h)) hstack hW (by rw [hb]; exact hdg)
    (fun vm₁ hW₁ => ⟨hf.1, hf.2, hPc (T.setVm vm₁) hT hW₁⟩)
  dsimp only [Pt.U, Pt.locs, Pt.cells, Pt.slots] at X' e1 e2 h1 h2 h3 st
  subst h1; subst h2; subst h3
  exact ⟨v, (T.setVm vm₁).calling g' mk (Value.ref b :: As).toArray, t, U', L, hT, X', hL, e1, e2, hq, st⟩
section
variable {y : MethodName} {bytes cc : ByteArray} {maxL nL mc ms n index : Nat} {ret : Option FieldType} {ws : List Cond} {rm : Room} {Pc : Array Value → State → Prop} {Qc : Array Value → State → Outcome → State → Prop} {XC : String → State → State → Prop} {free : Addr → Prop} {Ts : List Cond} {own C : String} {b : Addr} {As rest : List Value} {g : JFrame}
theorem vx_runVX {hh : List (Nat × Nat × Nat × Nat)} (S : CallFix p m c cc nL s args Ts own) (hM : vx_Met l y ws rm Pc Qc XC mc ms free) (cw : vx_CVW R s args own C index y bytes maxL ret hh ws rm mc ms n) (hp : PreV s H C b Pc As)
    (hg : g.method = m) (hn : As.length = n) (hsize : g.locals.size = nL) (hstack : g.stack = As.reverse ++ .ref b :: rest) (hW : 2 * g.monitorRoom + (rest.map fun v => v.category).sum ≤ 8) (hdg : decode cc g.pc = .ok (.invokevirtual index, 3)) (hf : cells + mc ≤ R.cells ∧ slots + ms ≤ R.slots) :
    vx_Run p l e R s m args below meth c H locs cells slots mc ms g rest (Qc (Value.ref b :: As).toArray) XC free := by
  obtain ⟨⟨hrc, hrs, hfr, hlo, hws, hcw⟩, hcode, hini, hy, hlen, hl, hin, hse⟩ := cw
  have hK : vx_Back l R p e below s args y 3 8 (PreOf R mc ms Pc) (PostOf Qc mc ms free) (vx_Post XC mc ms free) := vx_backW (hh := hh) (bytes := bytes) (maxL := maxL) (ret := ret) hM hp.1 hrc hrs hfr hlo hws hcw (fun a' U hW => word_at hW (Or.inl (by first | rfl | simp [Cond.onTables, Cond.keeps, Cond.steady])) hini)
  obtain ⟨hx, hb, hml, ho, -⟩ := S
  obtain ⟨-, ⟨cellB, hcB, hoB, hclB⟩, hPc⟩ := hp
  intro T hT X
  rcases vx_callVX X hx (C := C) (hh := hh) (bytes := bytes) (maxL := maxL) (ret := ret) ho hl hin hse hcode hy hK (by rw [hT]; exact hcB) hoB hclB hg (hsize.trans hml.symm) (argsL := As) (rest := rest) (fun sig h => hn.trans (hlen sig h)) hstack hW (by rw [hb]; exact hdg)
    (fun vm₁ hW₁ => ⟨hf.1, hf.2, hPc (T.setVm vm₁) hT hW₁⟩) with ⟨v, vm₁, ⟨U', l2, c2, s2⟩, hW₁, X', ⟨g', mk, t, L, e1, e2, hq, h1, hL, h2, h3⟩, st⟩ | ⟨q, vm₁, ⟨U', l2, c2, s2⟩, hW₁, X', ⟨g', mk, t, L, E, ce, e1, e2, hq, hce, hcv, hcl, h1, hL, h2, h3⟩, st⟩
  · dsimp only [Pt.U, Pt.locs, Pt.cells, Pt.slots] at X' e1 e2 h1 h2 h3 st
    subst h1; subst h2; subst h3
    exact Or.inl ⟨v, (T.setVm vm₁).calling g' mk (Value.ref b :: As).toArray, t, U', L, hT, X', hL, e1, e2, hq, st⟩
  · dsimp only [Pt.U, Pt.locs, Pt.cells, Pt.slots] at X' e1 e2 h1 h2 h3 st hcl
    subst h1; subst h2; subst h3
    exact Or.inr ⟨q, (T.setVm vm₁).calling g' mk (Value.ref b :: As).toArray, t, U', L, E, ce, hT, X', hL, e1, e2, hq, hce, hcv, vx_cls hW₁ hcl, st⟩
theorem vx_runSX {hh : List (Nat × Nat × Nat × Nat)} (S : CallFix p m c cc nL s args Ts own) (hM : vx_Met l y ws rm Pc Qc XC mc ms free) (cw : vx_CSW R s args own index y bytes maxL ret hh ws rm mc ms n) (hp : PreS s H Pc As)
    (hg : g.method = m) (hn : As.length = n) (hsize : g.locals.size = nL) (hstack : g.stack = As.reverse ++ rest) (hW : 2 * g.monitorRoom + (rest.map fun v => v.category).sum ≤ 8) (hdg : decode cc g.pc = .ok (.invokestatic index, 3)) (hf : cells + mc ≤ R.cells ∧ slots + ms ≤ R.slots) :
    vx_Run p l e R s m args below meth c H locs cells slots mc ms g rest (Qc As.toArray) XC free := by
  obtain ⟨⟨hrc, hrs, hfr, hlo, hws, hcw⟩, hcode, hini, hy, hlen, hl, hstt⟩ := cw
  have hK : vx_Back l R p e below s args y 3 8 (PreOf R mc ms Pc) (PostOf Qc mc ms free) (vx_Post XC mc ms free) := vx_backW (hh := hh) (bytes := bytes) (maxL := maxL) (ret := ret) hM hp.1 hrc hrs hfr hlo hws hcw (fun a' U hW => word_at hW (Or.inl (by first | rfl | simp [Cond.onTables, Cond.keeps, Cond.steady])) hini)
  obtain ⟨hx, hb, hml, ho, -⟩ := S
  intro T hT X
  rcases vx_callSX X hx (hh := hh) (bytes := bytes) (maxL := maxL) (ret := ret) ho hl hstt hini hcode hy hK hg (hsize.trans hml.symm) (argsL := As) (rest := rest) (fun sig h => hn.trans (hlen sig h)) hstack hW (by rw [hb]; exact hdg)
    (fun vm₁ hW₁ => ⟨hf.1, hf.2, hp.2 (T.setVm vm₁) hT hW₁⟩) with ⟨v, vm₁, ⟨U', l2, c2, s2⟩, hW₁, X', ⟨g', mk, t, L, e1, e2, hq, h1, hL, h2, h3⟩, st⟩ | ⟨q, vm₁, ⟨U', l2, c2, s2⟩, hW₁, X', ⟨g', mk, t, L, E, ce, e1, e2, hq, hce, hcv, hcl, h1, hL, h2, h3⟩, st⟩
  · dsimp only [Pt.U, Pt.locs, Pt.cells, Pt.slots] at X' e1 e2 h1 h2 h3 st
    subst h1; subst h2; subst h3
    exact Or.inl ⟨v, (T.setVm vm₁).calling g' mk As.toArray, t, U', L, hT, X', hL, e1, e2, hq, st⟩
  · dsimp only [Pt.U, Pt.locs, Pt.cells, Pt.slots] at X' e1 e2 h1 h2 h3 st hcl
    subst h1; subst h2; subst h3
    exact Or.inr ⟨q, (T.setVm vm₁).calling g' mk As.toArray, t, U', L, E, ce, hT, X', hL, e1, e2, hq, hce, hcv, vx_cls hW₁ hcl, st⟩
end
end VXH
theorem vx_ofWH {l : Launch} {y : MethodName} {ws ws' : List Cond} {rm : Room} {Pc : Array Value → State → Prop} {Qc : Array Value → State → Outcome → State → Prop} {XC : String → State → State → Prop} {mc ms : Nat} {free : Addr → Prop} {cc : ByteArray} {maxL : Nat} {ret : Option FieldType} {hh : List (Nat × Nat × Nat × Nat)}
    (hy : plainName y.cls = true) (hw : ws = Cond.codeWith y cc maxL ret hh :: ws')
    (body : ∀ p e s m args below meth c s₁, BodyLoose p l y (headSpec ws rm) cc maxL ret e s m args below meth c s₁ → c.maxLocals = maxL → Pc args s →
      W p l e (headSpec ws rm).room s m args below meth c s.heap [] 0 0 (vx_MQ below Qc XC args s mc ms free) (entryFrame m args maxL)) : vx_Met l y ws rm Pc Qc XC mc ms free := by
  refine MetFree.of_bodyS (code := cc) (maxLocals := maxL) (ret := ret) hy ?_ ?_
  · intro args s m h hn
    obtain ⟨m9, meth, c, hn9, h1, h2, h3, h4, -, h5, h6, -⟩ := Cond.codeWith_spec (atoms_spec (ws := ws) h _ (by rw [hw]; exact List.mem_cons_self))
    cases hn.symm.trans hn9
    exact ⟨meth, c, h1, h2, h3, h4, h5, h6⟩
  · intro p e s m args below meth c s₁ B hml hP _
    have hh0 : s₁.heap = s.heap := by rw [B.state]; rfl
    obtain ⟨t, a1, o, b1, b2, b3⟩ := body p e s m args below meth c s₁ B hml hP s₁ hh0 (Stand.of_body B)
    exact ⟨t, o, a1, b1, b2, b3⟩
/-! ===== END ===== -/
end
section
/-! ===== BEGIN printed: names, fields, word lists, decode rows ===== -/
def RX0 : String := "LineBuffers$Draws"
def TX0 : u_T := fun k => match k with
  | _ => ("LineBuffers$Draws", "state", "J", false)
def tyX0 : Nat → FieldType := fun k => match k with
  | _ => .long
abbrev wsX00 : List Cond := u_ws RX0 TX0 1
theorem nmX0 : ∀ a, a < 1 → ∀ b, b < 1 → a ≠ b → (TX0 a).2.1 ≠ (TX0 b).2.1 := by decide +kernel
theorem tyX0_ok : ∀ k, k < 1 → parseFieldDescriptor (TX0 k).2.2.1 = some (tyX0 k) := by decide +kernel
abbrev cX0_init : ByteArray := prog_2_method_1_code
def yX0_init : MethodName := ⟨RX0, "<init>", "(I)V"⟩
abbrev cX0_drawBelow : ByteArray := prog_2_method_2_code
def yX0_drawBelow : MethodName := ⟨RX0, "drawBelow", "(I)I"⟩
def RX1 : String := "LineBuffers$History"
def TX1 : u_T := fun k => match k with
  | 0 => ("LineBuffers$History", "places", "[LLineBuffers$Line;", true)
  | 1 => ("LineBuffers$History", "newest", "I", false)
  | _ => ("LineBuffers$History", "saved", "I", false)
def tyX1 : Nat → FieldType := fun k => match k with
  | 0 => .array (.object "LineBuffers$Line")
  | 1 => .int
  | _ => .int
abbrev wsX10 : List Cond := u_ws RX1 TX1 3
theorem nmX1 : ∀ a, a < 3 → ∀ b, b < 3 → a ≠ b → (TX1 a).2.1 ≠ (TX1 b).2.1 := by decide +kernel
theorem tyX1_ok : ∀ k, k < 3 → parseFieldDescriptor (TX1 k).2.2.1 = some (tyX1 k) := by decide +kernel
abbrev cX1_init : ByteArray := prog_3_method_1_code
def yX1_init : MethodName := ⟨RX1, "<init>", "()V"⟩
abbrev cX1_keep : ByteArray := prog_3_method_2_code
def yX1_keep : MethodName := ⟨RX1, "keep", "(LLineBuffers$Line;)V"⟩
abbrev cX1_giveBack : ByteArray := prog_3_method_3_code
def yX1_giveBack : MethodName := ⟨RX1, "giveBack", "(LLineBuffers$Line;)V"⟩
def RX2 : String := "LineBuffers$Line"
def TX2 : u_T := fun k => match k with
  | 0 => ("LineBuffers$Line", "rows", "[[I", true)
  | 1 => ("LineBuffers$Line", "stops", "LLineBuffers$Stops;", true)
  | 2 => ("LineBuffers$Line", "machines", "I", false)
  | _ => ("LineBuffers$Line", "tick", "I", false)
def tyX2 : Nat → FieldType := fun k => match k with
  | 0 => .array (.array .int)
  | 1 => .object "LineBuffers$Stops"
  | 2 => .int
  | _ => .int
abbrev wsX20 : List Cond := u_ws RX2 TX2 4
theorem nmX2 : ∀ a, a < 4 → ∀ b, b < 4 → a ≠ b → (TX2 a).2.1 ≠ (TX2 b).2.1 := by decide +kernel
theorem tyX2_ok : ∀ k, k < 4 → parseFieldDescriptor (TX2 k).2.2.1 = some (tyX2 k) := by decide +kernel
abbrev cX2_init : ByteArray := prog_4_method_1_code
def yX2_init : MethodName := ⟨RX2, "<init>", "()V"⟩
abbrev cX2_copy : ByteArray := prog_4_method_2_code
def yX2_copy : MethodName := ⟨RX2, "copy", "(LLineBuffers$Line;LLineBuffers$Line;)V"⟩
abbrev cX2_takeApart : ByteArray := prog_4_method_3_code
def yX2_takeApart : MethodName := ⟨RX2, "takeApart", "()V"⟩
abbrev cX2_join : ByteArray := prog_4_method_4_code
def yX2_join : MethodName := ⟨RX2, "join", "(III)I"⟩
abbrev cX2_mark : ByteArray := prog_4_method_5_code
def yX2_mark : MethodName := ⟨RX2, "mark", "(III)V"⟩
abbrev cX2_beginAnew : ByteArray := prog_4_method_6_code
def yX2_beginAnew : MethodName := ⟨RX2, "beginAnew", "()V"⟩
abbrev cX2_empty : ByteArray := prog_4_method_7_code
def yX2_empty : MethodName := ⟨RX2, "empty", "([I)V"⟩
abbrev cX2_pass : ByteArray := prog_4_method_8_code
def yX2_pass : MethodName := ⟨RX2, "pass", "(I)V"⟩
abbrev cX2_takeTurn : ByteArray := prog_4_method_9_code
def yX2_takeTurn : MethodName := ⟨RX2, "takeTurn", "(I)V"⟩
abbrev cX2_chooseSpeed : ByteArray := prog_4_method_10_code
def yX2_chooseSpeed : MethodName := ⟨RX2, "chooseSpeed", "(I)V"⟩
abbrev cX2_noteTurn : ByteArray := prog_4_method_11_code
def yX2_noteTurn : MethodName := ⟨RX2, "noteTurn", "([II)V"⟩
abbrev cX2_release : ByteArray := prog_4_method_12_code
def yX2_release : MethodName := ⟨RX2, "release", "(I)V"⟩
abbrev cX2_takeBottle : ByteArray := prog_4_method_13_code
def yX2_takeBottle : MethodName := ⟨RX2, "takeBottle", "(I)V"⟩
abbrev cX2_presentCycle : ByteArray := prog_4_method_14_code
def yX2_presentCycle : MethodName := ⟨RX2, "presentCycle", "([I)I"⟩
abbrev cX2_countFills : ByteArray := prog_4_method_15_code
def yX2_countFills : MethodName := ⟨RX2, "countFills", "()V"⟩
abbrev cX2_bottlesOut : ByteArray := prog_4_method_16_code
def yX2_bottlesOut : MethodName := ⟨RX2, "bottlesOut", "()I"⟩
abbrev cX2_bottlesInside : ByteArray := prog_4_method_17_code
def yX2_bottlesInside : MethodName := ⟨RX2, "bottlesInside", "()I"⟩
abbrev cX2_findLimiting : ByteArray := prog_4_method_18_code
def yX2_findLimiting : MethodName := ⟨RX2, "findLimiting", "()I"⟩
abbrev cX2_findSlowest : ByteArray := prog_4_method_19_code
def yX2_findSlowest : MethodName := ⟨RX2, "findSlowest", "(I)I"⟩
abbrev cX2_mostBottles : ByteArray := prog_4_method_20_code
def yX2_mostBottles : MethodName := ⟨RX2, "mostBottles", "(II)I"⟩
abbrev cX2_upTicks : ByteArray := prog_4_method_21_code
def yX2_upTicks : MethodName := ⟨RX2, "upTicks", "(II)I"⟩
abbrev cX2_mixInto : ByteArray := prog_4_method_22_code
def yX2_mixInto : MethodName := ⟨RX2, "mixInto", "(J)J"⟩
def RX3 : String := "LineBuffers$LineText"
def TX3 : u_T := fun k => match k with
  | 0 => ("LineBuffers$LineText", "bytes", "[I", true)
  | 1 => ("LineBuffers$LineText", "length", "I", false)
  | 2 => ("LineBuffers$LineText", "at", "I", false)
  | _ => ("LineBuffers$LineText", "error", "I", false)
def tyX3 : Nat → FieldType := fun k => match k with
  | 0 => .array .int
  | 1 => .int
  | 2 => .int
  | _ => .int
abbrev wsX30 : List Cond := u_ws RX3 TX3 4
theorem nmX3 : ∀ a, a < 4 → ∀ b, b < 4 → a ≠ b → (TX3 a).2.1 ≠ (TX3 b).2.1 := by decide +kernel
theorem tyX3_ok : ∀ k, k < 4 → parseFieldDescriptor (TX3 k).2.2.1 = some (tyX3 k) := by decide +kernel
abbrev cX3_init : ByteArray := prog_5_method_1_code
def yX3_init : MethodName := ⟨RX3, "<init>", "()V"⟩
abbrev cX3_put : ByteArray := prog_5_method_2_code
def yX3_put : MethodName := ⟨RX3, "put", "(I)V"⟩
abbrev cX3_readInto : ByteArray := prog_5_method_3_code
def yX3_readInto : MethodName := ⟨RX3, "readInto", "(LLineBuffers$Line;)I"⟩
abbrev cX3_readItem : ByteArray := prog_5_method_4_code
def yX3_readItem : MethodName := ⟨RX3, "readItem", "(LLineBuffers$Line;)V"⟩
abbrev cX3_readMachine : ByteArray := prog_5_method_5_code
def yX3_readMachine : MethodName := ⟨RX3, "readMachine", "(LLineBuffers$Line;)V"⟩
abbrev cX3_readMarks : ByteArray := prog_5_method_6_code
def yX3_readMarks : MethodName := ⟨RX3, "readMarks", "(LLineBuffers$Line;)V"⟩
abbrev cX3_readNumber : ByteArray := prog_5_method_7_code
def yX3_readNumber : MethodName := ⟨RX3, "readNumber", "(IIC)I"⟩
abbrev cX3_byteAt : ByteArray := prog_5_method_8_code
def yX3_byteAt : MethodName := ⟨RX3, "byteAt", "(I)I"⟩
abbrev cX3_isDigit : ByteArray := prog_5_method_9_code
def yX3_isDigit : MethodName := ⟨RX3, "isDigit", "(I)Z"⟩
def RX4 : String := "LineBuffers$Stops"
def TX4 : u_T := fun k => match k with
  | 0 => ("LineBuffers$Stops", "machineOf", "[I", true)
  | 1 => ("LineBuffers$Stops", "firstOf", "[I", true)
  | 2 => ("LineBuffers$Stops", "durationOf", "[I", true)
  | 3 => ("LineBuffers$Stops", "planned", "I", false)
  | _ => ("LineBuffers$Stops", "downBits", "I", false)
def tyX4 : Nat → FieldType := fun k => match k with
  | 0 => .array .int
  | 1 => .array .int
  | 2 => .array .int
  | 3 => .int
  | _ => .int
abbrev wsX40 : List Cond := u_ws RX4 TX4 5
theorem nmX4 : ∀ a, a < 5 → ∀ b, b < 5 → a ≠ b → (TX4 a).2.1 ≠ (TX4 b).2.1 := by decide +kernel
theorem tyX4_ok : ∀ k, k < 5 → parseFieldDescriptor (TX4 k).2.2.1 = some (tyX4 k) := by decide +kernel
abbrev cX4_init : ByteArray := prog_6_method_1_code
def yX4_init : MethodName := ⟨RX4, "<init>", "()V"⟩
abbrev cX4_copy : ByteArray := prog_6_method_2_code
def yX4_copy : MethodName := ⟨RX4, "copy", "(LLineBuffers$Stops;LLineBuffers$Stops;)V"⟩
abbrev cX4_plan : ByteArray := prog_6_method_3_code
def yX4_plan : MethodName := ⟨RX4, "plan", "(III)V"⟩
abbrev cX4_dropAfter : ByteArray := prog_6_method_4_code
def yX4_dropAfter : MethodName := ⟨RX4, "dropAfter", "(I)I"⟩
abbrev cX4_value : ByteArray := prog_6_method_5_code
def yX4_value : MethodName := ⟨RX4, "value", "(II)I"⟩
abbrev cX4_lookAt : ByteArray := prog_6_method_6_code
def yX4_lookAt : MethodName := ⟨RX4, "lookAt", "(I)I"⟩
abbrev cX4_isDown : ByteArray := prog_6_method_7_code
def yX4_isDown : MethodName := ⟨RX4, "isDown", "(I)Z"⟩
abbrev cX4_mixInto : ByteArray := prog_6_method_8_code
def yX4_mixInto : MethodName := ⟨RX4, "mixInto", "(J)J"⟩
def RX5 : String := "LineBuffers"
def TX5 : u_T := fun k => match k with
  | 0 => ("LineBuffers", "line", "LLineBuffers$Line;", true)
  | 1 => ("LineBuffers", "trial", "LLineBuffers$Line;", true)
  | 2 => ("LineBuffers", "history", "LLineBuffers$History;", true)
  | _ => ("LineBuffers", "text", "LLineBuffers$LineText;", true)
def tyX5 : Nat → FieldType := fun k => match k with
  | 0 => .object "LineBuffers$Line"
  | 1 => .object "LineBuffers$Line"
  | 2 => .object "LineBuffers$History"
  | _ => .object "LineBuffers$LineText"
abbrev wsX50 : List Cond := u_ws RX5 TX5 4
theorem nmX5 : ∀ a, a < 4 → ∀ b, b < 4 → a ≠ b → (TX5 a).2.1 ≠ (TX5 b).2.1 := by decide +kernel
theorem tyX5_ok : ∀ k, k < 4 → parseFieldDescriptor (TX5 k).2.2.1 = some (tyX5 k) := by decide +kernel
abbrev cX5_init : ByteArray := prog_1_method_1_code
def yX5_init : MethodName := ⟨RX5, "<init>", "()V"⟩
abbrev cX5_addMachine : ByteArray := prog_1_method_2_code
def yX5_addMachine : MethodName := ⟨RX5, "addMachine", "(III)I"⟩
abbrev cX5_setMachine : ByteArray := prog_1_method_3_code
def yX5_setMachine : MethodName := ⟨RX5, "setMachine", "(IIIII)I"⟩
abbrev cX5_setCapacity : ByteArray := prog_1_method_4_code
def yX5_setCapacity : MethodName := ⟨RX5, "setCapacity", "(II)I"⟩
abbrev cX5_addStop : ByteArray := prog_1_method_5_code
def yX5_addStop : MethodName := ⟨RX5, "addStop", "(III)I"⟩
abbrev cX5_addRandomStops : ByteArray := prog_1_method_6_code
def yX5_addRandomStops : MethodName := ⟨RX5, "addRandomStops", "(IIIII)I"⟩
abbrev cX5_clearStops : ByteArray := prog_1_method_7_code
def yX5_clearStops : MethodName := ⟨RX5, "clearStops", "()I"⟩
abbrev cX5_size : ByteArray := prog_1_method_8_code
def yX5_size : MethodName := ⟨RX5, "size", "(Z)I"⟩
abbrev cX5_stop : ByteArray := prog_1_method_9_code
def yX5_stop : MethodName := ⟨RX5, "stop", "(II)I"⟩
abbrev cX5_run : ByteArray := prog_1_method_10_code
def yX5_run : MethodName := ⟨RX5, "run", "(I)I"⟩
abbrev cX5_restart : ByteArray := prog_1_method_11_code
def yX5_restart : MethodName := ⟨RX5, "restart", "()I"⟩
abbrev cX5_now : ByteArray := prog_1_method_12_code
def yX5_now : MethodName := ⟨RX5, "now", "()I"⟩
abbrev cX5_output : ByteArray := prog_1_method_13_code
def yX5_output : MethodName := ⟨RX5, "output", "()I"⟩
abbrev cX5_setting : ByteArray := prog_1_method_14_code
def yX5_setting : MethodName := ⟨RX5, "setting", "(II)I"⟩
abbrev cX5_machine : ByteArray := prog_1_method_15_code
def yX5_machine : MethodName := ⟨RX5, "machine", "(II)I"⟩
abbrev cX5_count : ByteArray := prog_1_method_16_code
def yX5_count : MethodName := ⟨RX5, "count", "(II)I"⟩
abbrev cX5_meanFill : ByteArray := prog_1_method_17_code
def yX5_meanFill : MethodName := ⟨RX5, "meanFill", "(I)D"⟩
abbrev cX5_inside : ByteArray := prog_1_method_18_code
def yX5_inside : MethodName := ⟨RX5, "inside", "()I"⟩
abbrev cX5_bound : ByteArray := prog_1_method_19_code
def yX5_bound : MethodName := ⟨RX5, "bound", "(I)I"⟩
abbrev cX5_limiting : ByteArray := prog_1_method_20_code
def yX5_limiting : MethodName := ⟨RX5, "limiting", "()I"⟩
abbrev cX5_slowest : ByteArray := prog_1_method_21_code
def yX5_slowest : MethodName := ⟨RX5, "slowest", "(I)I"⟩
abbrev cX5_outputWith : ByteArray := prog_1_method_22_code
def yX5_outputWith : MethodName := ⟨RX5, "outputWith", "(III)I"⟩
abbrev cX5_capacityFor : ByteArray := prog_1_method_23_code
def yX5_capacityFor : MethodName := ⟨RX5, "capacityFor", "(III)I"⟩
abbrev cX5_bestBuffer : ByteArray := prog_1_method_24_code
def yX5_bestBuffer : MethodName := ⟨RX5, "bestBuffer", "(II)I"⟩
abbrev cX5_append : ByteArray := prog_1_method_25_code
def yX5_append : MethodName := ⟨RX5, "append", "(I)I"⟩
abbrev cX5_clearText : ByteArray := prog_1_method_26_code
def yX5_clearText : MethodName := ⟨RX5, "clearText", "()I"⟩
abbrev cX5_parse : ByteArray := prog_1_method_27_code
def yX5_parse : MethodName := ⟨RX5, "parse", "()I"⟩
abbrev cX5_undo : ByteArray := prog_1_method_28_code
def yX5_undo : MethodName := ⟨RX5, "undo", "()I"⟩
abbrev cX5_digest : ByteArray := prog_1_method_29_code
def yX5_digest : MethodName := ⟨RX5, "digest", "()J"⟩
abbrev cX5_isIn : ByteArray := prog_1_method_30_code
def yX5_isIn : MethodName := ⟨RX5, "isIn", "(III)Z"⟩
abbrev cX5_areCycles : ByteArray := prog_1_method_31_code
def yX5_areCycles : MethodName := ⟨RX5, "areCycles", "(II)Z"⟩
abbrev cX5_needMachine : ByteArray := prog_1_method_32_code
def yX5_needMachine : MethodName := ⟨RX5, "needMachine", "(I)V"⟩
abbrev cX5_needMachines : ByteArray := prog_1_method_33_code
def yX5_needMachines : MethodName := ⟨RX5, "needMachines", "(I)V"⟩
abbrev cX5_needWhat : ByteArray := prog_1_method_34_code
def yX5_needWhat : MethodName := ⟨RX5, "needWhat", "(II)V"⟩
abbrev cX5_needHorizon : ByteArray := prog_1_method_35_code
def yX5_needHorizon : MethodName := ⟨RX5, "needHorizon", "(II)V"⟩
abbrev cX5_tryCapacity : ByteArray := prog_1_method_36_code
def yX5_tryCapacity : MethodName := ⟨RX5, "tryCapacity", "(III)I"⟩
def RX6 : String := "LineBuffersModel"
def TX6 : u_T := fun k => match k with
  | 0 => ("LineBuffersModel", "now", "[I", true)
  | 1 => ("LineBuffersModel", "past", "[I", true)
  | 2 => ("LineBuffersModel", "aside", "[I", true)
  | 3 => ("LineBuffersModel", "saved", "I", false)
  | 4 => ("LineBuffersModel", "refusal", "I", false)
  | 5 => ("LineBuffersModel", "text", "[I", true)
  | 6 => ("LineBuffersModel", "length", "I", false)
  | 7 => ("LineBuffersModel", "down", "[I", true)
  | 8 => ("LineBuffersModel", "draw", "J", false)
  | 9 => ("LineBuffersModel", "spot", "I", false)
  | 10 => ("LineBuffersModel", "value", "I", false)
  | _ => ("LineBuffersModel", "hash", "J", false)
def tyX6 : Nat → FieldType := fun k => match k with
  | 0 => .array .int
  | 1 => .array .int
  | 2 => .array .int
  | 3 => .int
  | 4 => .int
  | 5 => .array .int
  | 6 => .int
  | 7 => .array .int
  | 8 => .long
  | 9 => .int
  | 10 => .int
  | _ => .long
abbrev wsX60 : List Cond := u_ws RX6 TX6 12
theorem nmX6 : ∀ a, a < 12 → ∀ b, b < 12 → a ≠ b → (TX6 a).2.1 ≠ (TX6 b).2.1 := by decide +kernel
theorem tyX6_ok : ∀ k, k < 12 → parseFieldDescriptor (TX6 k).2.2.1 = some (tyX6 k) := by decide +kernel
abbrev cX6_init : ByteArray := prog_8_method_1_code
def yX6_init : MethodName := ⟨RX6, "<init>", "()V"⟩
abbrev cX6_thrown : ByteArray := prog_8_method_2_code
def yX6_thrown : MethodName := ⟨RX6, "thrown", "()I"⟩
abbrev cX6_refused : ByteArray := prog_8_method_3_code
def yX6_refused : MethodName := ⟨RX6, "refused", "(I)Z"⟩
abbrev cX6_within : ByteArray := prog_8_method_4_code
def yX6_within : MethodName := ⟨RX6, "within", "(III)Z"⟩
abbrev cX6_isMachine : ByteArray := prog_8_method_5_code
def yX6_isMachine : MethodName := ⟨RX6, "isMachine", "(I)Z"⟩
abbrev cX6_of : ByteArray := prog_8_method_6_code
def yX6_of : MethodName := ⟨RX6, "of", "(I)I"⟩
abbrev cX6_saves : ByteArray := prog_8_method_7_code
def yX6_saves : MethodName := ⟨RX6, "saves", "()V"⟩
abbrev cX6_undo : ByteArray := prog_8_method_8_code
def yX6_undo : MethodName := ⟨RX6, "undo", "()I"⟩
abbrev cX6_keeps : ByteArray := prog_8_method_9_code
def yX6_keeps : MethodName := ⟨RX6, "keeps", "()V"⟩
abbrev cX6_takesBack : ByteArray := prog_8_method_10_code
def yX6_takesBack : MethodName := ⟨RX6, "takesBack", "()V"⟩
abbrev cX6_areCycles : ByteArray := prog_8_method_11_code
def yX6_areCycles : MethodName := ⟨RX6, "areCycles", "(II)Z"⟩
abbrev cX6_isCapacity : ByteArray := prog_8_method_12_code
def yX6_isCapacity : MethodName := ⟨RX6, "isCapacity", "(I)Z"⟩
abbrev cX6_adds : ByteArray := prog_8_method_13_code
def yX6_adds : MethodName := ⟨RX6, "adds", "(III)V"⟩
abbrev cX6_addMachine : ByteArray := prog_8_method_14_code
def yX6_addMachine : MethodName := ⟨RX6, "addMachine", "(III)I"⟩
abbrev cX6_areMarks : ByteArray := prog_8_method_15_code
def yX6_areMarks : MethodName := ⟨RX6, "areMarks", "(II)Z"⟩
abbrev cX6_setMachine : ByteArray := prog_8_method_16_code
def yX6_setMachine : MethodName := ⟨RX6, "setMachine", "(IIIII)I"⟩
abbrev cX6_setCapacity : ByteArray := prog_8_method_17_code
def yX6_setCapacity : MethodName := ⟨RX6, "setCapacity", "(II)I"⟩
abbrev cX6_plans : ByteArray := prog_8_method_18_code
def yX6_plans : MethodName := ⟨RX6, "plans", "(III)V"⟩
abbrev cX6_addStop : ByteArray := prog_8_method_19_code
def yX6_addStop : MethodName := ⟨RX6, "addStop", "(III)I"⟩
abbrev cX6_draws : ByteArray := prog_8_method_20_code
def yX6_draws : MethodName := ⟨RX6, "draws", "()I"⟩
abbrev cX6_addRandomStops : ByteArray := prog_8_method_21_code
def yX6_addRandomStops : MethodName := ⟨RX6, "addRandomStops", "(IIIII)I"⟩
abbrev cX6_clearStops : ByteArray := prog_8_method_22_code
def yX6_clearStops : MethodName := ⟨RX6, "clearStops", "()I"⟩
abbrev cX6_size : ByteArray := prog_8_method_23_code
def yX6_size : MethodName := ⟨RX6, "size", "(Z)I"⟩
abbrev cX6_stop : ByteArray := prog_8_method_24_code
def yX6_stop : MethodName := ⟨RX6, "stop", "(II)I"⟩
abbrev cX6_laysDown : ByteArray := prog_8_method_25_code
def yX6_laysDown : MethodName := ⟨RX6, "laysDown", "(II)V"⟩
abbrev cX6_isDown : ByteArray := prog_8_method_26_code
def yX6_isDown : MethodName := ⟨RX6, "isDown", "(II)Z"⟩
abbrev cX6_cycle : ByteArray := prog_8_method_27_code
def yX6_cycle : MethodName := ⟨RX6, "cycle", "(I)I"⟩
abbrev cX6_speeds : ByteArray := prog_8_method_28_code
def yX6_speeds : MethodName := ⟨RX6, "speeds", "(I)V"⟩
abbrev cX6_leaves : ByteArray := prog_8_method_29_code
def yX6_leaves : MethodName := ⟨RX6, "leaves", "(II)V"⟩
abbrev cX6_takes : ByteArray := prog_8_method_30_code
def yX6_takes : MethodName := ⟨RX6, "takes", "(I)V"⟩
abbrev cX6_turns : ByteArray := prog_8_method_31_code
def yX6_turns : MethodName := ⟨RX6, "turns", "(II)I"⟩
abbrev cX6_passes : ByteArray := prog_8_method_32_code
def yX6_passes : MethodName := ⟨RX6, "passes", "()V"⟩
abbrev cX6_made : ByteArray := prog_8_method_33_code
def yX6_made : MethodName := ⟨RX6, "made", "()I"⟩
abbrev cX6_goes : ByteArray := prog_8_method_34_code
def yX6_goes : MethodName := ⟨RX6, "goes", "(I)I"⟩
abbrev cX6_run : ByteArray := prog_8_method_35_code
def yX6_run : MethodName := ⟨RX6, "run", "(I)I"⟩
abbrev cX6_empties : ByteArray := prog_8_method_36_code
def yX6_empties : MethodName := ⟨RX6, "empties", "()V"⟩
abbrev cX6_restart : ByteArray := prog_8_method_37_code
def yX6_restart : MethodName := ⟨RX6, "restart", "()I"⟩
abbrev cX6_now : ByteArray := prog_8_method_38_code
def yX6_now : MethodName := ⟨RX6, "now", "()I"⟩
abbrev cX6_output : ByteArray := prog_8_method_39_code
def yX6_output : MethodName := ⟨RX6, "output", "()I"⟩
abbrev cX6_setting : ByteArray := prog_8_method_40_code
def yX6_setting : MethodName := ⟨RX6, "setting", "(II)I"⟩
abbrev cX6_tellMachine : ByteArray := prog_8_method_41_code
def yX6_tellMachine : MethodName := ⟨RX6, "tellMachine", "(II)I"⟩
abbrev cX6_machine : ByteArray := prog_8_method_42_code
def yX6_machine : MethodName := ⟨RX6, "machine", "(II)I"⟩
abbrev cX6_count : ByteArray := prog_8_method_43_code
def yX6_count : MethodName := ⟨RX6, "count", "(II)I"⟩
abbrev cX6_meanFill : ByteArray := prog_8_method_44_code
def yX6_meanFill : MethodName := ⟨RX6, "meanFill", "(I)D"⟩
abbrev cX6_bottles : ByteArray := prog_8_method_45_code
def yX6_bottles : MethodName := ⟨RX6, "bottles", "()I"⟩
abbrev cX6_inside : ByteArray := prog_8_method_46_code
def yX6_inside : MethodName := ⟨RX6, "inside", "()I"⟩
abbrev cX6_most : ByteArray := prog_8_method_47_code
def yX6_most : MethodName := ⟨RX6, "most", "(II)I"⟩
abbrev cX6_slowestOf : ByteArray := prog_8_method_48_code
def yX6_slowestOf : MethodName := ⟨RX6, "slowestOf", "(I)I"⟩
abbrev cX6_refusedLimit : ByteArray := prog_8_method_49_code
def yX6_refusedLimit : MethodName := ⟨RX6, "refusedLimit", "(I)Z"⟩
abbrev cX6_bound : ByteArray := prog_8_method_50_code
def yX6_bound : MethodName := ⟨RX6, "bound", "(I)I"⟩
abbrev cX6_slowest : ByteArray := prog_8_method_51_code
def yX6_slowest : MethodName := ⟨RX6, "slowest", "(I)I"⟩
abbrev cX6_idle : ByteArray := prog_8_method_52_code
def yX6_idle : MethodName := ⟨RX6, "idle", "(I)I"⟩
abbrev cX6_limiting : ByteArray := prog_8_method_53_code
def yX6_limiting : MethodName := ⟨RX6, "limiting", "()I"⟩
abbrev cX6_madeWith : ByteArray := prog_8_method_54_code
def yX6_madeWith : MethodName := ⟨RX6, "madeWith", "(III)I"⟩
abbrev cX6_areTicks : ByteArray := prog_8_method_55_code
def yX6_areTicks : MethodName := ⟨RX6, "areTicks", "(I)Z"⟩
abbrev cX6_outputWith : ByteArray := prog_8_method_56_code
def yX6_outputWith : MethodName := ⟨RX6, "outputWith", "(III)I"⟩
abbrev cX6_capacityFor : ByteArray := prog_8_method_57_code
def yX6_capacityFor : MethodName := ⟨RX6, "capacityFor", "(III)I"⟩
abbrev cX6_bestBuffer : ByteArray := prog_8_method_58_code
def yX6_bestBuffer : MethodName := ⟨RX6, "bestBuffer", "(II)I"⟩
abbrev cX6_append : ByteArray := prog_8_method_59_code
def yX6_append : MethodName := ⟨RX6, "append", "(I)I"⟩
abbrev cX6_clearText : ByteArray := prog_8_method_60_code
def yX6_clearText : MethodName := ⟨RX6, "clearText", "()I"⟩
abbrev cX6_isAt : ByteArray := prog_8_method_61_code
def yX6_isAt : MethodName := ⟨RX6, "isAt", "(II)Z"⟩
abbrev cX6_sign : ByteArray := prog_8_method_62_code
def yX6_sign : MethodName := ⟨RX6, "sign", "(I)Z"⟩
abbrev cX6_number : ByteArray := prog_8_method_63_code
def yX6_number : MethodName := ⟨RX6, "number", "(II)Z"⟩
abbrev cX6_readsMachine : ByteArray := prog_8_method_64_code
def yX6_readsMachine : MethodName := ⟨RX6, "readsMachine", "()Z"⟩
abbrev cX6_readsMarks : ByteArray := prog_8_method_65_code
def yX6_readsMarks : MethodName := ⟨RX6, "readsMarks", "()Z"⟩
abbrev cX6_parse : ByteArray := prog_8_method_66_code
def yX6_parse : MethodName := ⟨RX6, "parse", "()I"⟩
abbrev cX6_mix : ByteArray := prog_8_method_67_code
def yX6_mix : MethodName := ⟨RX6, "mix", "(I)V"⟩
abbrev cX6_digest : ByteArray := prog_8_method_68_code
def yX6_digest : MethodName := ⟨RX6, "digest", "()J"⟩
def RJ9 : String := "java/lang/Math"
def TJ9 : u_T := fun k => match k with
  | _ => ("", "", "", false)
def tyJ9 : Nat → FieldType := fun k => match k with
  | _ => .int
abbrev wsJ90 : List Cond := u_ws RJ9 TJ9 0
theorem nmJ9 : ∀ a, a < 0 → ∀ b, b < 0 → a ≠ b → (TJ9 a).2.1 ≠ (TJ9 b).2.1 := by decide +kernel
theorem tyJ9_ok : ∀ k, k < 0 → parseFieldDescriptor (TJ9 k).2.2.1 = some (tyJ9 k) := by decide +kernel
abbrev cJ9_min_7cf53 : ByteArray := prog_13_method_69_code
def yJ9_min_7cf53 : MethodName := ⟨RJ9, "min", "(II)I"⟩
def RJ0 : String := "java/lang/String"
def TJ0 : u_T := fun k => match k with
  | _ => ("", "", "", false)
def tyJ0 : Nat → FieldType := fun k => match k with
  | _ => .int
abbrev wsJ00 : List Cond := u_ws RJ0 TJ0 0
theorem nmJ0 : ∀ a, a < 0 → ∀ b, b < 0 → a ≠ b → (TJ0 a).2.1 ≠ (TJ0 b).2.1 := by decide +kernel
theorem tyJ0_ok : ∀ k, k < 0 → parseFieldDescriptor (TJ0 k).2.2.1 = some (tyJ0 k) := by decide +kernel
def RJ10 : String := "java/lang/System"
def TJ10 : u_T := fun k => match k with
  | _ => ("", "", "", false)
def tyJ10 : Nat → FieldType := fun k => match k with
  | _ => .int
abbrev wsJ100 : List Cond := u_ws RJ10 TJ10 0
theorem nmJ10 : ∀ a, a < 0 → ∀ b, b < 0 → a ≠ b → (TJ10 a).2.1 ≠ (TJ10 b).2.1 := by decide +kernel
theorem tyJ10_ok : ∀ k, k < 0 → parseFieldDescriptor (TJ10 k).2.2.1 = some (tyJ10 k) := by decide +kernel
def RL : String := "LineBuffersLaw"
abbrev cL_addMachine : ByteArray := method_3_code
def yL_addMachine : MethodName := ⟨RL, "addMachine", "(LLineBuffers;III[J)I"⟩
abbrev cL_setMachine : ByteArray := method_4_code
def yL_setMachine : MethodName := ⟨RL, "setMachine", "(LLineBuffers;IIIII[J)I"⟩
abbrev cL_setCapacity : ByteArray := method_5_code
def yL_setCapacity : MethodName := ⟨RL, "setCapacity", "(LLineBuffers;II[J)I"⟩
abbrev cL_addStop : ByteArray := method_6_code
def yL_addStop : MethodName := ⟨RL, "addStop", "(LLineBuffers;III[J)I"⟩
abbrev cL_addRandomStops : ByteArray := method_7_code
def yL_addRandomStops : MethodName := ⟨RL, "addRandomStops", "(LLineBuffers;IIIII[J)I"⟩
abbrev cL_stop : ByteArray := method_8_code
def yL_stop : MethodName := ⟨RL, "stop", "(LLineBuffers;II[J)I"⟩
abbrev cL_run : ByteArray := method_9_code
def yL_run : MethodName := ⟨RL, "run", "(LLineBuffers;I[J)I"⟩
abbrev cL_setting : ByteArray := method_10_code
def yL_setting : MethodName := ⟨RL, "setting", "(LLineBuffers;II[J)I"⟩
abbrev cL_machine : ByteArray := method_11_code
def yL_machine : MethodName := ⟨RL, "machine", "(LLineBuffers;II[J)I"⟩
abbrev cL_count : ByteArray := method_12_code
def yL_count : MethodName := ⟨RL, "count", "(LLineBuffers;II[J)I"⟩
abbrev cL_meanFill : ByteArray := method_13_code
def yL_meanFill : MethodName := ⟨RL, "meanFill", "(LLineBuffers;I[D)I"⟩
abbrev cL_bound : ByteArray := method_14_code
def yL_bound : MethodName := ⟨RL, "bound", "(LLineBuffers;I[J)I"⟩
abbrev cL_limiting : ByteArray := method_15_code
def yL_limiting : MethodName := ⟨RL, "limiting", "(LLineBuffers;[J)I"⟩
abbrev cL_slowest : ByteArray := method_16_code
def yL_slowest : MethodName := ⟨RL, "slowest", "(LLineBuffers;I[J)I"⟩
abbrev cL_outputWith : ByteArray := method_17_code
def yL_outputWith : MethodName := ⟨RL, "outputWith", "(LLineBuffers;III[J)I"⟩
abbrev cL_capacityFor : ByteArray := method_18_code
def yL_capacityFor : MethodName := ⟨RL, "capacityFor", "(LLineBuffers;III[J)I"⟩
abbrev cL_bestBuffer : ByteArray := method_19_code
def yL_bestBuffer : MethodName := ⟨RL, "bestBuffer", "(LLineBuffers;II[J)I"⟩
abbrev cL_append : ByteArray := method_20_code
def yL_append : MethodName := ⟨RL, "append", "(LLineBuffers;I[J)I"⟩
abbrev cL_undo : ByteArray := method_21_code
def yL_undo : MethodName := ⟨RL, "undo", "(LLineBuffers;[J)I"⟩
abbrev cL_law : ByteArray := code
def yL_law : MethodName := ⟨RL, "law", "([I)Z"⟩
def wsX0_init : List Cond := .code yX0_init cX0_init 2 none :: ([.methodLink RX0 1 objectInit, .instanceMethod objectInit, .code objectInit ⟨#[0xb1]⟩ 1 none, .fieldLink RX0 7 "LineBuffers$Draws" "state" "J"] ++ wsX00)
def wsX0_drawBelow : List Cond := .code yX0_drawBelow cX0_drawBelow 2 (some .int) :: ([.constantLong RX0 13 (1103515245), .fieldLink RX0 7 "LineBuffers$Draws" "state" "J", .constantLong RX0 15 (12345), .constantLong RX0 17 (2147483648), .constantLong RX0 19 (65536)] ++ wsX00)
def wsX4_init : List Cond := .code yX4_init cX4_init 1 none :: ([.methodLink RX4 3 objectInit, .instanceMethod objectInit, .code objectInit ⟨#[0xb1]⟩ 1 none, .arrayClass .int, .fieldLink RX4 9 "LineBuffers$Stops" "machineOf" "[I", .fieldLink RX4 15 "LineBuffers$Stops" "firstOf" "[I", .fieldLink RX4 18 "LineBuffers$Stops" "durationOf" "[I"] ++ wsX40)
def wsX2_init : List Cond := .code yX2_init cX2_init 1 none :: ([.methodLink RX2 3 objectInit, .instanceMethod objectInit, .code objectInit ⟨#[0xb1]⟩ 1 none, .classLink RX2 9 "[[I", .arrayClass .int, .fieldLink RX2 11 "LineBuffers$Line" "rows" "[[I", .classLink RX2 16 RX4, .instantiable RX4 5, .initialized RX4, .fieldLink RX2 19 "LineBuffers$Line" "stops" "LLineBuffers$Stops;", .instanceMethod yX4_init, .code yX4_init cX4_init 1 none, .methodLink RX4 3 objectInit, .fieldLink RX4 9 "LineBuffers$Stops" "machineOf" "[I", .fieldLink RX4 15 "LineBuffers$Stops" "firstOf" "[I", .fieldLink RX4 18 "LineBuffers$Stops" "durationOf" "[I"] ++ wsX20 ++ wsX40)
def wsX1_init : List Cond := .code yX1_init cX1_init 2 none :: ([.methodLink RX1 3 objectInit, .instanceMethod objectInit, .code objectInit ⟨#[0xb1]⟩ 1 none, .classLink RX1 9 RX2, .fieldLink RX1 11 "LineBuffers$History" "places" "[LLineBuffers$Line;", .instantiable RX2 4, .initialized RX2, .instanceMethod yX2_init, .code yX2_init cX2_init 1 none, .methodLink RX2 3 objectInit, .classLink RX2 9 "[[I", .arrayClass .int, .fieldLink RX2 11 "LineBuffers$Line" "rows" "[[I", .classLink RX2 16 RX4, .instantiable RX4 5, .initialized RX4, .fieldLink RX2 19 "LineBuffers$Line" "stops" "LLineBuffers$Stops;", .instanceMethod yX4_init, .code yX4_init cX4_init 1 none, .methodLink RX4 3 objectInit, .fieldLink RX4 9 "LineBuffers$Stops" "machineOf" "[I", .fieldLink RX4 15 "LineBuffers$Stops" "firstOf" "[I", .fieldLink RX4 18 "LineBuffers$Stops" "durationOf" "[I"] ++ wsX10 ++ wsX20 ++ wsX40)
def wsX4_copy : List Cond := .code yX4_copy cX4_copy 3 none :: ([.fieldLink RX4 21 "LineBuffers$Stops" "planned" "I", .fieldLink RX4 9 "LineBuffers$Stops" "machineOf" "[I", .methodLink RX4 25 arraycopyName, .native arraycopyName, .static arraycopyName, .initialized "java/lang/System", .fieldLink RX4 15 "LineBuffers$Stops" "firstOf" "[I", .fieldLink RX4 18 "LineBuffers$Stops" "durationOf" "[I"] ++ wsX40)
def wsX2_copy : List Cond := .code yX2_copy cX2_copy 3 none :: ([.fieldLink RX2 23 "LineBuffers$Line" "machines" "I", .fieldLink RX2 11 "LineBuffers$Line" "rows" "[[I", .methodLink RX2 27 arraycopyName, .native arraycopyName, .static arraycopyName, .initialized "java/lang/System", .fieldLink RX2 19 "LineBuffers$Line" "stops" "LLineBuffers$Stops;", .fieldLink RX2 37 "LineBuffers$Line" "tick" "I", .methodLink RX2 33 yX4_copy, .static yX4_copy, .initialized RX4, .code yX4_copy cX4_copy 3 none, .fieldLink RX4 21 "LineBuffers$Stops" "planned" "I", .fieldLink RX4 9 "LineBuffers$Stops" "machineOf" "[I", .methodLink RX4 25 arraycopyName, .fieldLink RX4 15 "LineBuffers$Stops" "firstOf" "[I", .fieldLink RX4 18 "LineBuffers$Stops" "durationOf" "[I"] ++ wsX20 ++ wsX40)
def wsX1_keep : List Cond := .code yX1_keep cX1_keep 2 none :: ([.fieldLink RX1 18 "LineBuffers$History" "newest" "I", .fieldLink RX1 11 "LineBuffers$History" "places" "[LLineBuffers$Line;", .fieldLink RX1 26 "LineBuffers$History" "saved" "I", .methodLink RX1 22 yX2_copy, .static yX2_copy, .initialized RX2, .code yX2_copy cX2_copy 3 none, .fieldLink RX2 23 "LineBuffers$Line" "machines" "I", .fieldLink RX2 11 "LineBuffers$Line" "rows" "[[I", .methodLink RX2 27 arraycopyName, .native arraycopyName, .static arraycopyName, .initialized "java/lang/System", .fieldLink RX2 19 "LineBuffers$Line" "stops" "LLineBuffers$Stops;", .fieldLink RX2 37 "LineBuffers$Line" "tick" "I", .methodLink RX2 33 yX4_copy, .static yX4_copy, .initialized RX4, .code yX4_copy cX4_copy 3 none, .fieldLink RX4 21 "LineBuffers$Stops" "planned" "I", .fieldLink RX4 9 "LineBuffers$Stops" "machineOf" "[I", .methodLink RX4 25 arraycopyName, .fieldLink RX4 15 "LineBuffers$Stops" "firstOf" "[I", .fieldLink RX4 18 "LineBuffers$Stops" "durationOf" "[I"] ++ wsX10 ++ wsX20 ++ wsX40)
def wsX1_giveBack : List Cond := .code yX1_giveBack cX1_giveBack 2 none :: ([.fieldLink RX1 26 "LineBuffers$History" "saved" "I", .fieldLink RX1 11 "LineBuffers$History" "places" "[LLineBuffers$Line;", .fieldLink RX1 18 "LineBuffers$History" "newest" "I", .methodLink RX1 22 yX2_copy, .static yX2_copy, .initialized RX2, .code yX2_copy cX2_copy 3 none, .fieldLink RX2 23 "LineBuffers$Line" "machines" "I", .fieldLink RX2 11 "LineBuffers$Line" "rows" "[[I", .methodLink RX2 27 arraycopyName, .native arraycopyName, .static arraycopyName, .initialized "java/lang/System", .fieldLink RX2 19 "LineBuffers$Line" "stops" "LLineBuffers$Stops;", .fieldLink RX2 37 "LineBuffers$Line" "tick" "I", .methodLink RX2 33 yX4_copy, .static yX4_copy, .initialized RX4, .code yX4_copy cX4_copy 3 none, .fieldLink RX4 21 "LineBuffers$Stops" "planned" "I", .fieldLink RX4 9 "LineBuffers$Stops" "machineOf" "[I", .methodLink RX4 25 arraycopyName, .fieldLink RX4 15 "LineBuffers$Stops" "firstOf" "[I", .fieldLink RX4 18 "LineBuffers$Stops" "durationOf" "[I"] ++ wsX10 ++ wsX20 ++ wsX40)
def wsX2_takeApart : List Cond := .code yX2_takeApart cX2_takeApart 1 none :: ([.fieldLink RX2 23 "LineBuffers$Line" "machines" "I", .fieldLink RX2 37 "LineBuffers$Line" "tick" "I", .fieldLink RX2 19 "LineBuffers$Line" "stops" "LLineBuffers$Stops;"] ++ wsX20 ++ wsX40)
def wsX2_empty : List Cond := .code yX2_empty cX2_empty 2 none :: ([])
def wsX2_join : List Cond := .code yX2_join cX2_join 5 (some .int) :: ([.fieldLink RX2 23 "LineBuffers$Line" "machines" "I", .fieldLink RX2 11 "LineBuffers$Line" "rows" "[[I", .methodLink RX2 43 yX2_empty, .static yX2_empty, .initialized RX2, .code yX2_empty cX2_empty 2 none] ++ wsX20)
def wsX2_mark : List Cond := .code yX2_mark cX2_mark 4 none :: ([.fieldLink RX2 23 "LineBuffers$Line" "machines" "I", .fieldLink RX2 11 "LineBuffers$Line" "rows" "[[I"] ++ wsX20)
def wsX2_beginAnew : List Cond := .code yX2_beginAnew cX2_beginAnew 2 none :: ([.fieldLink RX2 37 "LineBuffers$Line" "tick" "I", .fieldLink RX2 23 "LineBuffers$Line" "machines" "I", .fieldLink RX2 11 "LineBuffers$Line" "rows" "[[I", .methodLink RX2 43 yX2_empty, .static yX2_empty, .initialized RX2, .code yX2_empty cX2_empty 2 none] ++ wsX20)
def wsX4_lookAt : List Cond := .code yX4_lookAt cX4_lookAt 6 (some .int) :: ([.constant RX4 37 (2147483647), .fieldLink RX4 38 "LineBuffers$Stops" "downBits" "I", .fieldLink RX4 21 "LineBuffers$Stops" "planned" "I", .fieldLink RX4 15 "LineBuffers$Stops" "firstOf" "[I", .fieldLink RX4 18 "LineBuffers$Stops" "durationOf" "[I", .methodLink RX4 41 Lib.Math.min.name, .static Lib.Math.min.name, .initialized "java/lang/Math", .code Lib.Math.min.name Lib.Math.min.code 2 (some .int), .fieldLink RX4 9 "LineBuffers$Stops" "machineOf" "[I"] ++ wsX40)
def wsX2_chooseSpeed : List Cond := .code yX2_chooseSpeed cX2_chooseSpeed 3 none :: ([.fieldLink RX2 11 "LineBuffers$Line" "rows" "[[I", .fieldLink RX2 23 "LineBuffers$Line" "machines" "I"] ++ wsX20)
def wsX4_isDown : List Cond := .code yX4_isDown cX4_isDown 2 (some .boolean) :: ([.fieldLink RX4 38 "LineBuffers$Stops" "downBits" "I"] ++ wsX40)
def wsX2_noteTurn : List Cond := .code yX2_noteTurn cX2_noteTurn 2 none :: ([])
def wsX2_presentCycle : List Cond := .code yX2_presentCycle cX2_presentCycle 1 (some .int) :: ([])
def wsX2_release : List Cond := .code yX2_release cX2_release 4 none :: ([.fieldLink RX2 11 "LineBuffers$Line" "rows" "[[I", .fieldLink RX2 23 "LineBuffers$Line" "machines" "I", .fieldLink RX2 19 "LineBuffers$Line" "stops" "LLineBuffers$Stops;", .methodLink RX2 61 yX4_isDown, .instanceMethod yX4_isDown, .selects RX4 yX4_isDown yX4_isDown, .initialized RX4, .code yX4_isDown cX4_isDown 2 (some .boolean), .fieldLink RX4 38 "LineBuffers$Stops" "downBits" "I", .methodLink RX2 75 yX2_presentCycle, .static yX2_presentCycle, .initialized RX2, .code yX2_presentCycle cX2_presentCycle 1 (some .int)] ++ wsX20 ++ wsX40)
def wsX2_takeBottle : List Cond := .code yX2_takeBottle cX2_takeBottle 4 none :: ([.fieldLink RX2 11 "LineBuffers$Line" "rows" "[[I", .methodLink RX2 75 yX2_presentCycle, .static yX2_presentCycle, .initialized RX2, .code yX2_presentCycle cX2_presentCycle 1 (some .int)] ++ wsX20)
def wsX2_takeTurn_r1 : List Cond := [Cond.fieldLink RX2 11 "LineBuffers$Line" "rows" "[[I", Cond.fieldLink RX2 19 "LineBuffers$Line" "stops" "LLineBuffers$Stops;", Cond.methodLink RX2 58 yX2_chooseSpeed, Cond.instanceMethod yX2_chooseSpeed, Cond.selects RX2 yX2_chooseSpeed yX2_chooseSpeed, Cond.initialized RX2, Cond.code yX2_chooseSpeed cX2_chooseSpeed 3 none, Cond.fieldLink RX2 23 "LineBuffers$Line" "machines" "I", Cond.methodLink RX2 61 yX4_isDown, Cond.instanceMethod yX4_isDown, Cond.selects RX4 yX4_isDown yX4_isDown, Cond.initialized RX4, Cond.code yX4_isDown cX4_isDown 2 (some .boolean), Cond.fieldLink RX4 38 "LineBuffers$Stops" "downBits" "I", Cond.methodLink RX2 65 yX2_noteTurn, Cond.static yX2_noteTurn, Cond.code yX2_noteTurn cX2_noteTurn 2 none, Cond.methodLink RX2 69 yX2_release, Cond.instanceMethod yX2_release, Cond.selects RX2 yX2_release yX2_release, Cond.code yX2_release cX2_release 4 none, Cond.methodLink RX2 75 yX2_presentCycle, Cond.static yX2_presentCycle, Cond.code yX2_presentCycle cX2_presentCycle 1 (some .int)]
def wsX2_takeTurn_r2 : List Cond := [Cond.methodLink RX2 72 yX2_takeBottle, Cond.instanceMethod yX2_takeBottle, Cond.selects RX2 yX2_takeBottle yX2_takeBottle, Cond.code yX2_takeBottle cX2_takeBottle 4 none]
def wsX2_takeTurn : List Cond := .code yX2_takeTurn cX2_takeTurn 3 none :: ((wsX2_takeTurn_r1 ++ wsX2_takeTurn_r2) ++ wsX20 ++ wsX40)
def wsX2_countFills : List Cond := .code yX2_countFills cX2_countFills 3 none :: ([.fieldLink RX2 23 "LineBuffers$Line" "machines" "I", .fieldLink RX2 11 "LineBuffers$Line" "rows" "[[I"] ++ wsX20)
def wsX2_pass_r1 : List Cond := [Cond.fieldLink RX2 37 "LineBuffers$Line" "tick" "I", Cond.fieldLink RX2 19 "LineBuffers$Line" "stops" "LLineBuffers$Stops;", Cond.fieldLink RX2 23 "LineBuffers$Line" "machines" "I", Cond.methodLink RX2 47 yX4_lookAt, Cond.instanceMethod yX4_lookAt, Cond.selects RX4 yX4_lookAt yX4_lookAt, Cond.initialized RX4, Cond.code yX4_lookAt cX4_lookAt 6 (some .int), Cond.constant RX4 37 (2147483647), Cond.fieldLink RX4 38 "LineBuffers$Stops" "downBits" "I", Cond.fieldLink RX4 21 "LineBuffers$Stops" "planned" "I", Cond.fieldLink RX4 15 "LineBuffers$Stops" "firstOf" "[I", Cond.fieldLink RX4 18 "LineBuffers$Stops" "durationOf" "[I", Cond.methodLink RX4 41 Lib.Math.min.name, Cond.static Lib.Math.min.name, Cond.initialized "java/lang/Math", Cond.code Lib.Math.min.name Lib.Math.min.code 2 (some .int), Cond.fieldLink RX4 9 "LineBuffers$Stops" "machineOf" "[I", Cond.methodLink RX2 51 yX2_takeTurn, Cond.instanceMethod yX2_takeTurn, Cond.selects RX2 yX2_takeTurn yX2_takeTurn, Cond.initialized RX2, Cond.code yX2_takeTurn cX2_takeTurn 3 none, Cond.fieldLink RX2 11 "LineBuffers$Line" "rows" "[[I"]
def wsX2_pass_r2 : List Cond := [Cond.methodLink RX2 58 yX2_chooseSpeed, Cond.instanceMethod yX2_chooseSpeed, Cond.selects RX2 yX2_chooseSpeed yX2_chooseSpeed, Cond.code yX2_chooseSpeed cX2_chooseSpeed 3 none, Cond.methodLink RX2 61 yX4_isDown, Cond.instanceMethod yX4_isDown, Cond.selects RX4 yX4_isDown yX4_isDown, Cond.code yX4_isDown cX4_isDown 2 (some .boolean), Cond.methodLink RX2 65 yX2_noteTurn, Cond.static yX2_noteTurn, Cond.code yX2_noteTurn cX2_noteTurn 2 none, Cond.methodLink RX2 69 yX2_release, Cond.instanceMethod yX2_release, Cond.selects RX2 yX2_release yX2_release, Cond.code yX2_release cX2_release 4 none, Cond.methodLink RX2 75 yX2_presentCycle, Cond.static yX2_presentCycle, Cond.code yX2_presentCycle cX2_presentCycle 1 (some .int), Cond.methodLink RX2 72 yX2_takeBottle, Cond.instanceMethod yX2_takeBottle, Cond.selects RX2 yX2_takeBottle yX2_takeBottle, Cond.code yX2_takeBottle cX2_takeBottle 4 none, Cond.methodLink RX2 55 yX2_countFills, Cond.instanceMethod yX2_countFills]
def wsX2_pass_r3 : List Cond := [Cond.selects RX2 yX2_countFills yX2_countFills, Cond.code yX2_countFills cX2_countFills 3 none]
def wsX2_pass : List Cond := .code yX2_pass cX2_pass 5 none :: ((wsX2_pass_r1 ++ (wsX2_pass_r2 ++ wsX2_pass_r3)) ++ wsX20 ++ wsX40)
def wsX2_bottlesOut : List Cond := .code yX2_bottlesOut cX2_bottlesOut 1 (some .int) :: ([.fieldLink RX2 23 "LineBuffers$Line" "machines" "I", .fieldLink RX2 11 "LineBuffers$Line" "rows" "[[I"] ++ wsX20)
def wsX2_bottlesInside : List Cond := .code yX2_bottlesInside cX2_bottlesInside 3 (some .int) :: ([.fieldLink RX2 23 "LineBuffers$Line" "machines" "I", .fieldLink RX2 11 "LineBuffers$Line" "rows" "[[I"] ++ wsX20)
def wsX2_findLimiting : List Cond := .code yX2_findLimiting cX2_findLimiting 5 (some .int) :: ([.constant RX2 81 (2147483647), .fieldLink RX2 23 "LineBuffers$Line" "machines" "I", .fieldLink RX2 11 "LineBuffers$Line" "rows" "[[I"] ++ wsX20)
def wsX2_upTicks : List Cond := .code yX2_upTicks cX2_upTicks 7 (some .int) :: ([.fieldLink RX2 19 "LineBuffers$Line" "stops" "LLineBuffers$Stops;", .methodLink RX2 89 Lib.Math.min.name, .static Lib.Math.min.name, .initialized "java/lang/Math", .code Lib.Math.min.name Lib.Math.min.code 2 (some .int), .methodLink RX2 47 yX4_lookAt, .instanceMethod yX4_lookAt, .selects RX4 yX4_lookAt yX4_lookAt, .initialized RX4, .code yX4_lookAt cX4_lookAt 6 (some .int), .constant RX4 37 (2147483647), .fieldLink RX4 38 "LineBuffers$Stops" "downBits" "I", .fieldLink RX4 21 "LineBuffers$Stops" "planned" "I", .fieldLink RX4 15 "LineBuffers$Stops" "firstOf" "[I", .fieldLink RX4 18 "LineBuffers$Stops" "durationOf" "[I", .methodLink RX4 41 Lib.Math.min.name, .fieldLink RX4 9 "LineBuffers$Stops" "machineOf" "[I", .methodLink RX2 61 yX4_isDown, .instanceMethod yX4_isDown, .selects RX4 yX4_isDown yX4_isDown, .code yX4_isDown cX4_isDown 2 (some .boolean)] ++ wsX20 ++ wsX40)
def wsX2_mostBottles_r1 : List Cond := [Cond.fieldLink RX2 11 "LineBuffers$Line" "rows" "[[I", Cond.methodLink RX2 86 yX2_upTicks, Cond.instanceMethod yX2_upTicks, Cond.selects RX2 yX2_upTicks yX2_upTicks, Cond.initialized RX2, Cond.code yX2_upTicks cX2_upTicks 7 (some .int), Cond.fieldLink RX2 19 "LineBuffers$Line" "stops" "LLineBuffers$Stops;", Cond.methodLink RX2 89 Lib.Math.min.name, Cond.static Lib.Math.min.name, Cond.initialized "java/lang/Math", Cond.code Lib.Math.min.name Lib.Math.min.code 2 (some .int), Cond.methodLink RX2 47 yX4_lookAt, Cond.instanceMethod yX4_lookAt, Cond.selects RX4 yX4_lookAt yX4_lookAt, Cond.initialized RX4, Cond.code yX4_lookAt cX4_lookAt 6 (some .int), Cond.constant RX4 37 (2147483647), Cond.fieldLink RX4 38 "LineBuffers$Stops" "downBits" "I", Cond.fieldLink RX4 21 "LineBuffers$Stops" "planned" "I", Cond.fieldLink RX4 15 "LineBuffers$Stops" "firstOf" "[I", Cond.fieldLink RX4 18 "LineBuffers$Stops" "durationOf" "[I", Cond.methodLink RX4 41 Lib.Math.min.name, Cond.fieldLink RX4 9 "LineBuffers$Stops" "machineOf" "[I", Cond.methodLink RX2 61 yX4_isDown]
def wsX2_mostBottles_r2 : List Cond := [Cond.instanceMethod yX4_isDown, Cond.selects RX4 yX4_isDown yX4_isDown, Cond.code yX4_isDown cX4_isDown 2 (some .boolean)]
def wsX2_mostBottles : List Cond := .code yX2_mostBottles cX2_mostBottles 4 (some .int) :: ((wsX2_mostBottles_r1 ++ wsX2_mostBottles_r2) ++ wsX20 ++ wsX40)
def wsX2_findSlowest_r1 : List Cond := [Cond.constant RX2 81 (2147483647), Cond.fieldLink RX2 23 "LineBuffers$Line" "machines" "I", Cond.methodLink RX2 82 yX2_mostBottles, Cond.instanceMethod yX2_mostBottles, Cond.selects RX2 yX2_mostBottles yX2_mostBottles, Cond.initialized RX2, Cond.code yX2_mostBottles cX2_mostBottles 4 (some .int), Cond.fieldLink RX2 11 "LineBuffers$Line" "rows" "[[I", Cond.methodLink RX2 86 yX2_upTicks, Cond.instanceMethod yX2_upTicks, Cond.selects RX2 yX2_upTicks yX2_upTicks, Cond.code yX2_upTicks cX2_upTicks 7 (some .int), Cond.fieldLink RX2 19 "LineBuffers$Line" "stops" "LLineBuffers$Stops;", Cond.methodLink RX2 89 Lib.Math.min.name, Cond.static Lib.Math.min.name, Cond.initialized "java/lang/Math", Cond.code Lib.Math.min.name Lib.Math.min.code 2 (some .int), Cond.methodLink RX2 47 yX4_lookAt, Cond.instanceMethod yX4_lookAt, Cond.selects RX4 yX4_lookAt yX4_lookAt, Cond.initialized RX4, Cond.code yX4_lookAt cX4_lookAt 6 (some .int), Cond.constant RX4 37 (2147483647), Cond.fieldLink RX4 38 "LineBuffers$Stops" "downBits" "I"]
def wsX2_findSlowest_r2 : List Cond := [Cond.fieldLink RX4 21 "LineBuffers$Stops" "planned" "I", Cond.fieldLink RX4 15 "LineBuffers$Stops" "firstOf" "[I", Cond.fieldLink RX4 18 "LineBuffers$Stops" "durationOf" "[I", Cond.methodLink RX4 41 Lib.Math.min.name, Cond.fieldLink RX4 9 "LineBuffers$Stops" "machineOf" "[I", Cond.methodLink RX2 61 yX4_isDown, Cond.instanceMethod yX4_isDown, Cond.selects RX4 yX4_isDown yX4_isDown, Cond.code yX4_isDown cX4_isDown 2 (some .boolean)]
def wsX2_findSlowest : List Cond := .code yX2_findSlowest cX2_findSlowest 6 (some .int) :: ((wsX2_findSlowest_r1 ++ wsX2_findSlowest_r2) ++ wsX20 ++ wsX40)
def wsX2_mixInto : List Cond := .code yX2_mixInto cX2_mixInto 7 (some .long) :: ([.constantLong RX2 94 (31), .fieldLink RX2 37 "LineBuffers$Line" "tick" "I", .fieldLink RX2 23 "LineBuffers$Line" "machines" "I", .fieldLink RX2 11 "LineBuffers$Line" "rows" "[[I", .methodLink RX2 96 yX2_bottlesOut, .instanceMethod yX2_bottlesOut, .selects RX2 yX2_bottlesOut yX2_bottlesOut, .initialized RX2, .code yX2_bottlesOut cX2_bottlesOut 1 (some .int)] ++ wsX20)
def wsX3_init : List Cond := .code yX3_init cX3_init 1 none :: ([.methodLink RX3 3 objectInit, .instanceMethod objectInit, .code objectInit ⟨#[0xb1]⟩ 1 none, .arrayClass .int, .fieldLink RX3 9 "LineBuffers$LineText" "bytes" "[I"] ++ wsX30)
def wsX3_put : List Cond := .code yX3_put cX3_put 2 none :: ([.fieldLink RX3 15 "LineBuffers$LineText" "length" "I", .fieldLink RX3 9 "LineBuffers$LineText" "bytes" "[I"] ++ wsX30)
def wsX3_byteAt : List Cond := .code yX3_byteAt cX3_byteAt 2 (some .int) :: ([.fieldLink RX3 15 "LineBuffers$LineText" "length" "I", .fieldLink RX3 9 "LineBuffers$LineText" "bytes" "[I"] ++ wsX30)
def wsX5_isIn : List Cond := .code yX5_isIn cX5_isIn 3 (some .boolean) :: ([])
def wsX3_isDigit : List Cond := .code yX3_isDigit cX3_isDigit 1 (some .boolean) :: ([.static yX5_isIn, .initialized RX5, .code yX5_isIn cX5_isIn 3 (some .boolean)])
def wsX3_readNumber : List Cond := .code yX3_readNumber cX3_readNumber 7 (some .int) :: ([.fieldLink RX3 22 "LineBuffers$LineText" "error" "I", .fieldLink RX3 19 "LineBuffers$LineText" "at" "I", .methodLink RX3 34 yX3_byteAt, .instanceMethod yX3_byteAt, .selects RX3 yX3_byteAt yX3_byteAt, .initialized RX3, .code yX3_byteAt cX3_byteAt 2 (some .int), .fieldLink RX3 15 "LineBuffers$LineText" "length" "I", .fieldLink RX3 9 "LineBuffers$LineText" "bytes" "[I", .methodLink RX3 59 yX3_isDigit, .static yX3_isDigit, .code yX3_isDigit cX3_isDigit 1 (some .boolean), .static yX5_isIn, .initialized RX5, .code yX5_isIn cX5_isIn 3 (some .boolean)] ++ wsX30)
def wsX3_readMachine_r1 : List Cond := [Cond.fieldLink RX3 22 "LineBuffers$LineText" "error" "I", Cond.methodLink RX3 47 yX3_readNumber, Cond.instanceMethod yX3_readNumber, Cond.selects RX3 yX3_readNumber yX3_readNumber, Cond.initialized RX3, Cond.code yX3_readNumber cX3_readNumber 7 (some .int), Cond.fieldLink RX3 19 "LineBuffers$LineText" "at" "I", Cond.methodLink RX3 34 yX3_byteAt, Cond.instanceMethod yX3_byteAt, Cond.selects RX3 yX3_byteAt yX3_byteAt, Cond.code yX3_byteAt cX3_byteAt 2 (some .int), Cond.fieldLink RX3 15 "LineBuffers$LineText" "length" "I", Cond.fieldLink RX3 9 "LineBuffers$LineText" "bytes" "[I", Cond.methodLink RX3 59 yX3_isDigit, Cond.static yX3_isDigit, Cond.code yX3_isDigit cX3_isDigit 1 (some .boolean), Cond.static yX5_isIn, Cond.initialized RX5, Cond.code yX5_isIn cX5_isIn 3 (some .boolean), Cond.methodLink RX3 51 yX2_join, Cond.instanceMethod yX2_join, Cond.selects RX2 yX2_join yX2_join, Cond.initialized RX2, Cond.code yX2_join cX2_join 5 (some .int)]
def wsX3_readMachine_r2 : List Cond := [Cond.fieldLink RX2 23 "LineBuffers$Line" "machines" "I", Cond.fieldLink RX2 11 "LineBuffers$Line" "rows" "[[I", Cond.methodLink RX2 43 yX2_empty, Cond.static yX2_empty, Cond.code yX2_empty cX2_empty 2 none]
def wsX3_readMachine : List Cond := .code yX3_readMachine cX3_readMachine 5 none :: ((wsX3_readMachine_r1 ++ wsX3_readMachine_r2) ++ wsX30 ++ wsX20)
def wsX3_readMarks_r1 : List Cond := [Cond.fieldLink RX3 22 "LineBuffers$LineText" "error" "I", Cond.methodLink RX3 47 yX3_readNumber, Cond.instanceMethod yX3_readNumber, Cond.selects RX3 yX3_readNumber yX3_readNumber, Cond.initialized RX3, Cond.code yX3_readNumber cX3_readNumber 7 (some .int), Cond.fieldLink RX3 19 "LineBuffers$LineText" "at" "I", Cond.methodLink RX3 34 yX3_byteAt, Cond.instanceMethod yX3_byteAt, Cond.selects RX3 yX3_byteAt yX3_byteAt, Cond.code yX3_byteAt cX3_byteAt 2 (some .int), Cond.fieldLink RX3 15 "LineBuffers$LineText" "length" "I", Cond.fieldLink RX3 9 "LineBuffers$LineText" "bytes" "[I", Cond.methodLink RX3 59 yX3_isDigit, Cond.static yX3_isDigit, Cond.code yX3_isDigit cX3_isDigit 1 (some .boolean), Cond.static yX5_isIn, Cond.initialized RX5, Cond.code yX5_isIn cX5_isIn 3 (some .boolean), Cond.methodLink RX3 55 yX2_mark, Cond.instanceMethod yX2_mark, Cond.selects RX2 yX2_mark yX2_mark, Cond.initialized RX2, Cond.code yX2_mark cX2_mark 4 none]
def wsX3_readMarks_r2 : List Cond := [Cond.fieldLink RX2 23 "LineBuffers$Line" "machines" "I", Cond.fieldLink RX2 11 "LineBuffers$Line" "rows" "[[I"]
def wsX3_readMarks : List Cond := .code yX3_readMarks cX3_readMarks 5 none :: ((wsX3_readMarks_r1 ++ wsX3_readMarks_r2) ++ wsX20 ++ wsX30)
def wsX3_readItem_r1 : List Cond := [Cond.fieldLink RX3 19 "LineBuffers$LineText" "at" "I", Cond.fieldLink RX3 22 "LineBuffers$LineText" "error" "I", Cond.methodLink RX3 34 yX3_byteAt, Cond.instanceMethod yX3_byteAt, Cond.selects RX3 yX3_byteAt yX3_byteAt, Cond.initialized RX3, Cond.code yX3_byteAt cX3_byteAt 2 (some .int), Cond.fieldLink RX3 15 "LineBuffers$LineText" "length" "I", Cond.fieldLink RX3 9 "LineBuffers$LineText" "bytes" "[I", Cond.methodLink RX3 41 yX3_readMachine, Cond.instanceMethod yX3_readMachine, Cond.selects RX3 yX3_readMachine yX3_readMachine, Cond.code yX3_readMachine cX3_readMachine 5 none, Cond.methodLink RX3 47 yX3_readNumber, Cond.instanceMethod yX3_readNumber, Cond.selects RX3 yX3_readNumber yX3_readNumber, Cond.code yX3_readNumber cX3_readNumber 7 (some .int), Cond.methodLink RX3 59 yX3_isDigit, Cond.static yX3_isDigit, Cond.code yX3_isDigit cX3_isDigit 1 (some .boolean), Cond.static yX5_isIn, Cond.initialized RX5, Cond.code yX5_isIn cX5_isIn 3 (some .boolean), Cond.methodLink RX3 51 yX2_join]
def wsX3_readItem_r2 : List Cond := [Cond.instanceMethod yX2_join, Cond.selects RX2 yX2_join yX2_join, Cond.initialized RX2, Cond.code yX2_join cX2_join 5 (some .int), Cond.fieldLink RX2 23 "LineBuffers$Line" "machines" "I", Cond.fieldLink RX2 11 "LineBuffers$Line" "rows" "[[I", Cond.methodLink RX2 43 yX2_empty, Cond.static yX2_empty, Cond.code yX2_empty cX2_empty 2 none, Cond.methodLink RX3 44 yX3_readMarks, Cond.instanceMethod yX3_readMarks, Cond.selects RX3 yX3_readMarks yX3_readMarks, Cond.code yX3_readMarks cX3_readMarks 5 none, Cond.methodLink RX3 55 yX2_mark, Cond.instanceMethod yX2_mark, Cond.selects RX2 yX2_mark yX2_mark, Cond.code yX2_mark cX2_mark 4 none]
def wsX3_readItem : List Cond := .code yX3_readItem cX3_readItem 3 none :: ((wsX3_readItem_r1 ++ wsX3_readItem_r2) ++ wsX30 ++ wsX20)
def wsX3_readInto_r1 : List Cond := [Cond.fieldLink RX3 19 "LineBuffers$LineText" "at" "I", Cond.fieldLink RX3 22 "LineBuffers$LineText" "error" "I", Cond.fieldLink RX3 15 "LineBuffers$LineText" "length" "I", Cond.methodLink RX3 25 yX2_takeApart, Cond.instanceMethod yX2_takeApart, Cond.selects RX2 yX2_takeApart yX2_takeApart, Cond.initialized RX2, Cond.code yX2_takeApart cX2_takeApart 1 none, Cond.fieldLink RX2 23 "LineBuffers$Line" "machines" "I", Cond.fieldLink RX2 37 "LineBuffers$Line" "tick" "I", Cond.fieldLink RX2 19 "LineBuffers$Line" "stops" "LLineBuffers$Stops;", Cond.methodLink RX3 30 yX3_readItem, Cond.instanceMethod yX3_readItem, Cond.selects RX3 yX3_readItem yX3_readItem, Cond.initialized RX3, Cond.code yX3_readItem cX3_readItem 3 none, Cond.methodLink RX3 34 yX3_byteAt, Cond.instanceMethod yX3_byteAt, Cond.selects RX3 yX3_byteAt yX3_byteAt, Cond.code yX3_byteAt cX3_byteAt 2 (some .int), Cond.fieldLink RX3 9 "LineBuffers$LineText" "bytes" "[I", Cond.methodLink RX3 41 yX3_readMachine, Cond.instanceMethod yX3_readMachine, Cond.selects RX3 yX3_readMachine yX3_readMachine]
def wsX3_readInto_r2 : List Cond := [Cond.code yX3_readMachine cX3_readMachine 5 none, Cond.methodLink RX3 47 yX3_readNumber, Cond.instanceMethod yX3_readNumber, Cond.selects RX3 yX3_readNumber yX3_readNumber, Cond.code yX3_readNumber cX3_readNumber 7 (some .int), Cond.methodLink RX3 59 yX3_isDigit, Cond.static yX3_isDigit, Cond.code yX3_isDigit cX3_isDigit 1 (some .boolean), Cond.static yX5_isIn, Cond.initialized RX5, Cond.code yX5_isIn cX5_isIn 3 (some .boolean), Cond.methodLink RX3 51 yX2_join, Cond.instanceMethod yX2_join, Cond.selects RX2 yX2_join yX2_join, Cond.code yX2_join cX2_join 5 (some .int), Cond.fieldLink RX2 11 "LineBuffers$Line" "rows" "[[I", Cond.methodLink RX2 43 yX2_empty, Cond.static yX2_empty, Cond.code yX2_empty cX2_empty 2 none, Cond.methodLink RX3 44 yX3_readMarks, Cond.instanceMethod yX3_readMarks, Cond.selects RX3 yX3_readMarks yX3_readMarks, Cond.code yX3_readMarks cX3_readMarks 5 none, Cond.methodLink RX3 55 yX2_mark]
def wsX3_readInto_r3 : List Cond := [Cond.instanceMethod yX2_mark, Cond.selects RX2 yX2_mark yX2_mark, Cond.code yX2_mark cX2_mark 4 none]
def wsX3_readInto : List Cond := .code yX3_readInto cX3_readInto 3 (some .int) :: ((wsX3_readInto_r1 ++ (wsX3_readInto_r2 ++ wsX3_readInto_r3)) ++ wsX30 ++ wsX20 ++ wsX40)
def wsX4_plan : List Cond := .code yX4_plan cX4_plan 4 none :: ([.fieldLink RX4 21 "LineBuffers$Stops" "planned" "I", .fieldLink RX4 9 "LineBuffers$Stops" "machineOf" "[I", .fieldLink RX4 15 "LineBuffers$Stops" "firstOf" "[I", .fieldLink RX4 18 "LineBuffers$Stops" "durationOf" "[I"] ++ wsX40)
def wsX4_dropAfter : List Cond := .code yX4_dropAfter cX4_dropAfter 4 (some .int) :: ([.fieldLink RX4 21 "LineBuffers$Stops" "planned" "I", .fieldLink RX4 15 "LineBuffers$Stops" "firstOf" "[I", .fieldLink RX4 9 "LineBuffers$Stops" "machineOf" "[I", .fieldLink RX4 18 "LineBuffers$Stops" "durationOf" "[I", .methodLink RX4 31 yX4_plan, .instanceMethod yX4_plan, .selects RX4 yX4_plan yX4_plan, .initialized RX4, .code yX4_plan cX4_plan 4 none] ++ wsX40)
def wsX4_value : List Cond := .code yX4_value cX4_value 3 (some .int) :: ([.fieldLink RX4 9 "LineBuffers$Stops" "machineOf" "[I", .fieldLink RX4 15 "LineBuffers$Stops" "firstOf" "[I", .fieldLink RX4 18 "LineBuffers$Stops" "durationOf" "[I"] ++ wsX40)
def wsX4_mixInto : List Cond := .code yX4_mixInto cX4_mixInto 7 (some .long) :: ([.constantLong RX4 47 (31), .fieldLink RX4 21 "LineBuffers$Stops" "planned" "I", .methodLink RX4 49 yX4_value, .instanceMethod yX4_value, .selects RX4 yX4_value yX4_value, .initialized RX4, .code yX4_value cX4_value 3 (some .int), .fieldLink RX4 9 "LineBuffers$Stops" "machineOf" "[I", .fieldLink RX4 15 "LineBuffers$Stops" "firstOf" "[I", .fieldLink RX4 18 "LineBuffers$Stops" "durationOf" "[I"] ++ wsX40)
def wsX5_init_r1 : List Cond := [Cond.methodLink RX5 1 objectInit, Cond.instanceMethod objectInit, Cond.code objectInit ⟨#[0xb1]⟩ 1 none, Cond.classLink RX5 7 RX2, Cond.instantiable RX2 4, Cond.initialized RX2, Cond.fieldLink RX5 10 "LineBuffers" "line" "LLineBuffers$Line;", Cond.fieldLink RX5 16 "LineBuffers" "trial" "LLineBuffers$Line;", Cond.classLink RX5 19 RX1, Cond.instantiable RX1 3, Cond.initialized RX1, Cond.fieldLink RX5 22 "LineBuffers" "history" "LLineBuffers$History;", Cond.classLink RX5 26 RX3, Cond.instantiable RX3 4, Cond.initialized RX3, Cond.fieldLink RX5 29 "LineBuffers" "text" "LLineBuffers$LineText;", Cond.instanceMethod yX2_init, Cond.code yX2_init cX2_init 1 none, Cond.methodLink RX2 3 objectInit, Cond.classLink RX2 9 "[[I", Cond.arrayClass .int, Cond.fieldLink RX2 11 "LineBuffers$Line" "rows" "[[I", Cond.classLink RX2 16 RX4, Cond.instantiable RX4 5]
def wsX5_init_r2 : List Cond := [Cond.initialized RX4, Cond.fieldLink RX2 19 "LineBuffers$Line" "stops" "LLineBuffers$Stops;", Cond.instanceMethod yX4_init, Cond.code yX4_init cX4_init 1 none, Cond.methodLink RX4 3 objectInit, Cond.fieldLink RX4 9 "LineBuffers$Stops" "machineOf" "[I", Cond.fieldLink RX4 15 "LineBuffers$Stops" "firstOf" "[I", Cond.fieldLink RX4 18 "LineBuffers$Stops" "durationOf" "[I", Cond.methodLink RX5 21 yX1_init, Cond.instanceMethod yX1_init, Cond.code yX1_init cX1_init 2 none, Cond.methodLink RX1 3 objectInit, Cond.classLink RX1 9 RX2, Cond.fieldLink RX1 11 "LineBuffers$History" "places" "[LLineBuffers$Line;", Cond.instanceMethod yX3_init, Cond.code yX3_init cX3_init 1 none, Cond.methodLink RX3 3 objectInit, Cond.fieldLink RX3 9 "LineBuffers$LineText" "bytes" "[I"]
def wsX5_init : List Cond := .code yX5_init cX5_init 1 none :: ((wsX5_init_r1 ++ wsX5_init_r2) ++ wsX20 ++ wsX50 ++ wsX10 ++ wsX30 ++ wsX40)
def wsX5_areCycles : List Cond := .code yX5_areCycles cX5_areCycles 2 (some .boolean) :: ([.methodLink RX5 37 yX5_isIn, .static yX5_isIn, .initialized RX5, .code yX5_isIn cX5_isIn 3 (some .boolean)])
def wsX5_addMachine_r1 : List Cond := [Cond.classLink RX5 41 "java/lang/IllegalArgumentException", Cond.initialized "java/lang/IllegalArgumentException", Cond.classLink RX5 55 "java/lang/IllegalStateException", Cond.initialized "java/lang/IllegalStateException", Cond.fieldLink RX5 10 "LineBuffers" "line" "LLineBuffers$Line;", Cond.fieldLink RX5 22 "LineBuffers" "history" "LLineBuffers$History;", Cond.methodLink RX5 33 yX5_areCycles, Cond.static yX5_areCycles, Cond.initialized RX5, Cond.code yX5_areCycles cX5_areCycles 2 (some .boolean), Cond.methodLink RX5 37 yX5_isIn, Cond.static yX5_isIn, Cond.code yX5_isIn cX5_isIn 3 (some .boolean), Cond.methodLink RX5 60 yX1_keep, Cond.instanceMethod yX1_keep, Cond.selects RX1 yX1_keep yX1_keep, Cond.initialized RX1, Cond.code yX1_keep cX1_keep 2 none, Cond.fieldLink RX1 18 "LineBuffers$History" "newest" "I", Cond.fieldLink RX1 11 "LineBuffers$History" "places" "[LLineBuffers$Line;", Cond.fieldLink RX1 26 "LineBuffers$History" "saved" "I", Cond.methodLink RX1 22 yX2_copy, Cond.static yX2_copy, Cond.initialized RX2]
def wsX5_addMachine_r2 : List Cond := [Cond.code yX2_copy cX2_copy 3 none, Cond.fieldLink RX2 23 "LineBuffers$Line" "machines" "I", Cond.fieldLink RX2 11 "LineBuffers$Line" "rows" "[[I", Cond.methodLink RX2 27 arraycopyName, Cond.native arraycopyName, Cond.static arraycopyName, Cond.initialized "java/lang/System", Cond.fieldLink RX2 19 "LineBuffers$Line" "stops" "LLineBuffers$Stops;", Cond.fieldLink RX2 37 "LineBuffers$Line" "tick" "I", Cond.methodLink RX2 33 yX4_copy, Cond.static yX4_copy, Cond.initialized RX4, Cond.code yX4_copy cX4_copy 3 none, Cond.fieldLink RX4 21 "LineBuffers$Stops" "planned" "I", Cond.fieldLink RX4 9 "LineBuffers$Stops" "machineOf" "[I", Cond.methodLink RX4 25 arraycopyName, Cond.fieldLink RX4 15 "LineBuffers$Stops" "firstOf" "[I", Cond.fieldLink RX4 18 "LineBuffers$Stops" "durationOf" "[I", Cond.methodLink RX5 64 yX2_join, Cond.instanceMethod yX2_join, Cond.selects RX2 yX2_join yX2_join, Cond.code yX2_join cX2_join 5 (some .int), Cond.methodLink RX2 43 yX2_empty, Cond.static yX2_empty]
def wsX5_addMachine_r3 : List Cond := [Cond.code yX2_empty cX2_empty 2 none]
def wsX5_addMachine : List Cond := .code yX5_addMachine cX5_addMachine 4 (some .int) :: ((wsX5_addMachine_r1 ++ (wsX5_addMachine_r2 ++ wsX5_addMachine_r3)) ++ wsX50 ++ wsX20 ++ wsX10 ++ wsX40 ++ (vx_atS RX5 45 "java/lang/IllegalArgumentException" ["java/lang/RuntimeException", "java/lang/Exception"]).filter goodWord ++ (vx_atS RX5 59 "java/lang/IllegalStateException" ["java/lang/RuntimeException", "java/lang/Exception"]).filter goodWord)
def wsX5_needMachine : List Cond := .code yX5_needMachine cX5_needMachine 2 none :: ([.classLink RX5 116 "java/lang/IndexOutOfBoundsException", .initialized "java/lang/IndexOutOfBoundsException", .fieldLink RX5 10 "LineBuffers" "line" "LLineBuffers$Line;"] ++ wsX50 ++ wsX20 ++ (vx_atS RX5 120 "java/lang/IndexOutOfBoundsException" ["java/lang/RuntimeException", "java/lang/Exception"]).filter goodWord)
def wsX5_setMachine_r1 : List Cond := [Cond.classLink RX5 41 "java/lang/IllegalArgumentException", Cond.initialized "java/lang/IllegalArgumentException", Cond.fieldLink RX5 22 "LineBuffers" "history" "LLineBuffers$History;", Cond.fieldLink RX5 10 "LineBuffers" "line" "LLineBuffers$Line;", Cond.methodLink RX5 68 yX5_needMachine, Cond.instanceMethod yX5_needMachine, Cond.selects RX5 yX5_needMachine yX5_needMachine, Cond.initialized RX5, Cond.code yX5_needMachine cX5_needMachine 2 none, Cond.classLink RX5 116 "java/lang/IndexOutOfBoundsException", Cond.initialized "java/lang/IndexOutOfBoundsException", Cond.methodLink RX5 33 yX5_areCycles, Cond.static yX5_areCycles, Cond.code yX5_areCycles cX5_areCycles 2 (some .boolean), Cond.methodLink RX5 37 yX5_isIn, Cond.static yX5_isIn, Cond.code yX5_isIn cX5_isIn 3 (some .boolean), Cond.methodLink RX5 60 yX1_keep, Cond.instanceMethod yX1_keep, Cond.selects RX1 yX1_keep yX1_keep, Cond.initialized RX1, Cond.code yX1_keep cX1_keep 2 none, Cond.fieldLink RX1 18 "LineBuffers$History" "newest" "I", Cond.fieldLink RX1 11 "LineBuffers$History" "places" "[LLineBuffers$Line;"]
def wsX5_setMachine_r2 : List Cond := [Cond.fieldLink RX1 26 "LineBuffers$History" "saved" "I", Cond.methodLink RX1 22 yX2_copy, Cond.static yX2_copy, Cond.initialized RX2, Cond.code yX2_copy cX2_copy 3 none, Cond.fieldLink RX2 23 "LineBuffers$Line" "machines" "I", Cond.fieldLink RX2 11 "LineBuffers$Line" "rows" "[[I", Cond.methodLink RX2 27 arraycopyName, Cond.native arraycopyName, Cond.static arraycopyName, Cond.initialized "java/lang/System", Cond.fieldLink RX2 19 "LineBuffers$Line" "stops" "LLineBuffers$Stops;", Cond.fieldLink RX2 37 "LineBuffers$Line" "tick" "I", Cond.methodLink RX2 33 yX4_copy, Cond.static yX4_copy, Cond.initialized RX4, Cond.code yX4_copy cX4_copy 3 none, Cond.fieldLink RX4 21 "LineBuffers$Stops" "planned" "I", Cond.fieldLink RX4 9 "LineBuffers$Stops" "machineOf" "[I", Cond.methodLink RX4 25 arraycopyName, Cond.fieldLink RX4 15 "LineBuffers$Stops" "firstOf" "[I", Cond.fieldLink RX4 18 "LineBuffers$Stops" "durationOf" "[I", Cond.methodLink RX5 78 yX2_mark, Cond.instanceMethod yX2_mark]
def wsX5_setMachine_r3 : List Cond := [Cond.selects RX2 yX2_mark yX2_mark, Cond.code yX2_mark cX2_mark 4 none]
def wsX5_setMachine : List Cond := .code yX5_setMachine cX5_setMachine 7 (some .int) :: ((wsX5_setMachine_r1 ++ (wsX5_setMachine_r2 ++ wsX5_setMachine_r3)) ++ wsX50 ++ wsX20 ++ wsX10 ++ wsX40 ++ (vx_atS RX5 45 "java/lang/IllegalArgumentException" ["java/lang/RuntimeException", "java/lang/Exception"]).filter goodWord ++ (vx_atS RX5 120 "java/lang/IndexOutOfBoundsException" ["java/lang/RuntimeException", "java/lang/Exception"]).filter goodWord)
def wsX5_setCapacity_r1 : List Cond := [Cond.classLink RX5 41 "java/lang/IllegalArgumentException", Cond.initialized "java/lang/IllegalArgumentException", Cond.fieldLink RX5 22 "LineBuffers" "history" "LLineBuffers$History;", Cond.fieldLink RX5 10 "LineBuffers" "line" "LLineBuffers$Line;", Cond.methodLink RX5 68 yX5_needMachine, Cond.instanceMethod yX5_needMachine, Cond.selects RX5 yX5_needMachine yX5_needMachine, Cond.initialized RX5, Cond.code yX5_needMachine cX5_needMachine 2 none, Cond.classLink RX5 116 "java/lang/IndexOutOfBoundsException", Cond.initialized "java/lang/IndexOutOfBoundsException", Cond.methodLink RX5 37 yX5_isIn, Cond.static yX5_isIn, Cond.code yX5_isIn cX5_isIn 3 (some .boolean), Cond.methodLink RX5 60 yX1_keep, Cond.instanceMethod yX1_keep, Cond.selects RX1 yX1_keep yX1_keep, Cond.initialized RX1, Cond.code yX1_keep cX1_keep 2 none, Cond.fieldLink RX1 18 "LineBuffers$History" "newest" "I", Cond.fieldLink RX1 11 "LineBuffers$History" "places" "[LLineBuffers$Line;", Cond.fieldLink RX1 26 "LineBuffers$History" "saved" "I", Cond.methodLink RX1 22 yX2_copy, Cond.static yX2_copy]
def wsX5_setCapacity_r2 : List Cond := [Cond.initialized RX2, Cond.code yX2_copy cX2_copy 3 none, Cond.fieldLink RX2 23 "LineBuffers$Line" "machines" "I", Cond.fieldLink RX2 11 "LineBuffers$Line" "rows" "[[I", Cond.methodLink RX2 27 arraycopyName, Cond.native arraycopyName, Cond.static arraycopyName, Cond.initialized "java/lang/System", Cond.fieldLink RX2 19 "LineBuffers$Line" "stops" "LLineBuffers$Stops;", Cond.fieldLink RX2 37 "LineBuffers$Line" "tick" "I", Cond.methodLink RX2 33 yX4_copy, Cond.static yX4_copy, Cond.initialized RX4, Cond.code yX4_copy cX4_copy 3 none, Cond.fieldLink RX4 21 "LineBuffers$Stops" "planned" "I", Cond.fieldLink RX4 9 "LineBuffers$Stops" "machineOf" "[I", Cond.methodLink RX4 25 arraycopyName, Cond.fieldLink RX4 15 "LineBuffers$Stops" "firstOf" "[I", Cond.fieldLink RX4 18 "LineBuffers$Stops" "durationOf" "[I"]
def wsX5_setCapacity : List Cond := .code yX5_setCapacity cX5_setCapacity 4 (some .int) :: ((wsX5_setCapacity_r1 ++ wsX5_setCapacity_r2) ++ wsX50 ++ wsX20 ++ wsX10 ++ wsX40 ++ (vx_atS RX5 45 "java/lang/IllegalArgumentException" ["java/lang/RuntimeException", "java/lang/Exception"]).filter goodWord ++ (vx_atS RX5 120 "java/lang/IndexOutOfBoundsException" ["java/lang/RuntimeException", "java/lang/Exception"]).filter goodWord)
def wsX5_addStop_r1 : List Cond := [Cond.classLink RX5 41 "java/lang/IllegalArgumentException", Cond.initialized "java/lang/IllegalArgumentException", Cond.classLink RX5 55 "java/lang/IllegalStateException", Cond.initialized "java/lang/IllegalStateException", Cond.fieldLink RX5 10 "LineBuffers" "line" "LLineBuffers$Line;", Cond.fieldLink RX5 22 "LineBuffers" "history" "LLineBuffers$History;", Cond.methodLink RX5 68 yX5_needMachine, Cond.instanceMethod yX5_needMachine, Cond.selects RX5 yX5_needMachine yX5_needMachine, Cond.initialized RX5, Cond.code yX5_needMachine cX5_needMachine 2 none, Cond.classLink RX5 116 "java/lang/IndexOutOfBoundsException", Cond.initialized "java/lang/IndexOutOfBoundsException", Cond.methodLink RX5 37 yX5_isIn, Cond.static yX5_isIn, Cond.code yX5_isIn cX5_isIn 3 (some .boolean), Cond.methodLink RX5 60 yX1_keep, Cond.instanceMethod yX1_keep, Cond.selects RX1 yX1_keep yX1_keep, Cond.initialized RX1, Cond.code yX1_keep cX1_keep 2 none, Cond.fieldLink RX1 18 "LineBuffers$History" "newest" "I", Cond.fieldLink RX1 11 "LineBuffers$History" "places" "[LLineBuffers$Line;", Cond.fieldLink RX1 26 "LineBuffers$History" "saved" "I"]
def wsX5_addStop_r2 : List Cond := [Cond.methodLink RX1 22 yX2_copy, Cond.static yX2_copy, Cond.initialized RX2, Cond.code yX2_copy cX2_copy 3 none, Cond.fieldLink RX2 23 "LineBuffers$Line" "machines" "I", Cond.fieldLink RX2 11 "LineBuffers$Line" "rows" "[[I", Cond.methodLink RX2 27 arraycopyName, Cond.native arraycopyName, Cond.static arraycopyName, Cond.initialized "java/lang/System", Cond.fieldLink RX2 19 "LineBuffers$Line" "stops" "LLineBuffers$Stops;", Cond.fieldLink RX2 37 "LineBuffers$Line" "tick" "I", Cond.methodLink RX2 33 yX4_copy, Cond.static yX4_copy, Cond.initialized RX4, Cond.code yX4_copy cX4_copy 3 none, Cond.fieldLink RX4 21 "LineBuffers$Stops" "planned" "I", Cond.fieldLink RX4 9 "LineBuffers$Stops" "machineOf" "[I", Cond.methodLink RX4 25 arraycopyName, Cond.fieldLink RX4 15 "LineBuffers$Stops" "firstOf" "[I", Cond.fieldLink RX4 18 "LineBuffers$Stops" "durationOf" "[I", Cond.methodLink RX5 97 yX4_plan, Cond.instanceMethod yX4_plan, Cond.selects RX4 yX4_plan yX4_plan]
def wsX5_addStop_r3 : List Cond := [Cond.code yX4_plan cX4_plan 4 none]
def wsX5_addStop : List Cond := .code yX5_addStop cX5_addStop 4 (some .int) :: ((wsX5_addStop_r1 ++ (wsX5_addStop_r2 ++ wsX5_addStop_r3)) ++ wsX50 ++ wsX20 ++ wsX40 ++ wsX10 ++ (vx_atS RX5 45 "java/lang/IllegalArgumentException" ["java/lang/RuntimeException", "java/lang/Exception"]).filter goodWord ++ (vx_atS RX5 59 "java/lang/IllegalStateException" ["java/lang/RuntimeException", "java/lang/Exception"]).filter goodWord ++ (vx_atS RX5 120 "java/lang/IndexOutOfBoundsException" ["java/lang/RuntimeException", "java/lang/Exception"]).filter goodWord)
def wsX5_addRandomStops_r1 : List Cond := [Cond.classLink RX5 41 "java/lang/IllegalArgumentException", Cond.initialized "java/lang/IllegalArgumentException", Cond.classLink RX5 55 "java/lang/IllegalStateException", Cond.initialized "java/lang/IllegalStateException", Cond.constant RX5 100 (999999), Cond.fieldLink RX5 10 "LineBuffers" "line" "LLineBuffers$Line;", Cond.fieldLink RX5 22 "LineBuffers" "history" "LLineBuffers$History;", Cond.classLink RX5 105 RX0, Cond.instantiable RX0 1, Cond.initialized RX0, Cond.methodLink RX5 68 yX5_needMachine, Cond.instanceMethod yX5_needMachine, Cond.selects RX5 yX5_needMachine yX5_needMachine, Cond.initialized RX5, Cond.code yX5_needMachine cX5_needMachine 2 none, Cond.classLink RX5 116 "java/lang/IndexOutOfBoundsException", Cond.initialized "java/lang/IndexOutOfBoundsException", Cond.methodLink RX5 37 yX5_isIn, Cond.static yX5_isIn, Cond.code yX5_isIn cX5_isIn 3 (some .boolean), Cond.methodLink RX5 60 yX1_keep, Cond.instanceMethod yX1_keep, Cond.selects RX1 yX1_keep yX1_keep, Cond.initialized RX1]
def wsX5_addRandomStops_r2 : List Cond := [Cond.code yX1_keep cX1_keep 2 none, Cond.fieldLink RX1 18 "LineBuffers$History" "newest" "I", Cond.fieldLink RX1 11 "LineBuffers$History" "places" "[LLineBuffers$Line;", Cond.fieldLink RX1 26 "LineBuffers$History" "saved" "I", Cond.methodLink RX1 22 yX2_copy, Cond.static yX2_copy, Cond.initialized RX2, Cond.code yX2_copy cX2_copy 3 none, Cond.fieldLink RX2 23 "LineBuffers$Line" "machines" "I", Cond.fieldLink RX2 11 "LineBuffers$Line" "rows" "[[I", Cond.methodLink RX2 27 arraycopyName, Cond.native arraycopyName, Cond.static arraycopyName, Cond.initialized "java/lang/System", Cond.fieldLink RX2 19 "LineBuffers$Line" "stops" "LLineBuffers$Stops;", Cond.fieldLink RX2 37 "LineBuffers$Line" "tick" "I", Cond.methodLink RX2 33 yX4_copy, Cond.static yX4_copy, Cond.initialized RX4, Cond.code yX4_copy cX4_copy 3 none, Cond.fieldLink RX4 21 "LineBuffers$Stops" "planned" "I", Cond.fieldLink RX4 9 "LineBuffers$Stops" "machineOf" "[I", Cond.methodLink RX4 25 arraycopyName, Cond.fieldLink RX4 15 "LineBuffers$Stops" "firstOf" "[I"]
def wsX5_addRandomStops_r3 : List Cond := [Cond.fieldLink RX4 18 "LineBuffers$Stops" "durationOf" "[I", Cond.methodLink RX5 107 yX0_init, Cond.instanceMethod yX0_init, Cond.code yX0_init cX0_init 2 none, Cond.methodLink RX0 1 objectInit, Cond.instanceMethod objectInit, Cond.code objectInit ⟨#[0xb1]⟩ 1 none, Cond.fieldLink RX0 7 "LineBuffers$Draws" "state" "J", Cond.methodLink RX5 109 yX0_drawBelow, Cond.instanceMethod yX0_drawBelow, Cond.selects RX0 yX0_drawBelow yX0_drawBelow, Cond.code yX0_drawBelow cX0_drawBelow 2 (some .int), Cond.constantLong RX0 13 (1103515245), Cond.constantLong RX0 15 (12345), Cond.constantLong RX0 17 (2147483648), Cond.constantLong RX0 19 (65536), Cond.methodLink RX5 97 yX4_plan, Cond.instanceMethod yX4_plan, Cond.selects RX4 yX4_plan yX4_plan, Cond.code yX4_plan cX4_plan 4 none]
def wsX5_addRandomStops : List Cond := .code yX5_addRandomStops cX5_addRandomStops 11 (some .int) :: ((wsX5_addRandomStops_r1 ++ (wsX5_addRandomStops_r2 ++ wsX5_addRandomStops_r3)) ++ wsX50 ++ wsX20 ++ wsX40 ++ wsX00 ++ wsX10 ++ (vx_atS RX5 45 "java/lang/IllegalArgumentException" ["java/lang/RuntimeException", "java/lang/Exception"]).filter goodWord ++ (vx_atS RX5 59 "java/lang/IllegalStateException" ["java/lang/RuntimeException", "java/lang/Exception"]).filter goodWord ++ (vx_atS RX5 120 "java/lang/IndexOutOfBoundsException" ["java/lang/RuntimeException", "java/lang/Exception"]).filter goodWord)
def wsX5_clearStops_r1 : List Cond := [Cond.fieldLink RX5 22 "LineBuffers" "history" "LLineBuffers$History;", Cond.fieldLink RX5 10 "LineBuffers" "line" "LLineBuffers$Line;", Cond.methodLink RX5 60 yX1_keep, Cond.instanceMethod yX1_keep, Cond.selects RX1 yX1_keep yX1_keep, Cond.initialized RX1, Cond.code yX1_keep cX1_keep 2 none, Cond.fieldLink RX1 18 "LineBuffers$History" "newest" "I", Cond.fieldLink RX1 11 "LineBuffers$History" "places" "[LLineBuffers$Line;", Cond.fieldLink RX1 26 "LineBuffers$History" "saved" "I", Cond.methodLink RX1 22 yX2_copy, Cond.static yX2_copy, Cond.initialized RX2, Cond.code yX2_copy cX2_copy 3 none, Cond.fieldLink RX2 23 "LineBuffers$Line" "machines" "I", Cond.fieldLink RX2 11 "LineBuffers$Line" "rows" "[[I", Cond.methodLink RX2 27 arraycopyName, Cond.native arraycopyName, Cond.static arraycopyName, Cond.initialized "java/lang/System", Cond.fieldLink RX2 19 "LineBuffers$Line" "stops" "LLineBuffers$Stops;", Cond.fieldLink RX2 37 "LineBuffers$Line" "tick" "I", Cond.methodLink RX2 33 yX4_copy, Cond.static yX4_copy]
def wsX5_clearStops_r2 : List Cond := [Cond.initialized RX4, Cond.code yX4_copy cX4_copy 3 none, Cond.fieldLink RX4 21 "LineBuffers$Stops" "planned" "I", Cond.fieldLink RX4 9 "LineBuffers$Stops" "machineOf" "[I", Cond.methodLink RX4 25 arraycopyName, Cond.fieldLink RX4 15 "LineBuffers$Stops" "firstOf" "[I", Cond.fieldLink RX4 18 "LineBuffers$Stops" "durationOf" "[I", Cond.methodLink RX5 113 yX4_dropAfter, Cond.instanceMethod yX4_dropAfter, Cond.selects RX4 yX4_dropAfter yX4_dropAfter, Cond.code yX4_dropAfter cX4_dropAfter 4 (some .int), Cond.methodLink RX4 31 yX4_plan, Cond.instanceMethod yX4_plan, Cond.selects RX4 yX4_plan yX4_plan, Cond.code yX4_plan cX4_plan 4 none]
def wsX5_clearStops : List Cond := .code yX5_clearStops cX5_clearStops 1 (some .int) :: ((wsX5_clearStops_r1 ++ wsX5_clearStops_r2) ++ wsX50 ++ wsX20 ++ wsX10 ++ wsX40)
def wsX5_size : List Cond := .code yX5_size cX5_size 2 (some .int) :: ([.fieldLink RX5 10 "LineBuffers" "line" "LLineBuffers$Line;"] ++ wsX50 ++ wsX20 ++ wsX40)
def wsX5_needWhat : List Cond := .code yX5_needWhat cX5_needWhat 2 none :: ([.classLink RX5 41 "java/lang/IllegalArgumentException", .initialized "java/lang/IllegalArgumentException"] ++ (vx_atS RX5 45 "java/lang/IllegalArgumentException" ["java/lang/RuntimeException", "java/lang/Exception"]).filter goodWord)
def wsX5_stop : List Cond := .code yX5_stop cX5_stop 3 (some .int) :: ([.classLink RX5 116 "java/lang/IndexOutOfBoundsException", .initialized "java/lang/IndexOutOfBoundsException", .fieldLink RX5 10 "LineBuffers" "line" "LLineBuffers$Line;", .methodLink RX5 121 yX5_needWhat, .static yX5_needWhat, .initialized RX5, .code yX5_needWhat cX5_needWhat 2 none, .classLink RX5 41 "java/lang/IllegalArgumentException", .initialized "java/lang/IllegalArgumentException", .methodLink RX5 125 yX4_value, .instanceMethod yX4_value, .selects RX4 yX4_value yX4_value, .initialized RX4, .code yX4_value cX4_value 3 (some .int), .fieldLink RX4 9 "LineBuffers$Stops" "machineOf" "[I", .fieldLink RX4 15 "LineBuffers$Stops" "firstOf" "[I", .fieldLink RX4 18 "LineBuffers$Stops" "durationOf" "[I"] ++ wsX50 ++ wsX20 ++ wsX40 ++ (vx_atS RX5 120 "java/lang/IndexOutOfBoundsException" ["java/lang/RuntimeException", "java/lang/Exception"]).filter goodWord ++ (vx_atS RX5 45 "java/lang/IllegalArgumentException" ["java/lang/RuntimeException", "java/lang/Exception"]).filter goodWord)
def wsX5_needMachines : List Cond := .code yX5_needMachines cX5_needMachines 2 none :: ([.classLink RX5 55 "java/lang/IllegalStateException", .initialized "java/lang/IllegalStateException", .fieldLink RX5 10 "LineBuffers" "line" "LLineBuffers$Line;"] ++ wsX50 ++ wsX20 ++ (vx_atS RX5 59 "java/lang/IllegalStateException" ["java/lang/RuntimeException", "java/lang/Exception"]).filter goodWord)
def wsX5_run_r1 : List Cond := [Cond.classLink RX5 41 "java/lang/IllegalArgumentException", Cond.initialized "java/lang/IllegalArgumentException", Cond.classLink RX5 55 "java/lang/IllegalStateException", Cond.initialized "java/lang/IllegalStateException", Cond.fieldLink RX5 10 "LineBuffers" "line" "LLineBuffers$Line;", Cond.fieldLink RX5 22 "LineBuffers" "history" "LLineBuffers$History;", Cond.methodLink RX5 37 yX5_isIn, Cond.static yX5_isIn, Cond.initialized RX5, Cond.code yX5_isIn cX5_isIn 3 (some .boolean), Cond.methodLink RX5 131 yX5_needMachines, Cond.instanceMethod yX5_needMachines, Cond.selects RX5 yX5_needMachines yX5_needMachines, Cond.code yX5_needMachines cX5_needMachines 2 none, Cond.methodLink RX5 60 yX1_keep, Cond.instanceMethod yX1_keep, Cond.selects RX1 yX1_keep yX1_keep, Cond.initialized RX1, Cond.code yX1_keep cX1_keep 2 none, Cond.fieldLink RX1 18 "LineBuffers$History" "newest" "I", Cond.fieldLink RX1 11 "LineBuffers$History" "places" "[LLineBuffers$Line;", Cond.fieldLink RX1 26 "LineBuffers$History" "saved" "I", Cond.methodLink RX1 22 yX2_copy, Cond.static yX2_copy]
def wsX5_run_r2 : List Cond := [Cond.initialized RX2, Cond.code yX2_copy cX2_copy 3 none, Cond.fieldLink RX2 23 "LineBuffers$Line" "machines" "I", Cond.fieldLink RX2 11 "LineBuffers$Line" "rows" "[[I", Cond.methodLink RX2 27 arraycopyName, Cond.native arraycopyName, Cond.static arraycopyName, Cond.initialized "java/lang/System", Cond.fieldLink RX2 19 "LineBuffers$Line" "stops" "LLineBuffers$Stops;", Cond.fieldLink RX2 37 "LineBuffers$Line" "tick" "I", Cond.methodLink RX2 33 yX4_copy, Cond.static yX4_copy, Cond.initialized RX4, Cond.code yX4_copy cX4_copy 3 none, Cond.fieldLink RX4 21 "LineBuffers$Stops" "planned" "I", Cond.fieldLink RX4 9 "LineBuffers$Stops" "machineOf" "[I", Cond.methodLink RX4 25 arraycopyName, Cond.fieldLink RX4 15 "LineBuffers$Stops" "firstOf" "[I", Cond.fieldLink RX4 18 "LineBuffers$Stops" "durationOf" "[I", Cond.methodLink RX5 136 yX2_bottlesOut, Cond.instanceMethod yX2_bottlesOut, Cond.selects RX2 yX2_bottlesOut yX2_bottlesOut, Cond.code yX2_bottlesOut cX2_bottlesOut 1 (some .int), Cond.methodLink RX5 140 yX2_pass]
def wsX5_run_r3 : List Cond := [Cond.instanceMethod yX2_pass, Cond.selects RX2 yX2_pass yX2_pass, Cond.code yX2_pass cX2_pass 5 none, Cond.methodLink RX2 47 yX4_lookAt, Cond.instanceMethod yX4_lookAt, Cond.selects RX4 yX4_lookAt yX4_lookAt, Cond.code yX4_lookAt cX4_lookAt 6 (some .int), Cond.constant RX4 37 (2147483647), Cond.fieldLink RX4 38 "LineBuffers$Stops" "downBits" "I", Cond.methodLink RX4 41 Lib.Math.min.name, Cond.static Lib.Math.min.name, Cond.initialized "java/lang/Math", Cond.code Lib.Math.min.name Lib.Math.min.code 2 (some .int), Cond.methodLink RX2 51 yX2_takeTurn, Cond.instanceMethod yX2_takeTurn, Cond.selects RX2 yX2_takeTurn yX2_takeTurn, Cond.code yX2_takeTurn cX2_takeTurn 3 none, Cond.methodLink RX2 58 yX2_chooseSpeed, Cond.instanceMethod yX2_chooseSpeed, Cond.selects RX2 yX2_chooseSpeed yX2_chooseSpeed, Cond.code yX2_chooseSpeed cX2_chooseSpeed 3 none, Cond.methodLink RX2 61 yX4_isDown, Cond.instanceMethod yX4_isDown, Cond.selects RX4 yX4_isDown yX4_isDown]
def wsX5_run_r4 : List Cond := [Cond.code yX4_isDown cX4_isDown 2 (some .boolean), Cond.methodLink RX2 65 yX2_noteTurn, Cond.static yX2_noteTurn, Cond.code yX2_noteTurn cX2_noteTurn 2 none, Cond.methodLink RX2 69 yX2_release, Cond.instanceMethod yX2_release, Cond.selects RX2 yX2_release yX2_release, Cond.code yX2_release cX2_release 4 none, Cond.methodLink RX2 75 yX2_presentCycle, Cond.static yX2_presentCycle, Cond.code yX2_presentCycle cX2_presentCycle 1 (some .int), Cond.methodLink RX2 72 yX2_takeBottle, Cond.instanceMethod yX2_takeBottle, Cond.selects RX2 yX2_takeBottle yX2_takeBottle, Cond.code yX2_takeBottle cX2_takeBottle 4 none, Cond.methodLink RX2 55 yX2_countFills, Cond.instanceMethod yX2_countFills, Cond.selects RX2 yX2_countFills yX2_countFills, Cond.code yX2_countFills cX2_countFills 3 none]
def wsX5_run : List Cond := .code yX5_run cX5_run 3 (some .int) :: ((wsX5_run_r1 ++ (wsX5_run_r2 ++ (wsX5_run_r3 ++ wsX5_run_r4))) ++ wsX50 ++ wsX20 ++ wsX10 ++ wsX40 ++ (vx_atS RX5 45 "java/lang/IllegalArgumentException" ["java/lang/RuntimeException", "java/lang/Exception"]).filter goodWord ++ (vx_atS RX5 59 "java/lang/IllegalStateException" ["java/lang/RuntimeException", "java/lang/Exception"]).filter goodWord)
def wsX5_restart_r1 : List Cond := [Cond.fieldLink RX5 22 "LineBuffers" "history" "LLineBuffers$History;", Cond.fieldLink RX5 10 "LineBuffers" "line" "LLineBuffers$Line;", Cond.methodLink RX5 60 yX1_keep, Cond.instanceMethod yX1_keep, Cond.selects RX1 yX1_keep yX1_keep, Cond.initialized RX1, Cond.code yX1_keep cX1_keep 2 none, Cond.fieldLink RX1 18 "LineBuffers$History" "newest" "I", Cond.fieldLink RX1 11 "LineBuffers$History" "places" "[LLineBuffers$Line;", Cond.fieldLink RX1 26 "LineBuffers$History" "saved" "I", Cond.methodLink RX1 22 yX2_copy, Cond.static yX2_copy, Cond.initialized RX2, Cond.code yX2_copy cX2_copy 3 none, Cond.fieldLink RX2 23 "LineBuffers$Line" "machines" "I", Cond.fieldLink RX2 11 "LineBuffers$Line" "rows" "[[I", Cond.methodLink RX2 27 arraycopyName, Cond.native arraycopyName, Cond.static arraycopyName, Cond.initialized "java/lang/System", Cond.fieldLink RX2 19 "LineBuffers$Line" "stops" "LLineBuffers$Stops;", Cond.fieldLink RX2 37 "LineBuffers$Line" "tick" "I", Cond.methodLink RX2 33 yX4_copy, Cond.static yX4_copy]
def wsX5_restart_r2 : List Cond := [Cond.initialized RX4, Cond.code yX4_copy cX4_copy 3 none, Cond.fieldLink RX4 21 "LineBuffers$Stops" "planned" "I", Cond.fieldLink RX4 9 "LineBuffers$Stops" "machineOf" "[I", Cond.methodLink RX4 25 arraycopyName, Cond.fieldLink RX4 15 "LineBuffers$Stops" "firstOf" "[I", Cond.fieldLink RX4 18 "LineBuffers$Stops" "durationOf" "[I", Cond.methodLink RX5 143 yX2_beginAnew, Cond.instanceMethod yX2_beginAnew, Cond.selects RX2 yX2_beginAnew yX2_beginAnew, Cond.code yX2_beginAnew cX2_beginAnew 2 none, Cond.methodLink RX2 43 yX2_empty, Cond.static yX2_empty, Cond.code yX2_empty cX2_empty 2 none]
def wsX5_restart : List Cond := .code yX5_restart cX5_restart 2 (some .int) :: ((wsX5_restart_r1 ++ wsX5_restart_r2) ++ wsX50 ++ wsX20 ++ wsX10 ++ wsX40)
def wsX5_now : List Cond := .code yX5_now cX5_now 1 (some .int) :: ([.fieldLink RX5 10 "LineBuffers" "line" "LLineBuffers$Line;"] ++ wsX50 ++ wsX20)
def wsX5_output : List Cond := .code yX5_output cX5_output 1 (some .int) :: ([.fieldLink RX5 10 "LineBuffers" "line" "LLineBuffers$Line;", .methodLink RX5 136 yX2_bottlesOut, .instanceMethod yX2_bottlesOut, .selects RX2 yX2_bottlesOut yX2_bottlesOut, .initialized RX2, .code yX2_bottlesOut cX2_bottlesOut 1 (some .int), .fieldLink RX2 23 "LineBuffers$Line" "machines" "I", .fieldLink RX2 11 "LineBuffers$Line" "rows" "[[I"] ++ wsX50 ++ wsX20)
def wsX5_setting : List Cond := .code yX5_setting cX5_setting 3 (some .int) :: ([.fieldLink RX5 10 "LineBuffers" "line" "LLineBuffers$Line;", .methodLink RX5 68 yX5_needMachine, .instanceMethod yX5_needMachine, .selects RX5 yX5_needMachine yX5_needMachine, .initialized RX5, .code yX5_needMachine cX5_needMachine 2 none, .classLink RX5 116 "java/lang/IndexOutOfBoundsException", .initialized "java/lang/IndexOutOfBoundsException", .methodLink RX5 121 yX5_needWhat, .static yX5_needWhat, .code yX5_needWhat cX5_needWhat 2 none, .classLink RX5 41 "java/lang/IllegalArgumentException", .initialized "java/lang/IllegalArgumentException"] ++ wsX50 ++ wsX20 ++ (vx_atS RX5 120 "java/lang/IndexOutOfBoundsException" ["java/lang/RuntimeException", "java/lang/Exception"]).filter goodWord ++ (vx_atS RX5 45 "java/lang/IllegalArgumentException" ["java/lang/RuntimeException", "java/lang/Exception"]).filter goodWord)
def wsX5_machine : List Cond := .code yX5_machine cX5_machine 3 (some .int) :: ([.fieldLink RX5 10 "LineBuffers" "line" "LLineBuffers$Line;", .methodLink RX5 68 yX5_needMachine, .instanceMethod yX5_needMachine, .selects RX5 yX5_needMachine yX5_needMachine, .initialized RX5, .code yX5_needMachine cX5_needMachine 2 none, .classLink RX5 116 "java/lang/IndexOutOfBoundsException", .initialized "java/lang/IndexOutOfBoundsException", .methodLink RX5 121 yX5_needWhat, .static yX5_needWhat, .code yX5_needWhat cX5_needWhat 2 none, .classLink RX5 41 "java/lang/IllegalArgumentException", .initialized "java/lang/IllegalArgumentException"] ++ wsX50 ++ wsX20 ++ (vx_atS RX5 120 "java/lang/IndexOutOfBoundsException" ["java/lang/RuntimeException", "java/lang/Exception"]).filter goodWord ++ (vx_atS RX5 45 "java/lang/IllegalArgumentException" ["java/lang/RuntimeException", "java/lang/Exception"]).filter goodWord)
def wsX5_count : List Cond := .code yX5_count cX5_count 3 (some .int) :: ([.fieldLink RX5 10 "LineBuffers" "line" "LLineBuffers$Line;", .methodLink RX5 68 yX5_needMachine, .instanceMethod yX5_needMachine, .selects RX5 yX5_needMachine yX5_needMachine, .initialized RX5, .code yX5_needMachine cX5_needMachine 2 none, .classLink RX5 116 "java/lang/IndexOutOfBoundsException", .initialized "java/lang/IndexOutOfBoundsException", .methodLink RX5 121 yX5_needWhat, .static yX5_needWhat, .code yX5_needWhat cX5_needWhat 2 none, .classLink RX5 41 "java/lang/IllegalArgumentException", .initialized "java/lang/IllegalArgumentException"] ++ wsX50 ++ wsX20 ++ (vx_atS RX5 120 "java/lang/IndexOutOfBoundsException" ["java/lang/RuntimeException", "java/lang/Exception"]).filter goodWord ++ (vx_atS RX5 45 "java/lang/IllegalArgumentException" ["java/lang/RuntimeException", "java/lang/Exception"]).filter goodWord)
def wsX5_meanFill : List Cond := .code yX5_meanFill cX5_meanFill 2 (some .double) :: ([.fieldLink RX5 10 "LineBuffers" "line" "LLineBuffers$Line;", .methodLink RX5 68 yX5_needMachine, .instanceMethod yX5_needMachine, .selects RX5 yX5_needMachine yX5_needMachine, .initialized RX5, .code yX5_needMachine cX5_needMachine 2 none, .classLink RX5 116 "java/lang/IndexOutOfBoundsException", .initialized "java/lang/IndexOutOfBoundsException"] ++ wsX50 ++ wsX20 ++ (vx_atS RX5 120 "java/lang/IndexOutOfBoundsException" ["java/lang/RuntimeException", "java/lang/Exception"]).filter goodWord)
def wsX5_inside : List Cond := .code yX5_inside cX5_inside 1 (some .int) :: ([.fieldLink RX5 10 "LineBuffers" "line" "LLineBuffers$Line;", .methodLink RX5 146 yX2_bottlesInside, .instanceMethod yX2_bottlesInside, .selects RX2 yX2_bottlesInside yX2_bottlesInside, .initialized RX2, .code yX2_bottlesInside cX2_bottlesInside 3 (some .int), .fieldLink RX2 23 "LineBuffers$Line" "machines" "I", .fieldLink RX2 11 "LineBuffers$Line" "rows" "[[I"] ++ wsX50 ++ wsX20)
def wsX5_needHorizon : List Cond := .code yX5_needHorizon cX5_needHorizon 2 none :: ([.classLink RX5 41 "java/lang/IllegalArgumentException", .initialized "java/lang/IllegalArgumentException", .methodLink RX5 37 yX5_isIn, .static yX5_isIn, .initialized RX5, .code yX5_isIn cX5_isIn 3 (some .boolean)] ++ (vx_atS RX5 45 "java/lang/IllegalArgumentException" ["java/lang/RuntimeException", "java/lang/Exception"]).filter goodWord)
def wsX5_bound_r1 : List Cond := [Cond.fieldLink RX5 10 "LineBuffers" "line" "LLineBuffers$Line;", Cond.methodLink RX5 149 yX5_needHorizon, Cond.static yX5_needHorizon, Cond.initialized RX5, Cond.code yX5_needHorizon cX5_needHorizon 2 none, Cond.classLink RX5 41 "java/lang/IllegalArgumentException", Cond.initialized "java/lang/IllegalArgumentException", Cond.methodLink RX5 37 yX5_isIn, Cond.static yX5_isIn, Cond.code yX5_isIn cX5_isIn 3 (some .boolean), Cond.methodLink RX5 131 yX5_needMachines, Cond.instanceMethod yX5_needMachines, Cond.selects RX5 yX5_needMachines yX5_needMachines, Cond.code yX5_needMachines cX5_needMachines 2 none, Cond.classLink RX5 55 "java/lang/IllegalStateException", Cond.initialized "java/lang/IllegalStateException", Cond.methodLink RX5 152 yX2_findSlowest, Cond.instanceMethod yX2_findSlowest, Cond.selects RX2 yX2_findSlowest yX2_findSlowest, Cond.initialized RX2, Cond.code yX2_findSlowest cX2_findSlowest 6 (some .int), Cond.constant RX2 81 (2147483647), Cond.fieldLink RX2 23 "LineBuffers$Line" "machines" "I", Cond.methodLink RX2 82 yX2_mostBottles]
def wsX5_bound_r2 : List Cond := [Cond.instanceMethod yX2_mostBottles, Cond.selects RX2 yX2_mostBottles yX2_mostBottles, Cond.code yX2_mostBottles cX2_mostBottles 4 (some .int), Cond.fieldLink RX2 11 "LineBuffers$Line" "rows" "[[I", Cond.methodLink RX2 86 yX2_upTicks, Cond.instanceMethod yX2_upTicks, Cond.selects RX2 yX2_upTicks yX2_upTicks, Cond.code yX2_upTicks cX2_upTicks 7 (some .int), Cond.fieldLink RX2 19 "LineBuffers$Line" "stops" "LLineBuffers$Stops;", Cond.methodLink RX2 89 Lib.Math.min.name, Cond.static Lib.Math.min.name, Cond.initialized "java/lang/Math", Cond.code Lib.Math.min.name Lib.Math.min.code 2 (some .int), Cond.methodLink RX2 47 yX4_lookAt, Cond.instanceMethod yX4_lookAt, Cond.selects RX4 yX4_lookAt yX4_lookAt, Cond.initialized RX4, Cond.code yX4_lookAt cX4_lookAt 6 (some .int), Cond.constant RX4 37 (2147483647), Cond.fieldLink RX4 38 "LineBuffers$Stops" "downBits" "I", Cond.fieldLink RX4 21 "LineBuffers$Stops" "planned" "I", Cond.fieldLink RX4 15 "LineBuffers$Stops" "firstOf" "[I", Cond.fieldLink RX4 18 "LineBuffers$Stops" "durationOf" "[I", Cond.methodLink RX4 41 Lib.Math.min.name]
def wsX5_bound_r3 : List Cond := [Cond.fieldLink RX4 9 "LineBuffers$Stops" "machineOf" "[I", Cond.methodLink RX2 61 yX4_isDown, Cond.instanceMethod yX4_isDown, Cond.selects RX4 yX4_isDown yX4_isDown, Cond.code yX4_isDown cX4_isDown 2 (some .boolean), Cond.methodLink RX5 155 yX2_mostBottles]
def wsX5_bound : List Cond := .code yX5_bound cX5_bound 2 (some .int) :: ((wsX5_bound_r1 ++ (wsX5_bound_r2 ++ wsX5_bound_r3)) ++ wsX50 ++ wsX20 ++ wsX40 ++ (vx_atS RX5 45 "java/lang/IllegalArgumentException" ["java/lang/RuntimeException", "java/lang/Exception"]).filter goodWord ++ (vx_atS RX5 59 "java/lang/IllegalStateException" ["java/lang/RuntimeException", "java/lang/Exception"]).filter goodWord)
def wsX5_limiting : List Cond := .code yX5_limiting cX5_limiting 1 (some .int) :: ([.fieldLink RX5 10 "LineBuffers" "line" "LLineBuffers$Line;", .methodLink RX5 131 yX5_needMachines, .instanceMethod yX5_needMachines, .selects RX5 yX5_needMachines yX5_needMachines, .initialized RX5, .code yX5_needMachines cX5_needMachines 2 none, .classLink RX5 55 "java/lang/IllegalStateException", .initialized "java/lang/IllegalStateException", .methodLink RX5 158 yX2_findLimiting, .instanceMethod yX2_findLimiting, .selects RX2 yX2_findLimiting yX2_findLimiting, .initialized RX2, .code yX2_findLimiting cX2_findLimiting 5 (some .int), .constant RX2 81 (2147483647), .fieldLink RX2 23 "LineBuffers$Line" "machines" "I", .fieldLink RX2 11 "LineBuffers$Line" "rows" "[[I"] ++ wsX50 ++ wsX20 ++ (vx_atS RX5 59 "java/lang/IllegalStateException" ["java/lang/RuntimeException", "java/lang/Exception"]).filter goodWord)
def wsX5_slowest_r1 : List Cond := [Cond.fieldLink RX5 10 "LineBuffers" "line" "LLineBuffers$Line;", Cond.methodLink RX5 149 yX5_needHorizon, Cond.static yX5_needHorizon, Cond.initialized RX5, Cond.code yX5_needHorizon cX5_needHorizon 2 none, Cond.classLink RX5 41 "java/lang/IllegalArgumentException", Cond.initialized "java/lang/IllegalArgumentException", Cond.methodLink RX5 37 yX5_isIn, Cond.static yX5_isIn, Cond.code yX5_isIn cX5_isIn 3 (some .boolean), Cond.methodLink RX5 131 yX5_needMachines, Cond.instanceMethod yX5_needMachines, Cond.selects RX5 yX5_needMachines yX5_needMachines, Cond.code yX5_needMachines cX5_needMachines 2 none, Cond.classLink RX5 55 "java/lang/IllegalStateException", Cond.initialized "java/lang/IllegalStateException", Cond.methodLink RX5 152 yX2_findSlowest, Cond.instanceMethod yX2_findSlowest, Cond.selects RX2 yX2_findSlowest yX2_findSlowest, Cond.initialized RX2, Cond.code yX2_findSlowest cX2_findSlowest 6 (some .int), Cond.constant RX2 81 (2147483647), Cond.fieldLink RX2 23 "LineBuffers$Line" "machines" "I", Cond.methodLink RX2 82 yX2_mostBottles]
def wsX5_slowest_r2 : List Cond := [Cond.instanceMethod yX2_mostBottles, Cond.selects RX2 yX2_mostBottles yX2_mostBottles, Cond.code yX2_mostBottles cX2_mostBottles 4 (some .int), Cond.fieldLink RX2 11 "LineBuffers$Line" "rows" "[[I", Cond.methodLink RX2 86 yX2_upTicks, Cond.instanceMethod yX2_upTicks, Cond.selects RX2 yX2_upTicks yX2_upTicks, Cond.code yX2_upTicks cX2_upTicks 7 (some .int), Cond.fieldLink RX2 19 "LineBuffers$Line" "stops" "LLineBuffers$Stops;", Cond.methodLink RX2 89 Lib.Math.min.name, Cond.static Lib.Math.min.name, Cond.initialized "java/lang/Math", Cond.code Lib.Math.min.name Lib.Math.min.code 2 (some .int), Cond.methodLink RX2 47 yX4_lookAt, Cond.instanceMethod yX4_lookAt, Cond.selects RX4 yX4_lookAt yX4_lookAt, Cond.initialized RX4, Cond.code yX4_lookAt cX4_lookAt 6 (some .int), Cond.constant RX4 37 (2147483647), Cond.fieldLink RX4 38 "LineBuffers$Stops" "downBits" "I", Cond.fieldLink RX4 21 "LineBuffers$Stops" "planned" "I", Cond.fieldLink RX4 15 "LineBuffers$Stops" "firstOf" "[I", Cond.fieldLink RX4 18 "LineBuffers$Stops" "durationOf" "[I", Cond.methodLink RX4 41 Lib.Math.min.name]
def wsX5_slowest_r3 : List Cond := [Cond.fieldLink RX4 9 "LineBuffers$Stops" "machineOf" "[I", Cond.methodLink RX2 61 yX4_isDown, Cond.instanceMethod yX4_isDown, Cond.selects RX4 yX4_isDown yX4_isDown, Cond.code yX4_isDown cX4_isDown 2 (some .boolean)]
def wsX5_slowest : List Cond := .code yX5_slowest cX5_slowest 2 (some .int) :: ((wsX5_slowest_r1 ++ (wsX5_slowest_r2 ++ wsX5_slowest_r3)) ++ wsX50 ++ wsX20 ++ wsX40 ++ (vx_atS RX5 45 "java/lang/IllegalArgumentException" ["java/lang/RuntimeException", "java/lang/Exception"]).filter goodWord ++ (vx_atS RX5 59 "java/lang/IllegalStateException" ["java/lang/RuntimeException", "java/lang/Exception"]).filter goodWord)
def wsX5_tryCapacity_r1 : List Cond := [Cond.fieldLink RX5 10 "LineBuffers" "line" "LLineBuffers$Line;", Cond.fieldLink RX5 16 "LineBuffers" "trial" "LLineBuffers$Line;", Cond.methodLink RX5 187 yX2_copy, Cond.static yX2_copy, Cond.initialized RX2, Cond.code yX2_copy cX2_copy 3 none, Cond.fieldLink RX2 23 "LineBuffers$Line" "machines" "I", Cond.fieldLink RX2 11 "LineBuffers$Line" "rows" "[[I", Cond.methodLink RX2 27 arraycopyName, Cond.native arraycopyName, Cond.static arraycopyName, Cond.initialized "java/lang/System", Cond.fieldLink RX2 19 "LineBuffers$Line" "stops" "LLineBuffers$Stops;", Cond.fieldLink RX2 37 "LineBuffers$Line" "tick" "I", Cond.methodLink RX2 33 yX4_copy, Cond.static yX4_copy, Cond.initialized RX4, Cond.code yX4_copy cX4_copy 3 none, Cond.fieldLink RX4 21 "LineBuffers$Stops" "planned" "I", Cond.fieldLink RX4 9 "LineBuffers$Stops" "machineOf" "[I", Cond.methodLink RX4 25 arraycopyName, Cond.fieldLink RX4 15 "LineBuffers$Stops" "firstOf" "[I", Cond.fieldLink RX4 18 "LineBuffers$Stops" "durationOf" "[I", Cond.methodLink RX5 143 yX2_beginAnew]
def wsX5_tryCapacity_r2 : List Cond := [Cond.instanceMethod yX2_beginAnew, Cond.selects RX2 yX2_beginAnew yX2_beginAnew, Cond.code yX2_beginAnew cX2_beginAnew 2 none, Cond.methodLink RX2 43 yX2_empty, Cond.static yX2_empty, Cond.code yX2_empty cX2_empty 2 none, Cond.methodLink RX5 140 yX2_pass, Cond.instanceMethod yX2_pass, Cond.selects RX2 yX2_pass yX2_pass, Cond.code yX2_pass cX2_pass 5 none, Cond.methodLink RX2 47 yX4_lookAt, Cond.instanceMethod yX4_lookAt, Cond.selects RX4 yX4_lookAt yX4_lookAt, Cond.code yX4_lookAt cX4_lookAt 6 (some .int), Cond.constant RX4 37 (2147483647), Cond.fieldLink RX4 38 "LineBuffers$Stops" "downBits" "I", Cond.methodLink RX4 41 Lib.Math.min.name, Cond.static Lib.Math.min.name, Cond.initialized "java/lang/Math", Cond.code Lib.Math.min.name Lib.Math.min.code 2 (some .int), Cond.methodLink RX2 51 yX2_takeTurn, Cond.instanceMethod yX2_takeTurn, Cond.selects RX2 yX2_takeTurn yX2_takeTurn, Cond.code yX2_takeTurn cX2_takeTurn 3 none]
def wsX5_tryCapacity_r3 : List Cond := [Cond.methodLink RX2 58 yX2_chooseSpeed, Cond.instanceMethod yX2_chooseSpeed, Cond.selects RX2 yX2_chooseSpeed yX2_chooseSpeed, Cond.code yX2_chooseSpeed cX2_chooseSpeed 3 none, Cond.methodLink RX2 61 yX4_isDown, Cond.instanceMethod yX4_isDown, Cond.selects RX4 yX4_isDown yX4_isDown, Cond.code yX4_isDown cX4_isDown 2 (some .boolean), Cond.methodLink RX2 65 yX2_noteTurn, Cond.static yX2_noteTurn, Cond.code yX2_noteTurn cX2_noteTurn 2 none, Cond.methodLink RX2 69 yX2_release, Cond.instanceMethod yX2_release, Cond.selects RX2 yX2_release yX2_release, Cond.code yX2_release cX2_release 4 none, Cond.methodLink RX2 75 yX2_presentCycle, Cond.static yX2_presentCycle, Cond.code yX2_presentCycle cX2_presentCycle 1 (some .int), Cond.methodLink RX2 72 yX2_takeBottle, Cond.instanceMethod yX2_takeBottle, Cond.selects RX2 yX2_takeBottle yX2_takeBottle, Cond.code yX2_takeBottle cX2_takeBottle 4 none, Cond.methodLink RX2 55 yX2_countFills, Cond.instanceMethod yX2_countFills]
def wsX5_tryCapacity_r4 : List Cond := [Cond.selects RX2 yX2_countFills yX2_countFills, Cond.code yX2_countFills cX2_countFills 3 none, Cond.methodLink RX5 136 yX2_bottlesOut, Cond.instanceMethod yX2_bottlesOut, Cond.selects RX2 yX2_bottlesOut yX2_bottlesOut, Cond.code yX2_bottlesOut cX2_bottlesOut 1 (some .int)]
def wsX5_tryCapacity : List Cond := .code yX5_tryCapacity cX5_tryCapacity 4 (some .int) :: ((wsX5_tryCapacity_r1 ++ (wsX5_tryCapacity_r2 ++ (wsX5_tryCapacity_r3 ++ wsX5_tryCapacity_r4))) ++ wsX50 ++ wsX20 ++ wsX40)
def wsX5_outputWith_r1 : List Cond := [Cond.classLink RX5 41 "java/lang/IllegalArgumentException", Cond.initialized "java/lang/IllegalArgumentException", Cond.methodLink RX5 68 yX5_needMachine, Cond.instanceMethod yX5_needMachine, Cond.selects RX5 yX5_needMachine yX5_needMachine, Cond.initialized RX5, Cond.code yX5_needMachine cX5_needMachine 2 none, Cond.classLink RX5 116 "java/lang/IndexOutOfBoundsException", Cond.initialized "java/lang/IndexOutOfBoundsException", Cond.fieldLink RX5 10 "LineBuffers" "line" "LLineBuffers$Line;", Cond.methodLink RX5 37 yX5_isIn, Cond.static yX5_isIn, Cond.code yX5_isIn cX5_isIn 3 (some .boolean), Cond.methodLink RX5 149 yX5_needHorizon, Cond.static yX5_needHorizon, Cond.code yX5_needHorizon cX5_needHorizon 2 none, Cond.methodLink RX5 161 yX5_tryCapacity, Cond.instanceMethod yX5_tryCapacity, Cond.selects RX5 yX5_tryCapacity yX5_tryCapacity, Cond.code yX5_tryCapacity cX5_tryCapacity 4 (some .int), Cond.fieldLink RX5 16 "LineBuffers" "trial" "LLineBuffers$Line;", Cond.methodLink RX5 187 yX2_copy, Cond.static yX2_copy, Cond.initialized RX2]
def wsX5_outputWith_r2 : List Cond := [Cond.code yX2_copy cX2_copy 3 none, Cond.fieldLink RX2 23 "LineBuffers$Line" "machines" "I", Cond.fieldLink RX2 11 "LineBuffers$Line" "rows" "[[I", Cond.methodLink RX2 27 arraycopyName, Cond.native arraycopyName, Cond.static arraycopyName, Cond.initialized "java/lang/System", Cond.fieldLink RX2 19 "LineBuffers$Line" "stops" "LLineBuffers$Stops;", Cond.fieldLink RX2 37 "LineBuffers$Line" "tick" "I", Cond.methodLink RX2 33 yX4_copy, Cond.static yX4_copy, Cond.initialized RX4, Cond.code yX4_copy cX4_copy 3 none, Cond.fieldLink RX4 21 "LineBuffers$Stops" "planned" "I", Cond.fieldLink RX4 9 "LineBuffers$Stops" "machineOf" "[I", Cond.methodLink RX4 25 arraycopyName, Cond.fieldLink RX4 15 "LineBuffers$Stops" "firstOf" "[I", Cond.fieldLink RX4 18 "LineBuffers$Stops" "durationOf" "[I", Cond.methodLink RX5 143 yX2_beginAnew, Cond.instanceMethod yX2_beginAnew, Cond.selects RX2 yX2_beginAnew yX2_beginAnew, Cond.code yX2_beginAnew cX2_beginAnew 2 none, Cond.methodLink RX2 43 yX2_empty, Cond.static yX2_empty]
def wsX5_outputWith_r3 : List Cond := [Cond.code yX2_empty cX2_empty 2 none, Cond.methodLink RX5 140 yX2_pass, Cond.instanceMethod yX2_pass, Cond.selects RX2 yX2_pass yX2_pass, Cond.code yX2_pass cX2_pass 5 none, Cond.methodLink RX2 47 yX4_lookAt, Cond.instanceMethod yX4_lookAt, Cond.selects RX4 yX4_lookAt yX4_lookAt, Cond.code yX4_lookAt cX4_lookAt 6 (some .int), Cond.constant RX4 37 (2147483647), Cond.fieldLink RX4 38 "LineBuffers$Stops" "downBits" "I", Cond.methodLink RX4 41 Lib.Math.min.name, Cond.static Lib.Math.min.name, Cond.initialized "java/lang/Math", Cond.code Lib.Math.min.name Lib.Math.min.code 2 (some .int), Cond.methodLink RX2 51 yX2_takeTurn, Cond.instanceMethod yX2_takeTurn, Cond.selects RX2 yX2_takeTurn yX2_takeTurn, Cond.code yX2_takeTurn cX2_takeTurn 3 none, Cond.methodLink RX2 58 yX2_chooseSpeed, Cond.instanceMethod yX2_chooseSpeed, Cond.selects RX2 yX2_chooseSpeed yX2_chooseSpeed, Cond.code yX2_chooseSpeed cX2_chooseSpeed 3 none, Cond.methodLink RX2 61 yX4_isDown]
def wsX5_outputWith_r4 : List Cond := [Cond.instanceMethod yX4_isDown, Cond.selects RX4 yX4_isDown yX4_isDown, Cond.code yX4_isDown cX4_isDown 2 (some .boolean), Cond.methodLink RX2 65 yX2_noteTurn, Cond.static yX2_noteTurn, Cond.code yX2_noteTurn cX2_noteTurn 2 none, Cond.methodLink RX2 69 yX2_release, Cond.instanceMethod yX2_release, Cond.selects RX2 yX2_release yX2_release, Cond.code yX2_release cX2_release 4 none, Cond.methodLink RX2 75 yX2_presentCycle, Cond.static yX2_presentCycle, Cond.code yX2_presentCycle cX2_presentCycle 1 (some .int), Cond.methodLink RX2 72 yX2_takeBottle, Cond.instanceMethod yX2_takeBottle, Cond.selects RX2 yX2_takeBottle yX2_takeBottle, Cond.code yX2_takeBottle cX2_takeBottle 4 none, Cond.methodLink RX2 55 yX2_countFills, Cond.instanceMethod yX2_countFills, Cond.selects RX2 yX2_countFills yX2_countFills, Cond.code yX2_countFills cX2_countFills 3 none, Cond.methodLink RX5 136 yX2_bottlesOut, Cond.instanceMethod yX2_bottlesOut, Cond.selects RX2 yX2_bottlesOut yX2_bottlesOut]
def wsX5_outputWith_r5 : List Cond := [Cond.code yX2_bottlesOut cX2_bottlesOut 1 (some .int)]
def wsX5_outputWith : List Cond := .code yX5_outputWith cX5_outputWith 4 (some .int) :: ((wsX5_outputWith_r1 ++ (wsX5_outputWith_r2 ++ (wsX5_outputWith_r3 ++ (wsX5_outputWith_r4 ++ wsX5_outputWith_r5)))) ++ wsX50 ++ wsX20 ++ wsX40 ++ (vx_atS RX5 45 "java/lang/IllegalArgumentException" ["java/lang/RuntimeException", "java/lang/Exception"]).filter goodWord ++ (vx_atS RX5 120 "java/lang/IndexOutOfBoundsException" ["java/lang/RuntimeException", "java/lang/Exception"]).filter goodWord)
def wsX5_capacityFor_r1 : List Cond := [Cond.classLink RX5 41 "java/lang/IllegalArgumentException", Cond.initialized "java/lang/IllegalArgumentException", Cond.fieldLink RX5 10 "LineBuffers" "line" "LLineBuffers$Line;", Cond.fieldLink RX5 16 "LineBuffers" "trial" "LLineBuffers$Line;", Cond.methodLink RX5 68 yX5_needMachine, Cond.instanceMethod yX5_needMachine, Cond.selects RX5 yX5_needMachine yX5_needMachine, Cond.initialized RX5, Cond.code yX5_needMachine cX5_needMachine 2 none, Cond.classLink RX5 116 "java/lang/IndexOutOfBoundsException", Cond.initialized "java/lang/IndexOutOfBoundsException", Cond.methodLink RX5 149 yX5_needHorizon, Cond.static yX5_needHorizon, Cond.code yX5_needHorizon cX5_needHorizon 2 none, Cond.methodLink RX5 37 yX5_isIn, Cond.static yX5_isIn, Cond.code yX5_isIn cX5_isIn 3 (some .boolean), Cond.methodLink RX5 152 yX2_findSlowest, Cond.instanceMethod yX2_findSlowest, Cond.selects RX2 yX2_findSlowest yX2_findSlowest, Cond.initialized RX2, Cond.code yX2_findSlowest cX2_findSlowest 6 (some .int), Cond.constant RX2 81 (2147483647), Cond.fieldLink RX2 23 "LineBuffers$Line" "machines" "I"]
def wsX5_capacityFor_r2 : List Cond := [Cond.methodLink RX2 82 yX2_mostBottles, Cond.instanceMethod yX2_mostBottles, Cond.selects RX2 yX2_mostBottles yX2_mostBottles, Cond.code yX2_mostBottles cX2_mostBottles 4 (some .int), Cond.fieldLink RX2 11 "LineBuffers$Line" "rows" "[[I", Cond.methodLink RX2 86 yX2_upTicks, Cond.instanceMethod yX2_upTicks, Cond.selects RX2 yX2_upTicks yX2_upTicks, Cond.code yX2_upTicks cX2_upTicks 7 (some .int), Cond.fieldLink RX2 19 "LineBuffers$Line" "stops" "LLineBuffers$Stops;", Cond.methodLink RX2 89 Lib.Math.min.name, Cond.static Lib.Math.min.name, Cond.initialized "java/lang/Math", Cond.code Lib.Math.min.name Lib.Math.min.code 2 (some .int), Cond.methodLink RX2 47 yX4_lookAt, Cond.instanceMethod yX4_lookAt, Cond.selects RX4 yX4_lookAt yX4_lookAt, Cond.initialized RX4, Cond.code yX4_lookAt cX4_lookAt 6 (some .int), Cond.constant RX4 37 (2147483647), Cond.fieldLink RX4 38 "LineBuffers$Stops" "downBits" "I", Cond.fieldLink RX4 21 "LineBuffers$Stops" "planned" "I", Cond.fieldLink RX4 15 "LineBuffers$Stops" "firstOf" "[I", Cond.fieldLink RX4 18 "LineBuffers$Stops" "durationOf" "[I"]
def wsX5_capacityFor_r3 : List Cond := [Cond.methodLink RX4 41 Lib.Math.min.name, Cond.fieldLink RX4 9 "LineBuffers$Stops" "machineOf" "[I", Cond.methodLink RX2 61 yX4_isDown, Cond.instanceMethod yX4_isDown, Cond.selects RX4 yX4_isDown yX4_isDown, Cond.code yX4_isDown cX4_isDown 2 (some .boolean), Cond.methodLink RX5 155 yX2_mostBottles, Cond.methodLink RX5 161 yX5_tryCapacity, Cond.instanceMethod yX5_tryCapacity, Cond.selects RX5 yX5_tryCapacity yX5_tryCapacity, Cond.code yX5_tryCapacity cX5_tryCapacity 4 (some .int), Cond.methodLink RX5 187 yX2_copy, Cond.static yX2_copy, Cond.code yX2_copy cX2_copy 3 none, Cond.methodLink RX2 27 arraycopyName, Cond.native arraycopyName, Cond.static arraycopyName, Cond.initialized "java/lang/System", Cond.fieldLink RX2 37 "LineBuffers$Line" "tick" "I", Cond.methodLink RX2 33 yX4_copy, Cond.static yX4_copy, Cond.code yX4_copy cX4_copy 3 none, Cond.methodLink RX4 25 arraycopyName, Cond.methodLink RX5 143 yX2_beginAnew]
def wsX5_capacityFor_r4 : List Cond := [Cond.instanceMethod yX2_beginAnew, Cond.selects RX2 yX2_beginAnew yX2_beginAnew, Cond.code yX2_beginAnew cX2_beginAnew 2 none, Cond.methodLink RX2 43 yX2_empty, Cond.static yX2_empty, Cond.code yX2_empty cX2_empty 2 none, Cond.methodLink RX5 140 yX2_pass, Cond.instanceMethod yX2_pass, Cond.selects RX2 yX2_pass yX2_pass, Cond.code yX2_pass cX2_pass 5 none, Cond.methodLink RX2 51 yX2_takeTurn, Cond.instanceMethod yX2_takeTurn, Cond.selects RX2 yX2_takeTurn yX2_takeTurn, Cond.code yX2_takeTurn cX2_takeTurn 3 none, Cond.methodLink RX2 58 yX2_chooseSpeed, Cond.instanceMethod yX2_chooseSpeed, Cond.selects RX2 yX2_chooseSpeed yX2_chooseSpeed, Cond.code yX2_chooseSpeed cX2_chooseSpeed 3 none, Cond.methodLink RX2 65 yX2_noteTurn, Cond.static yX2_noteTurn, Cond.code yX2_noteTurn cX2_noteTurn 2 none, Cond.methodLink RX2 69 yX2_release, Cond.instanceMethod yX2_release, Cond.selects RX2 yX2_release yX2_release]
def wsX5_capacityFor_r5 : List Cond := [Cond.code yX2_release cX2_release 4 none, Cond.methodLink RX2 75 yX2_presentCycle, Cond.static yX2_presentCycle, Cond.code yX2_presentCycle cX2_presentCycle 1 (some .int), Cond.methodLink RX2 72 yX2_takeBottle, Cond.instanceMethod yX2_takeBottle, Cond.selects RX2 yX2_takeBottle yX2_takeBottle, Cond.code yX2_takeBottle cX2_takeBottle 4 none, Cond.methodLink RX2 55 yX2_countFills, Cond.instanceMethod yX2_countFills, Cond.selects RX2 yX2_countFills yX2_countFills, Cond.code yX2_countFills cX2_countFills 3 none, Cond.methodLink RX5 136 yX2_bottlesOut, Cond.instanceMethod yX2_bottlesOut, Cond.selects RX2 yX2_bottlesOut yX2_bottlesOut, Cond.code yX2_bottlesOut cX2_bottlesOut 1 (some .int)]
def wsX5_capacityFor : List Cond := .code yX5_capacityFor cX5_capacityFor 5 (some .int) :: ((wsX5_capacityFor_r1 ++ (wsX5_capacityFor_r2 ++ (wsX5_capacityFor_r3 ++ (wsX5_capacityFor_r4 ++ wsX5_capacityFor_r5)))) ++ wsX50 ++ wsX20 ++ wsX40 ++ (vx_atS RX5 45 "java/lang/IllegalArgumentException" ["java/lang/RuntimeException", "java/lang/Exception"]).filter goodWord ++ (vx_atS RX5 120 "java/lang/IndexOutOfBoundsException" ["java/lang/RuntimeException", "java/lang/Exception"]).filter goodWord)
def wsX5_bestBuffer_r1 : List Cond := [Cond.classLink RX5 41 "java/lang/IllegalArgumentException", Cond.initialized "java/lang/IllegalArgumentException", Cond.fieldLink RX5 10 "LineBuffers" "line" "LLineBuffers$Line;", Cond.methodLink RX5 168 Lib.Math.min.name, Cond.static Lib.Math.min.name, Cond.initialized "java/lang/Math", Cond.code Lib.Math.min.name Lib.Math.min.code 2 (some .int), Cond.methodLink RX5 149 yX5_needHorizon, Cond.static yX5_needHorizon, Cond.initialized RX5, Cond.code yX5_needHorizon cX5_needHorizon 2 none, Cond.methodLink RX5 37 yX5_isIn, Cond.static yX5_isIn, Cond.code yX5_isIn cX5_isIn 3 (some .boolean), Cond.methodLink RX5 131 yX5_needMachines, Cond.instanceMethod yX5_needMachines, Cond.selects RX5 yX5_needMachines yX5_needMachines, Cond.code yX5_needMachines cX5_needMachines 2 none, Cond.classLink RX5 55 "java/lang/IllegalStateException", Cond.initialized "java/lang/IllegalStateException", Cond.methodLink RX5 161 yX5_tryCapacity, Cond.instanceMethod yX5_tryCapacity, Cond.selects RX5 yX5_tryCapacity yX5_tryCapacity, Cond.code yX5_tryCapacity cX5_tryCapacity 4 (some .int)]
def wsX5_bestBuffer_r2 : List Cond := [Cond.fieldLink RX5 16 "LineBuffers" "trial" "LLineBuffers$Line;", Cond.methodLink RX5 187 yX2_copy, Cond.static yX2_copy, Cond.initialized RX2, Cond.code yX2_copy cX2_copy 3 none, Cond.fieldLink RX2 23 "LineBuffers$Line" "machines" "I", Cond.fieldLink RX2 11 "LineBuffers$Line" "rows" "[[I", Cond.methodLink RX2 27 arraycopyName, Cond.native arraycopyName, Cond.static arraycopyName, Cond.initialized "java/lang/System", Cond.fieldLink RX2 19 "LineBuffers$Line" "stops" "LLineBuffers$Stops;", Cond.fieldLink RX2 37 "LineBuffers$Line" "tick" "I", Cond.methodLink RX2 33 yX4_copy, Cond.static yX4_copy, Cond.initialized RX4, Cond.code yX4_copy cX4_copy 3 none, Cond.fieldLink RX4 21 "LineBuffers$Stops" "planned" "I", Cond.fieldLink RX4 9 "LineBuffers$Stops" "machineOf" "[I", Cond.methodLink RX4 25 arraycopyName, Cond.fieldLink RX4 15 "LineBuffers$Stops" "firstOf" "[I", Cond.fieldLink RX4 18 "LineBuffers$Stops" "durationOf" "[I", Cond.methodLink RX5 143 yX2_beginAnew, Cond.instanceMethod yX2_beginAnew]
def wsX5_bestBuffer_r3 : List Cond := [Cond.selects RX2 yX2_beginAnew yX2_beginAnew, Cond.code yX2_beginAnew cX2_beginAnew 2 none, Cond.methodLink RX2 43 yX2_empty, Cond.static yX2_empty, Cond.code yX2_empty cX2_empty 2 none, Cond.methodLink RX5 140 yX2_pass, Cond.instanceMethod yX2_pass, Cond.selects RX2 yX2_pass yX2_pass, Cond.code yX2_pass cX2_pass 5 none, Cond.methodLink RX2 47 yX4_lookAt, Cond.instanceMethod yX4_lookAt, Cond.selects RX4 yX4_lookAt yX4_lookAt, Cond.code yX4_lookAt cX4_lookAt 6 (some .int), Cond.constant RX4 37 (2147483647), Cond.fieldLink RX4 38 "LineBuffers$Stops" "downBits" "I", Cond.methodLink RX4 41 Lib.Math.min.name, Cond.methodLink RX2 51 yX2_takeTurn, Cond.instanceMethod yX2_takeTurn, Cond.selects RX2 yX2_takeTurn yX2_takeTurn, Cond.code yX2_takeTurn cX2_takeTurn 3 none, Cond.methodLink RX2 58 yX2_chooseSpeed, Cond.instanceMethod yX2_chooseSpeed, Cond.selects RX2 yX2_chooseSpeed yX2_chooseSpeed, Cond.code yX2_chooseSpeed cX2_chooseSpeed 3 none]
def wsX5_bestBuffer_r4 : List Cond := [Cond.methodLink RX2 61 yX4_isDown, Cond.instanceMethod yX4_isDown, Cond.selects RX4 yX4_isDown yX4_isDown, Cond.code yX4_isDown cX4_isDown 2 (some .boolean), Cond.methodLink RX2 65 yX2_noteTurn, Cond.static yX2_noteTurn, Cond.code yX2_noteTurn cX2_noteTurn 2 none, Cond.methodLink RX2 69 yX2_release, Cond.instanceMethod yX2_release, Cond.selects RX2 yX2_release yX2_release, Cond.code yX2_release cX2_release 4 none, Cond.methodLink RX2 75 yX2_presentCycle, Cond.static yX2_presentCycle, Cond.code yX2_presentCycle cX2_presentCycle 1 (some .int), Cond.methodLink RX2 72 yX2_takeBottle, Cond.instanceMethod yX2_takeBottle, Cond.selects RX2 yX2_takeBottle yX2_takeBottle, Cond.code yX2_takeBottle cX2_takeBottle 4 none, Cond.methodLink RX2 55 yX2_countFills, Cond.instanceMethod yX2_countFills, Cond.selects RX2 yX2_countFills yX2_countFills, Cond.code yX2_countFills cX2_countFills 3 none, Cond.methodLink RX5 136 yX2_bottlesOut, Cond.instanceMethod yX2_bottlesOut]
def wsX5_bestBuffer_r5 : List Cond := [Cond.selects RX2 yX2_bottlesOut yX2_bottlesOut, Cond.code yX2_bottlesOut cX2_bottlesOut 1 (some .int)]
def wsX5_bestBuffer : List Cond := .code yX5_bestBuffer cX5_bestBuffer 8 (some .int) :: ((wsX5_bestBuffer_r1 ++ (wsX5_bestBuffer_r2 ++ (wsX5_bestBuffer_r3 ++ (wsX5_bestBuffer_r4 ++ wsX5_bestBuffer_r5)))) ++ wsX50 ++ wsX20 ++ wsX40 ++ (vx_atS RX5 45 "java/lang/IllegalArgumentException" ["java/lang/RuntimeException", "java/lang/Exception"]).filter goodWord ++ (vx_atS RX5 59 "java/lang/IllegalStateException" ["java/lang/RuntimeException", "java/lang/Exception"]).filter goodWord)
def wsX5_append : List Cond := .code yX5_append cX5_append 2 (some .int) :: ([.classLink RX5 41 "java/lang/IllegalArgumentException", .initialized "java/lang/IllegalArgumentException", .classLink RX5 55 "java/lang/IllegalStateException", .initialized "java/lang/IllegalStateException", .fieldLink RX5 29 "LineBuffers" "text" "LLineBuffers$LineText;", .methodLink RX5 37 yX5_isIn, .static yX5_isIn, .initialized RX5, .code yX5_isIn cX5_isIn 3 (some .boolean), .methodLink RX5 180 yX3_put, .instanceMethod yX3_put, .selects RX3 yX3_put yX3_put, .initialized RX3, .code yX3_put cX3_put 2 none, .fieldLink RX3 15 "LineBuffers$LineText" "length" "I", .fieldLink RX3 9 "LineBuffers$LineText" "bytes" "[I"] ++ wsX50 ++ wsX30 ++ (vx_atS RX5 45 "java/lang/IllegalArgumentException" ["java/lang/RuntimeException", "java/lang/Exception"]).filter goodWord ++ (vx_atS RX5 59 "java/lang/IllegalStateException" ["java/lang/RuntimeException", "java/lang/Exception"]).filter goodWord)
def wsX5_clearText : List Cond := .code yX5_clearText cX5_clearText 2 (some .int) :: ([.fieldLink RX5 29 "LineBuffers" "text" "LLineBuffers$LineText;"] ++ wsX50 ++ wsX30)
def wsX5_parse_r1 : List Cond := [Cond.fieldLink RX5 29 "LineBuffers" "text" "LLineBuffers$LineText;", Cond.fieldLink RX5 16 "LineBuffers" "trial" "LLineBuffers$Line;", Cond.fieldLink RX5 22 "LineBuffers" "history" "LLineBuffers$History;", Cond.fieldLink RX5 10 "LineBuffers" "line" "LLineBuffers$Line;", Cond.methodLink RX5 183 yX3_readInto, Cond.instanceMethod yX3_readInto, Cond.selects RX3 yX3_readInto yX3_readInto, Cond.initialized RX3, Cond.code yX3_readInto cX3_readInto 3 (some .int), Cond.fieldLink RX3 19 "LineBuffers$LineText" "at" "I", Cond.fieldLink RX3 22 "LineBuffers$LineText" "error" "I", Cond.fieldLink RX3 15 "LineBuffers$LineText" "length" "I", Cond.methodLink RX3 25 yX2_takeApart, Cond.instanceMethod yX2_takeApart, Cond.selects RX2 yX2_takeApart yX2_takeApart, Cond.initialized RX2, Cond.code yX2_takeApart cX2_takeApart 1 none, Cond.fieldLink RX2 23 "LineBuffers$Line" "machines" "I", Cond.fieldLink RX2 37 "LineBuffers$Line" "tick" "I", Cond.fieldLink RX2 19 "LineBuffers$Line" "stops" "LLineBuffers$Stops;", Cond.methodLink RX3 30 yX3_readItem, Cond.instanceMethod yX3_readItem, Cond.selects RX3 yX3_readItem yX3_readItem, Cond.code yX3_readItem cX3_readItem 3 none]
def wsX5_parse_r2 : List Cond := [Cond.methodLink RX3 34 yX3_byteAt, Cond.instanceMethod yX3_byteAt, Cond.selects RX3 yX3_byteAt yX3_byteAt, Cond.code yX3_byteAt cX3_byteAt 2 (some .int), Cond.fieldLink RX3 9 "LineBuffers$LineText" "bytes" "[I", Cond.methodLink RX3 41 yX3_readMachine, Cond.instanceMethod yX3_readMachine, Cond.selects RX3 yX3_readMachine yX3_readMachine, Cond.code yX3_readMachine cX3_readMachine 5 none, Cond.methodLink RX3 47 yX3_readNumber, Cond.instanceMethod yX3_readNumber, Cond.selects RX3 yX3_readNumber yX3_readNumber, Cond.code yX3_readNumber cX3_readNumber 7 (some .int), Cond.methodLink RX3 59 yX3_isDigit, Cond.static yX3_isDigit, Cond.code yX3_isDigit cX3_isDigit 1 (some .boolean), Cond.static yX5_isIn, Cond.initialized RX5, Cond.code yX5_isIn cX5_isIn 3 (some .boolean), Cond.methodLink RX3 51 yX2_join, Cond.instanceMethod yX2_join, Cond.selects RX2 yX2_join yX2_join, Cond.code yX2_join cX2_join 5 (some .int), Cond.fieldLink RX2 11 "LineBuffers$Line" "rows" "[[I"]
def wsX5_parse_r3 : List Cond := [Cond.methodLink RX2 43 yX2_empty, Cond.static yX2_empty, Cond.code yX2_empty cX2_empty 2 none, Cond.methodLink RX3 44 yX3_readMarks, Cond.instanceMethod yX3_readMarks, Cond.selects RX3 yX3_readMarks yX3_readMarks, Cond.code yX3_readMarks cX3_readMarks 5 none, Cond.methodLink RX3 55 yX2_mark, Cond.instanceMethod yX2_mark, Cond.selects RX2 yX2_mark yX2_mark, Cond.code yX2_mark cX2_mark 4 none, Cond.methodLink RX5 60 yX1_keep, Cond.instanceMethod yX1_keep, Cond.selects RX1 yX1_keep yX1_keep, Cond.initialized RX1, Cond.code yX1_keep cX1_keep 2 none, Cond.fieldLink RX1 18 "LineBuffers$History" "newest" "I", Cond.fieldLink RX1 11 "LineBuffers$History" "places" "[LLineBuffers$Line;", Cond.fieldLink RX1 26 "LineBuffers$History" "saved" "I", Cond.methodLink RX1 22 yX2_copy, Cond.static yX2_copy, Cond.code yX2_copy cX2_copy 3 none, Cond.methodLink RX2 27 arraycopyName, Cond.native arraycopyName]
def wsX5_parse_r4 : List Cond := [Cond.static arraycopyName, Cond.initialized "java/lang/System", Cond.methodLink RX2 33 yX4_copy, Cond.static yX4_copy, Cond.initialized RX4, Cond.code yX4_copy cX4_copy 3 none, Cond.fieldLink RX4 21 "LineBuffers$Stops" "planned" "I", Cond.fieldLink RX4 9 "LineBuffers$Stops" "machineOf" "[I", Cond.methodLink RX4 25 arraycopyName, Cond.fieldLink RX4 15 "LineBuffers$Stops" "firstOf" "[I", Cond.fieldLink RX4 18 "LineBuffers$Stops" "durationOf" "[I", Cond.methodLink RX5 187 yX2_copy]
def wsX5_parse : List Cond := .code yX5_parse cX5_parse 2 (some .int) :: ((wsX5_parse_r1 ++ (wsX5_parse_r2 ++ (wsX5_parse_r3 ++ wsX5_parse_r4))) ++ wsX50 ++ wsX20 ++ wsX30 ++ wsX40 ++ wsX10)
def wsX5_undo_r1 : List Cond := [Cond.classLink RX5 55 "java/lang/IllegalStateException", Cond.initialized "java/lang/IllegalStateException", Cond.fieldLink RX5 22 "LineBuffers" "history" "LLineBuffers$History;", Cond.fieldLink RX5 10 "LineBuffers" "line" "LLineBuffers$Line;", Cond.methodLink RX5 196 yX1_giveBack, Cond.instanceMethod yX1_giveBack, Cond.selects RX1 yX1_giveBack yX1_giveBack, Cond.initialized RX1, Cond.code yX1_giveBack cX1_giveBack 2 none, Cond.fieldLink RX1 26 "LineBuffers$History" "saved" "I", Cond.fieldLink RX1 11 "LineBuffers$History" "places" "[LLineBuffers$Line;", Cond.fieldLink RX1 18 "LineBuffers$History" "newest" "I", Cond.methodLink RX1 22 yX2_copy, Cond.static yX2_copy, Cond.initialized RX2, Cond.code yX2_copy cX2_copy 3 none, Cond.fieldLink RX2 23 "LineBuffers$Line" "machines" "I", Cond.fieldLink RX2 11 "LineBuffers$Line" "rows" "[[I", Cond.methodLink RX2 27 arraycopyName, Cond.native arraycopyName, Cond.static arraycopyName, Cond.initialized "java/lang/System", Cond.fieldLink RX2 19 "LineBuffers$Line" "stops" "LLineBuffers$Stops;", Cond.fieldLink RX2 37 "LineBuffers$Line" "tick" "I"]
def wsX5_undo_r2 : List Cond := [Cond.methodLink RX2 33 yX4_copy, Cond.static yX4_copy, Cond.initialized RX4, Cond.code yX4_copy cX4_copy 3 none, Cond.fieldLink RX4 21 "LineBuffers$Stops" "planned" "I", Cond.fieldLink RX4 9 "LineBuffers$Stops" "machineOf" "[I", Cond.methodLink RX4 25 arraycopyName, Cond.fieldLink RX4 15 "LineBuffers$Stops" "firstOf" "[I", Cond.fieldLink RX4 18 "LineBuffers$Stops" "durationOf" "[I"]
def wsX5_undo : List Cond := .code yX5_undo cX5_undo 1 (some .int) :: ((wsX5_undo_r1 ++ wsX5_undo_r2) ++ wsX50 ++ wsX10 ++ wsX20 ++ wsX40 ++ (vx_atS RX5 59 "java/lang/IllegalStateException" ["java/lang/RuntimeException", "java/lang/Exception"]).filter goodWord)
def wsX5_digest_r1 : List Cond := [Cond.constantLong RX5 199 (3109), Cond.constantLong RX5 201 (31), Cond.fieldLink RX5 29 "LineBuffers" "text" "LLineBuffers$LineText;", Cond.fieldLink RX5 10 "LineBuffers" "line" "LLineBuffers$Line;", Cond.fieldLink RX5 22 "LineBuffers" "history" "LLineBuffers$History;", Cond.methodLink RX5 203 yX2_mixInto, Cond.instanceMethod yX2_mixInto, Cond.selects RX2 yX2_mixInto yX2_mixInto, Cond.initialized RX2, Cond.code yX2_mixInto cX2_mixInto 7 (some .long), Cond.constantLong RX2 94 (31), Cond.fieldLink RX2 37 "LineBuffers$Line" "tick" "I", Cond.fieldLink RX2 23 "LineBuffers$Line" "machines" "I", Cond.fieldLink RX2 11 "LineBuffers$Line" "rows" "[[I", Cond.methodLink RX2 96 yX2_bottlesOut, Cond.instanceMethod yX2_bottlesOut, Cond.selects RX2 yX2_bottlesOut yX2_bottlesOut, Cond.code yX2_bottlesOut cX2_bottlesOut 1 (some .int), Cond.methodLink RX5 207 yX4_mixInto, Cond.instanceMethod yX4_mixInto, Cond.selects RX4 yX4_mixInto yX4_mixInto, Cond.initialized RX4, Cond.code yX4_mixInto cX4_mixInto 7 (some .long), Cond.constantLong RX4 47 (31)]
def wsX5_digest_r2 : List Cond := [Cond.fieldLink RX4 21 "LineBuffers$Stops" "planned" "I", Cond.methodLink RX4 49 yX4_value, Cond.instanceMethod yX4_value, Cond.selects RX4 yX4_value yX4_value, Cond.code yX4_value cX4_value 3 (some .int), Cond.fieldLink RX4 9 "LineBuffers$Stops" "machineOf" "[I", Cond.fieldLink RX4 15 "LineBuffers$Stops" "firstOf" "[I", Cond.fieldLink RX4 18 "LineBuffers$Stops" "durationOf" "[I", Cond.methodLink RX5 146 yX2_bottlesInside, Cond.instanceMethod yX2_bottlesInside, Cond.selects RX2 yX2_bottlesInside yX2_bottlesInside, Cond.code yX2_bottlesInside cX2_bottlesInside 3 (some .int)]
def wsX5_digest : List Cond := .code yX5_digest cX5_digest 3 (some .long) :: ((wsX5_digest_r1 ++ wsX5_digest_r2) ++ wsX50 ++ wsX30 ++ wsX20 ++ wsX10 ++ wsX40)
def wsX6_init : List Cond := .code yX6_init cX6_init 1 none :: ([.methodLink RX6 1 objectInit, .instanceMethod objectInit, .code objectInit ⟨#[0xb1]⟩ 1 none, .arrayClass .int, .fieldLink RX6 7 "LineBuffersModel" "now" "[I", .fieldLink RX6 13 "LineBuffersModel" "past" "[I", .fieldLink RX6 16 "LineBuffersModel" "aside" "[I", .fieldLink RX6 19 "LineBuffersModel" "text" "[I", .fieldLink RX6 22 "LineBuffersModel" "down" "[I"] ++ wsX60)
def wsX6_thrown : List Cond := .code yX6_thrown cX6_thrown 1 (some .int) :: ([.fieldLink RX6 25 "LineBuffersModel" "refusal" "I"] ++ wsX60)
def wsX6_refused : List Cond := .code yX6_refused cX6_refused 2 (some .boolean) :: ([.fieldLink RX6 25 "LineBuffersModel" "refusal" "I"] ++ wsX60)
def wsX6_within : List Cond := .code yX6_within cX6_within 3 (some .boolean) :: ([])
def wsX6_isMachine : List Cond := .code yX6_isMachine cX6_isMachine 2 (some .boolean) :: ([.fieldLink RX6 7 "LineBuffersModel" "now" "[I", .methodLink RX6 29 yX6_within, .static yX6_within, .initialized RX6, .code yX6_within cX6_within 3 (some .boolean)] ++ wsX60)
def wsX6_of : List Cond := .code yX6_of cX6_of 1 (some .int) :: ([])
def wsX6_saves : List Cond := .code yX6_saves cX6_saves 2 none :: ([.fieldLink RX6 33 "LineBuffersModel" "saved" "I", .fieldLink RX6 13 "LineBuffersModel" "past" "[I", .fieldLink RX6 7 "LineBuffersModel" "now" "[I"] ++ wsX60)
def wsX6_undo : List Cond := .code yX6_undo cX6_undo 2 (some .int) :: ([.fieldLink RX6 33 "LineBuffersModel" "saved" "I", .fieldLink RX6 7 "LineBuffersModel" "now" "[I", .fieldLink RX6 13 "LineBuffersModel" "past" "[I", .methodLink RX6 36 yX6_refused, .instanceMethod yX6_refused, .selects RX6 yX6_refused yX6_refused, .initialized RX6, .code yX6_refused cX6_refused 2 (some .boolean), .fieldLink RX6 25 "LineBuffersModel" "refusal" "I"] ++ wsX60)
def wsX6_keeps : List Cond := .code yX6_keeps cX6_keeps 2 none :: ([.fieldLink RX6 16 "LineBuffersModel" "aside" "[I", .fieldLink RX6 7 "LineBuffersModel" "now" "[I"] ++ wsX60)
def wsX6_takesBack : List Cond := .code yX6_takesBack cX6_takesBack 2 none :: ([.fieldLink RX6 7 "LineBuffersModel" "now" "[I", .fieldLink RX6 16 "LineBuffersModel" "aside" "[I"] ++ wsX60)
def wsX6_areCycles : List Cond := .code yX6_areCycles cX6_areCycles 2 (some .boolean) :: ([.methodLink RX6 29 yX6_within, .static yX6_within, .initialized RX6, .code yX6_within cX6_within 3 (some .boolean)])
def wsX6_isCapacity : List Cond := .code yX6_isCapacity cX6_isCapacity 1 (some .boolean) :: ([.methodLink RX6 29 yX6_within, .static yX6_within, .initialized RX6, .code yX6_within cX6_within 3 (some .boolean)])
def wsX6_adds : List Cond := .code yX6_adds cX6_adds 6 none :: ([.fieldLink RX6 7 "LineBuffersModel" "now" "[I", .methodLink RX6 40 yX6_of, .static yX6_of, .initialized RX6, .code yX6_of cX6_of 1 (some .int)] ++ wsX60)
def wsX6_addMachine_r1 : List Cond := [Cond.fieldLink RX6 7 "LineBuffersModel" "now" "[I", Cond.methodLink RX6 44 yX6_areCycles, Cond.static yX6_areCycles, Cond.initialized RX6, Cond.code yX6_areCycles cX6_areCycles 2 (some .boolean), Cond.methodLink RX6 29 yX6_within, Cond.static yX6_within, Cond.code yX6_within cX6_within 3 (some .boolean), Cond.methodLink RX6 48 yX6_isCapacity, Cond.static yX6_isCapacity, Cond.code yX6_isCapacity cX6_isCapacity 1 (some .boolean), Cond.methodLink RX6 36 yX6_refused, Cond.instanceMethod yX6_refused, Cond.selects RX6 yX6_refused yX6_refused, Cond.code yX6_refused cX6_refused 2 (some .boolean), Cond.fieldLink RX6 25 "LineBuffersModel" "refusal" "I", Cond.methodLink RX6 51 yX6_saves, Cond.instanceMethod yX6_saves, Cond.selects RX6 yX6_saves yX6_saves, Cond.code yX6_saves cX6_saves 2 none, Cond.fieldLink RX6 33 "LineBuffersModel" "saved" "I", Cond.fieldLink RX6 13 "LineBuffersModel" "past" "[I", Cond.methodLink RX6 54 yX6_adds, Cond.instanceMethod yX6_adds]
def wsX6_addMachine_r2 : List Cond := [Cond.selects RX6 yX6_adds yX6_adds, Cond.code yX6_adds cX6_adds 6 none, Cond.methodLink RX6 40 yX6_of, Cond.static yX6_of, Cond.code yX6_of cX6_of 1 (some .int)]
def wsX6_addMachine : List Cond := .code yX6_addMachine cX6_addMachine 4 (some .int) :: ((wsX6_addMachine_r1 ++ wsX6_addMachine_r2) ++ wsX60)
def wsX6_areMarks : List Cond := .code yX6_areMarks cX6_areMarks 2 (some .boolean) :: ([.methodLink RX6 29 yX6_within, .static yX6_within, .initialized RX6, .code yX6_within cX6_within 3 (some .boolean)])
def wsX6_setMachine_r1 : List Cond := [Cond.fieldLink RX6 7 "LineBuffersModel" "now" "[I", Cond.methodLink RX6 58 yX6_isMachine, Cond.instanceMethod yX6_isMachine, Cond.selects RX6 yX6_isMachine yX6_isMachine, Cond.initialized RX6, Cond.code yX6_isMachine cX6_isMachine 2 (some .boolean), Cond.methodLink RX6 29 yX6_within, Cond.static yX6_within, Cond.code yX6_within cX6_within 3 (some .boolean), Cond.methodLink RX6 44 yX6_areCycles, Cond.static yX6_areCycles, Cond.code yX6_areCycles cX6_areCycles 2 (some .boolean), Cond.methodLink RX6 61 yX6_areMarks, Cond.static yX6_areMarks, Cond.code yX6_areMarks cX6_areMarks 2 (some .boolean), Cond.methodLink RX6 36 yX6_refused, Cond.instanceMethod yX6_refused, Cond.selects RX6 yX6_refused yX6_refused, Cond.code yX6_refused cX6_refused 2 (some .boolean), Cond.fieldLink RX6 25 "LineBuffersModel" "refusal" "I", Cond.methodLink RX6 51 yX6_saves, Cond.instanceMethod yX6_saves, Cond.selects RX6 yX6_saves yX6_saves, Cond.code yX6_saves cX6_saves 2 none]
def wsX6_setMachine_r2 : List Cond := [Cond.fieldLink RX6 33 "LineBuffersModel" "saved" "I", Cond.fieldLink RX6 13 "LineBuffersModel" "past" "[I", Cond.methodLink RX6 40 yX6_of, Cond.static yX6_of, Cond.code yX6_of cX6_of 1 (some .int)]
def wsX6_setMachine : List Cond := .code yX6_setMachine cX6_setMachine 8 (some .int) :: ((wsX6_setMachine_r1 ++ wsX6_setMachine_r2) ++ wsX60)
def wsX6_setCapacity_r1 : List Cond := [Cond.fieldLink RX6 7 "LineBuffersModel" "now" "[I", Cond.methodLink RX6 58 yX6_isMachine, Cond.instanceMethod yX6_isMachine, Cond.selects RX6 yX6_isMachine yX6_isMachine, Cond.initialized RX6, Cond.code yX6_isMachine cX6_isMachine 2 (some .boolean), Cond.methodLink RX6 29 yX6_within, Cond.static yX6_within, Cond.code yX6_within cX6_within 3 (some .boolean), Cond.methodLink RX6 48 yX6_isCapacity, Cond.static yX6_isCapacity, Cond.code yX6_isCapacity cX6_isCapacity 1 (some .boolean), Cond.methodLink RX6 36 yX6_refused, Cond.instanceMethod yX6_refused, Cond.selects RX6 yX6_refused yX6_refused, Cond.code yX6_refused cX6_refused 2 (some .boolean), Cond.fieldLink RX6 25 "LineBuffersModel" "refusal" "I", Cond.methodLink RX6 51 yX6_saves, Cond.instanceMethod yX6_saves, Cond.selects RX6 yX6_saves yX6_saves, Cond.code yX6_saves cX6_saves 2 none, Cond.fieldLink RX6 33 "LineBuffersModel" "saved" "I", Cond.fieldLink RX6 13 "LineBuffersModel" "past" "[I", Cond.methodLink RX6 40 yX6_of]
def wsX6_setCapacity_r2 : List Cond := [Cond.static yX6_of, Cond.code yX6_of cX6_of 1 (some .int)]
def wsX6_setCapacity : List Cond := .code yX6_setCapacity cX6_setCapacity 4 (some .int) :: ((wsX6_setCapacity_r1 ++ wsX6_setCapacity_r2) ++ wsX60)
def wsX6_plans : List Cond := .code yX6_plans cX6_plans 5 none :: ([.fieldLink RX6 7 "LineBuffersModel" "now" "[I"] ++ wsX60)
def wsX6_addStop : List Cond := .code yX6_addStop cX6_addStop 5 (some .int) :: ([.fieldLink RX6 7 "LineBuffersModel" "now" "[I", .methodLink RX6 29 yX6_within, .static yX6_within, .initialized RX6, .code yX6_within cX6_within 3 (some .boolean), .methodLink RX6 58 yX6_isMachine, .instanceMethod yX6_isMachine, .selects RX6 yX6_isMachine yX6_isMachine, .code yX6_isMachine cX6_isMachine 2 (some .boolean), .methodLink RX6 36 yX6_refused, .instanceMethod yX6_refused, .selects RX6 yX6_refused yX6_refused, .code yX6_refused cX6_refused 2 (some .boolean), .fieldLink RX6 25 "LineBuffersModel" "refusal" "I", .methodLink RX6 51 yX6_saves, .instanceMethod yX6_saves, .selects RX6 yX6_saves yX6_saves, .code yX6_saves cX6_saves 2 none, .fieldLink RX6 33 "LineBuffersModel" "saved" "I", .fieldLink RX6 13 "LineBuffersModel" "past" "[I", .methodLink RX6 64 yX6_plans, .instanceMethod yX6_plans, .selects RX6 yX6_plans yX6_plans, .code yX6_plans cX6_plans 5 none] ++ wsX60)
def wsX6_draws : List Cond := .code yX6_draws cX6_draws 1 (some .int) :: ([.constantLong RX6 67 (1103515245), .fieldLink RX6 69 "LineBuffersModel" "draw" "J", .constantLong RX6 73 (12345), .constantLong RX6 75 (2147483648), .constantLong RX6 77 (65536)] ++ wsX60)
def wsX6_addRandomStops_r1 : List Cond := [Cond.constant RX6 79 (999999), Cond.fieldLink RX6 7 "LineBuffersModel" "now" "[I", Cond.fieldLink RX6 69 "LineBuffersModel" "draw" "J", Cond.methodLink RX6 29 yX6_within, Cond.static yX6_within, Cond.initialized RX6, Cond.code yX6_within cX6_within 3 (some .boolean), Cond.methodLink RX6 58 yX6_isMachine, Cond.instanceMethod yX6_isMachine, Cond.selects RX6 yX6_isMachine yX6_isMachine, Cond.code yX6_isMachine cX6_isMachine 2 (some .boolean), Cond.methodLink RX6 36 yX6_refused, Cond.instanceMethod yX6_refused, Cond.selects RX6 yX6_refused yX6_refused, Cond.code yX6_refused cX6_refused 2 (some .boolean), Cond.fieldLink RX6 25 "LineBuffersModel" "refusal" "I", Cond.methodLink RX6 51 yX6_saves, Cond.instanceMethod yX6_saves, Cond.selects RX6 yX6_saves yX6_saves, Cond.code yX6_saves cX6_saves 2 none, Cond.fieldLink RX6 33 "LineBuffersModel" "saved" "I", Cond.fieldLink RX6 13 "LineBuffersModel" "past" "[I", Cond.methodLink RX6 80 yX6_draws, Cond.instanceMethod yX6_draws]
def wsX6_addRandomStops_r2 : List Cond := [Cond.selects RX6 yX6_draws yX6_draws, Cond.code yX6_draws cX6_draws 1 (some .int), Cond.constantLong RX6 67 (1103515245), Cond.constantLong RX6 73 (12345), Cond.constantLong RX6 75 (2147483648), Cond.constantLong RX6 77 (65536), Cond.methodLink RX6 64 yX6_plans, Cond.instanceMethod yX6_plans, Cond.selects RX6 yX6_plans yX6_plans, Cond.code yX6_plans cX6_plans 5 none]
def wsX6_addRandomStops : List Cond := .code yX6_addRandomStops cX6_addRandomStops 12 (some .int) :: ((wsX6_addRandomStops_r1 ++ wsX6_addRandomStops_r2) ++ wsX60)
def wsX6_clearStops : List Cond := .code yX6_clearStops cX6_clearStops 5 (some .int) :: ([.fieldLink RX6 25 "LineBuffersModel" "refusal" "I", .fieldLink RX6 7 "LineBuffersModel" "now" "[I", .methodLink RX6 51 yX6_saves, .instanceMethod yX6_saves, .selects RX6 yX6_saves yX6_saves, .initialized RX6, .code yX6_saves cX6_saves 2 none, .fieldLink RX6 33 "LineBuffersModel" "saved" "I", .fieldLink RX6 13 "LineBuffersModel" "past" "[I"] ++ wsX60)
def wsX6_size : List Cond := .code yX6_size cX6_size 2 (some .int) :: ([.fieldLink RX6 25 "LineBuffersModel" "refusal" "I", .fieldLink RX6 7 "LineBuffersModel" "now" "[I"] ++ wsX60)
def wsX6_stop : List Cond := .code yX6_stop cX6_stop 3 (some .int) :: ([.fieldLink RX6 7 "LineBuffersModel" "now" "[I", .methodLink RX6 29 yX6_within, .static yX6_within, .initialized RX6, .code yX6_within cX6_within 3 (some .boolean), .methodLink RX6 36 yX6_refused, .instanceMethod yX6_refused, .selects RX6 yX6_refused yX6_refused, .code yX6_refused cX6_refused 2 (some .boolean), .fieldLink RX6 25 "LineBuffersModel" "refusal" "I"] ++ wsX60)
def wsX6_laysDown : List Cond := .code yX6_laysDown cX6_laysDown 7 none :: ([.fieldLink RX6 22 "LineBuffersModel" "down" "[I", .fieldLink RX6 7 "LineBuffersModel" "now" "[I"] ++ wsX60)
def wsX6_isDown : List Cond := .code yX6_isDown cX6_isDown 3 (some .boolean) :: ([.fieldLink RX6 22 "LineBuffersModel" "down" "[I"] ++ wsX60)
def wsX6_cycle : List Cond := .code yX6_cycle cX6_cycle 2 (some .int) :: ([.fieldLink RX6 7 "LineBuffersModel" "now" "[I"] ++ wsX60)
def wsX6_speeds : List Cond := .code yX6_speeds cX6_speeds 5 none :: ([.fieldLink RX6 7 "LineBuffersModel" "now" "[I", .methodLink RX6 40 yX6_of, .static yX6_of, .initialized RX6, .code yX6_of cX6_of 1 (some .int)] ++ wsX60)
def wsX6_leaves : List Cond := .code yX6_leaves cX6_leaves 6 none :: ([.fieldLink RX6 7 "LineBuffersModel" "now" "[I", .methodLink RX6 40 yX6_of, .static yX6_of, .initialized RX6, .code yX6_of cX6_of 1 (some .int), .methodLink RX6 84 yX6_isDown, .instanceMethod yX6_isDown, .selects RX6 yX6_isDown yX6_isDown, .code yX6_isDown cX6_isDown 3 (some .boolean), .fieldLink RX6 22 "LineBuffersModel" "down" "[I", .methodLink RX6 87 yX6_cycle, .instanceMethod yX6_cycle, .selects RX6 yX6_cycle yX6_cycle, .code yX6_cycle cX6_cycle 2 (some .int)] ++ wsX60)
def wsX6_takes : List Cond := .code yX6_takes cX6_takes 4 none :: ([.fieldLink RX6 7 "LineBuffersModel" "now" "[I", .methodLink RX6 40 yX6_of, .static yX6_of, .initialized RX6, .code yX6_of cX6_of 1 (some .int), .methodLink RX6 87 yX6_cycle, .instanceMethod yX6_cycle, .selects RX6 yX6_cycle yX6_cycle, .code yX6_cycle cX6_cycle 2 (some .int)] ++ wsX60)
def wsX6_turns_r1 : List Cond := [Cond.fieldLink RX6 7 "LineBuffersModel" "now" "[I", Cond.methodLink RX6 40 yX6_of, Cond.static yX6_of, Cond.initialized RX6, Cond.code yX6_of cX6_of 1 (some .int), Cond.methodLink RX6 90 yX6_speeds, Cond.instanceMethod yX6_speeds, Cond.selects RX6 yX6_speeds yX6_speeds, Cond.code yX6_speeds cX6_speeds 5 none, Cond.methodLink RX6 84 yX6_isDown, Cond.instanceMethod yX6_isDown, Cond.selects RX6 yX6_isDown yX6_isDown, Cond.code yX6_isDown cX6_isDown 3 (some .boolean), Cond.fieldLink RX6 22 "LineBuffersModel" "down" "[I", Cond.methodLink RX6 94 yX6_leaves, Cond.instanceMethod yX6_leaves, Cond.selects RX6 yX6_leaves yX6_leaves, Cond.code yX6_leaves cX6_leaves 6 none, Cond.methodLink RX6 87 yX6_cycle, Cond.instanceMethod yX6_cycle, Cond.selects RX6 yX6_cycle yX6_cycle, Cond.code yX6_cycle cX6_cycle 2 (some .int), Cond.methodLink RX6 98 yX6_takes, Cond.instanceMethod yX6_takes]
def wsX6_turns_r2 : List Cond := [Cond.selects RX6 yX6_takes yX6_takes, Cond.code yX6_takes cX6_takes 4 none]
def wsX6_turns : List Cond := .code yX6_turns cX6_turns 4 (some .int) :: ((wsX6_turns_r1 ++ wsX6_turns_r2) ++ wsX60)
def wsX6_passes_r1 : List Cond := [Cond.fieldLink RX6 7 "LineBuffersModel" "now" "[I", Cond.methodLink RX6 101 yX6_turns, Cond.instanceMethod yX6_turns, Cond.selects RX6 yX6_turns yX6_turns, Cond.initialized RX6, Cond.code yX6_turns cX6_turns 4 (some .int), Cond.methodLink RX6 40 yX6_of, Cond.static yX6_of, Cond.code yX6_of cX6_of 1 (some .int), Cond.methodLink RX6 90 yX6_speeds, Cond.instanceMethod yX6_speeds, Cond.selects RX6 yX6_speeds yX6_speeds, Cond.code yX6_speeds cX6_speeds 5 none, Cond.methodLink RX6 84 yX6_isDown, Cond.instanceMethod yX6_isDown, Cond.selects RX6 yX6_isDown yX6_isDown, Cond.code yX6_isDown cX6_isDown 3 (some .boolean), Cond.fieldLink RX6 22 "LineBuffersModel" "down" "[I", Cond.methodLink RX6 94 yX6_leaves, Cond.instanceMethod yX6_leaves, Cond.selects RX6 yX6_leaves yX6_leaves, Cond.code yX6_leaves cX6_leaves 6 none, Cond.methodLink RX6 87 yX6_cycle, Cond.instanceMethod yX6_cycle]
def wsX6_passes_r2 : List Cond := [Cond.selects RX6 yX6_cycle yX6_cycle, Cond.code yX6_cycle cX6_cycle 2 (some .int), Cond.methodLink RX6 98 yX6_takes, Cond.instanceMethod yX6_takes, Cond.selects RX6 yX6_takes yX6_takes, Cond.code yX6_takes cX6_takes 4 none]
def wsX6_passes : List Cond := .code yX6_passes cX6_passes 3 none :: ((wsX6_passes_r1 ++ wsX6_passes_r2) ++ wsX60)
def wsX6_made : List Cond := .code yX6_made cX6_made 1 (some .int) :: ([.fieldLink RX6 7 "LineBuffersModel" "now" "[I", .methodLink RX6 40 yX6_of, .static yX6_of, .initialized RX6, .code yX6_of cX6_of 1 (some .int)] ++ wsX60)
def wsX6_goes_r1 : List Cond := [Cond.fieldLink RX6 7 "LineBuffersModel" "now" "[I", Cond.methodLink RX6 105 yX6_made, Cond.instanceMethod yX6_made, Cond.selects RX6 yX6_made yX6_made, Cond.initialized RX6, Cond.code yX6_made cX6_made 1 (some .int), Cond.methodLink RX6 40 yX6_of, Cond.static yX6_of, Cond.code yX6_of cX6_of 1 (some .int), Cond.methodLink RX6 108 yX6_laysDown, Cond.instanceMethod yX6_laysDown, Cond.selects RX6 yX6_laysDown yX6_laysDown, Cond.code yX6_laysDown cX6_laysDown 7 none, Cond.fieldLink RX6 22 "LineBuffersModel" "down" "[I", Cond.methodLink RX6 111 yX6_passes, Cond.instanceMethod yX6_passes, Cond.selects RX6 yX6_passes yX6_passes, Cond.code yX6_passes cX6_passes 3 none, Cond.methodLink RX6 101 yX6_turns, Cond.instanceMethod yX6_turns, Cond.selects RX6 yX6_turns yX6_turns, Cond.code yX6_turns cX6_turns 4 (some .int), Cond.methodLink RX6 90 yX6_speeds, Cond.instanceMethod yX6_speeds]
def wsX6_goes_r2 : List Cond := [Cond.selects RX6 yX6_speeds yX6_speeds, Cond.code yX6_speeds cX6_speeds 5 none, Cond.methodLink RX6 84 yX6_isDown, Cond.instanceMethod yX6_isDown, Cond.selects RX6 yX6_isDown yX6_isDown, Cond.code yX6_isDown cX6_isDown 3 (some .boolean), Cond.methodLink RX6 94 yX6_leaves, Cond.instanceMethod yX6_leaves, Cond.selects RX6 yX6_leaves yX6_leaves, Cond.code yX6_leaves cX6_leaves 6 none, Cond.methodLink RX6 87 yX6_cycle, Cond.instanceMethod yX6_cycle, Cond.selects RX6 yX6_cycle yX6_cycle, Cond.code yX6_cycle cX6_cycle 2 (some .int), Cond.methodLink RX6 98 yX6_takes, Cond.instanceMethod yX6_takes, Cond.selects RX6 yX6_takes yX6_takes, Cond.code yX6_takes cX6_takes 4 none]
def wsX6_goes : List Cond := .code yX6_goes cX6_goes 4 (some .int) :: ((wsX6_goes_r1 ++ wsX6_goes_r2) ++ wsX60)
def wsX6_run_r1 : List Cond := [Cond.fieldLink RX6 7 "LineBuffersModel" "now" "[I", Cond.methodLink RX6 29 yX6_within, Cond.static yX6_within, Cond.initialized RX6, Cond.code yX6_within cX6_within 3 (some .boolean), Cond.methodLink RX6 36 yX6_refused, Cond.instanceMethod yX6_refused, Cond.selects RX6 yX6_refused yX6_refused, Cond.code yX6_refused cX6_refused 2 (some .boolean), Cond.fieldLink RX6 25 "LineBuffersModel" "refusal" "I", Cond.methodLink RX6 51 yX6_saves, Cond.instanceMethod yX6_saves, Cond.selects RX6 yX6_saves yX6_saves, Cond.code yX6_saves cX6_saves 2 none, Cond.fieldLink RX6 33 "LineBuffersModel" "saved" "I", Cond.fieldLink RX6 13 "LineBuffersModel" "past" "[I", Cond.methodLink RX6 114 yX6_goes, Cond.instanceMethod yX6_goes, Cond.selects RX6 yX6_goes yX6_goes, Cond.code yX6_goes cX6_goes 4 (some .int), Cond.methodLink RX6 105 yX6_made, Cond.instanceMethod yX6_made, Cond.selects RX6 yX6_made yX6_made, Cond.code yX6_made cX6_made 1 (some .int)]
def wsX6_run_r2 : List Cond := [Cond.methodLink RX6 40 yX6_of, Cond.static yX6_of, Cond.code yX6_of cX6_of 1 (some .int), Cond.methodLink RX6 108 yX6_laysDown, Cond.instanceMethod yX6_laysDown, Cond.selects RX6 yX6_laysDown yX6_laysDown, Cond.code yX6_laysDown cX6_laysDown 7 none, Cond.fieldLink RX6 22 "LineBuffersModel" "down" "[I", Cond.methodLink RX6 111 yX6_passes, Cond.instanceMethod yX6_passes, Cond.selects RX6 yX6_passes yX6_passes, Cond.code yX6_passes cX6_passes 3 none, Cond.methodLink RX6 101 yX6_turns, Cond.instanceMethod yX6_turns, Cond.selects RX6 yX6_turns yX6_turns, Cond.code yX6_turns cX6_turns 4 (some .int), Cond.methodLink RX6 90 yX6_speeds, Cond.instanceMethod yX6_speeds, Cond.selects RX6 yX6_speeds yX6_speeds, Cond.code yX6_speeds cX6_speeds 5 none, Cond.methodLink RX6 84 yX6_isDown, Cond.instanceMethod yX6_isDown, Cond.selects RX6 yX6_isDown yX6_isDown, Cond.code yX6_isDown cX6_isDown 3 (some .boolean)]
def wsX6_run_r3 : List Cond := [Cond.methodLink RX6 94 yX6_leaves, Cond.instanceMethod yX6_leaves, Cond.selects RX6 yX6_leaves yX6_leaves, Cond.code yX6_leaves cX6_leaves 6 none, Cond.methodLink RX6 87 yX6_cycle, Cond.instanceMethod yX6_cycle, Cond.selects RX6 yX6_cycle yX6_cycle, Cond.code yX6_cycle cX6_cycle 2 (some .int), Cond.methodLink RX6 98 yX6_takes, Cond.instanceMethod yX6_takes, Cond.selects RX6 yX6_takes yX6_takes, Cond.code yX6_takes cX6_takes 4 none]
def wsX6_run : List Cond := .code yX6_run cX6_run 2 (some .int) :: ((wsX6_run_r1 ++ (wsX6_run_r2 ++ wsX6_run_r3)) ++ wsX60)
def wsX6_empties : List Cond := .code yX6_empties cX6_empties 4 none :: ([.fieldLink RX6 7 "LineBuffersModel" "now" "[I", .methodLink RX6 40 yX6_of, .static yX6_of, .initialized RX6, .code yX6_of cX6_of 1 (some .int)] ++ wsX60)
def wsX6_restart : List Cond := .code yX6_restart cX6_restart 2 (some .int) :: ([.fieldLink RX6 25 "LineBuffersModel" "refusal" "I", .fieldLink RX6 7 "LineBuffersModel" "now" "[I", .methodLink RX6 51 yX6_saves, .instanceMethod yX6_saves, .selects RX6 yX6_saves yX6_saves, .initialized RX6, .code yX6_saves cX6_saves 2 none, .fieldLink RX6 33 "LineBuffersModel" "saved" "I", .fieldLink RX6 13 "LineBuffersModel" "past" "[I", .methodLink RX6 117 yX6_empties, .instanceMethod yX6_empties, .selects RX6 yX6_empties yX6_empties, .code yX6_empties cX6_empties 4 none, .methodLink RX6 40 yX6_of, .static yX6_of, .code yX6_of cX6_of 1 (some .int)] ++ wsX60)
def wsX6_now : List Cond := .code yX6_now cX6_now 1 (some .int) :: ([.fieldLink RX6 25 "LineBuffersModel" "refusal" "I", .fieldLink RX6 7 "LineBuffersModel" "now" "[I"] ++ wsX60)
def wsX6_output : List Cond := .code yX6_output cX6_output 1 (some .int) :: ([.fieldLink RX6 25 "LineBuffersModel" "refusal" "I", .methodLink RX6 105 yX6_made, .instanceMethod yX6_made, .selects RX6 yX6_made yX6_made, .initialized RX6, .code yX6_made cX6_made 1 (some .int), .fieldLink RX6 7 "LineBuffersModel" "now" "[I", .methodLink RX6 40 yX6_of, .static yX6_of, .code yX6_of cX6_of 1 (some .int)] ++ wsX60)
def wsX6_setting : List Cond := .code yX6_setting cX6_setting 3 (some .int) :: ([.fieldLink RX6 7 "LineBuffersModel" "now" "[I", .methodLink RX6 58 yX6_isMachine, .instanceMethod yX6_isMachine, .selects RX6 yX6_isMachine yX6_isMachine, .initialized RX6, .code yX6_isMachine cX6_isMachine 2 (some .boolean), .methodLink RX6 29 yX6_within, .static yX6_within, .code yX6_within cX6_within 3 (some .boolean), .methodLink RX6 36 yX6_refused, .instanceMethod yX6_refused, .selects RX6 yX6_refused yX6_refused, .code yX6_refused cX6_refused 2 (some .boolean), .fieldLink RX6 25 "LineBuffersModel" "refusal" "I", .methodLink RX6 40 yX6_of, .static yX6_of, .code yX6_of cX6_of 1 (some .int)] ++ wsX60)
def wsX6_tellMachine : List Cond := .code yX6_tellMachine cX6_tellMachine 3 (some .int) :: ([.fieldLink RX6 7 "LineBuffersModel" "now" "[I", .methodLink RX6 40 yX6_of, .static yX6_of, .initialized RX6, .code yX6_of cX6_of 1 (some .int)] ++ wsX60)
def wsX6_machine : List Cond := .code yX6_machine cX6_machine 3 (some .int) :: ([.methodLink RX6 58 yX6_isMachine, .instanceMethod yX6_isMachine, .selects RX6 yX6_isMachine yX6_isMachine, .initialized RX6, .code yX6_isMachine cX6_isMachine 2 (some .boolean), .fieldLink RX6 7 "LineBuffersModel" "now" "[I", .methodLink RX6 29 yX6_within, .static yX6_within, .code yX6_within cX6_within 3 (some .boolean), .methodLink RX6 36 yX6_refused, .instanceMethod yX6_refused, .selects RX6 yX6_refused yX6_refused, .code yX6_refused cX6_refused 2 (some .boolean), .fieldLink RX6 25 "LineBuffersModel" "refusal" "I", .methodLink RX6 120 yX6_tellMachine, .instanceMethod yX6_tellMachine, .selects RX6 yX6_tellMachine yX6_tellMachine, .code yX6_tellMachine cX6_tellMachine 3 (some .int), .methodLink RX6 40 yX6_of, .static yX6_of, .code yX6_of cX6_of 1 (some .int)] ++ wsX60)
def wsX6_count : List Cond := .code yX6_count cX6_count 3 (some .int) :: ([.fieldLink RX6 7 "LineBuffersModel" "now" "[I", .methodLink RX6 58 yX6_isMachine, .instanceMethod yX6_isMachine, .selects RX6 yX6_isMachine yX6_isMachine, .initialized RX6, .code yX6_isMachine cX6_isMachine 2 (some .boolean), .methodLink RX6 29 yX6_within, .static yX6_within, .code yX6_within cX6_within 3 (some .boolean), .methodLink RX6 36 yX6_refused, .instanceMethod yX6_refused, .selects RX6 yX6_refused yX6_refused, .code yX6_refused cX6_refused 2 (some .boolean), .fieldLink RX6 25 "LineBuffersModel" "refusal" "I", .methodLink RX6 40 yX6_of, .static yX6_of, .code yX6_of cX6_of 1 (some .int)] ++ wsX60)
def wsX6_meanFill : List Cond := .code yX6_meanFill cX6_meanFill 2 (some .double) :: ([.fieldLink RX6 7 "LineBuffersModel" "now" "[I", .methodLink RX6 58 yX6_isMachine, .instanceMethod yX6_isMachine, .selects RX6 yX6_isMachine yX6_isMachine, .initialized RX6, .code yX6_isMachine cX6_isMachine 2 (some .boolean), .methodLink RX6 29 yX6_within, .static yX6_within, .code yX6_within cX6_within 3 (some .boolean), .methodLink RX6 36 yX6_refused, .instanceMethod yX6_refused, .selects RX6 yX6_refused yX6_refused, .code yX6_refused cX6_refused 2 (some .boolean), .fieldLink RX6 25 "LineBuffersModel" "refusal" "I", .methodLink RX6 40 yX6_of, .static yX6_of, .code yX6_of cX6_of 1 (some .int)] ++ wsX60)
def wsX6_bottles : List Cond := .code yX6_bottles cX6_bottles 3 (some .int) :: ([.fieldLink RX6 7 "LineBuffersModel" "now" "[I", .methodLink RX6 40 yX6_of, .static yX6_of, .initialized RX6, .code yX6_of cX6_of 1 (some .int)] ++ wsX60)
def wsX6_inside : List Cond := .code yX6_inside cX6_inside 1 (some .int) :: ([.fieldLink RX6 25 "LineBuffersModel" "refusal" "I", .methodLink RX6 123 yX6_bottles, .instanceMethod yX6_bottles, .selects RX6 yX6_bottles yX6_bottles, .initialized RX6, .code yX6_bottles cX6_bottles 3 (some .int), .fieldLink RX6 7 "LineBuffersModel" "now" "[I", .methodLink RX6 40 yX6_of, .static yX6_of, .code yX6_of cX6_of 1 (some .int)] ++ wsX60)
def wsX6_most : List Cond := .code yX6_most cX6_most 5 (some .int) :: ([.fieldLink RX6 7 "LineBuffersModel" "now" "[I", .methodLink RX6 84 yX6_isDown, .instanceMethod yX6_isDown, .selects RX6 yX6_isDown yX6_isDown, .initialized RX6, .code yX6_isDown cX6_isDown 3 (some .boolean), .fieldLink RX6 22 "LineBuffersModel" "down" "[I", .methodLink RX6 40 yX6_of, .static yX6_of, .code yX6_of cX6_of 1 (some .int)] ++ wsX60)
def wsX6_slowestOf : List Cond := .code yX6_slowestOf cX6_slowestOf 4 (some .int) :: ([.fieldLink RX6 7 "LineBuffersModel" "now" "[I", .methodLink RX6 108 yX6_laysDown, .instanceMethod yX6_laysDown, .selects RX6 yX6_laysDown yX6_laysDown, .initialized RX6, .code yX6_laysDown cX6_laysDown 7 none, .fieldLink RX6 22 "LineBuffersModel" "down" "[I", .methodLink RX6 126 yX6_most, .instanceMethod yX6_most, .selects RX6 yX6_most yX6_most, .code yX6_most cX6_most 5 (some .int), .methodLink RX6 84 yX6_isDown, .instanceMethod yX6_isDown, .selects RX6 yX6_isDown yX6_isDown, .code yX6_isDown cX6_isDown 3 (some .boolean), .methodLink RX6 40 yX6_of, .static yX6_of, .code yX6_of cX6_of 1 (some .int)] ++ wsX60)
def wsX6_refusedLimit : List Cond := .code yX6_refusedLimit cX6_refusedLimit 2 (some .boolean) :: ([.fieldLink RX6 7 "LineBuffersModel" "now" "[I", .methodLink RX6 29 yX6_within, .static yX6_within, .initialized RX6, .code yX6_within cX6_within 3 (some .boolean), .methodLink RX6 36 yX6_refused, .instanceMethod yX6_refused, .selects RX6 yX6_refused yX6_refused, .code yX6_refused cX6_refused 2 (some .boolean), .fieldLink RX6 25 "LineBuffersModel" "refusal" "I"] ++ wsX60)
def wsX6_bound_r1 : List Cond := [Cond.methodLink RX6 129 yX6_refusedLimit, Cond.instanceMethod yX6_refusedLimit, Cond.selects RX6 yX6_refusedLimit yX6_refusedLimit, Cond.initialized RX6, Cond.code yX6_refusedLimit cX6_refusedLimit 2 (some .boolean), Cond.fieldLink RX6 7 "LineBuffersModel" "now" "[I", Cond.methodLink RX6 29 yX6_within, Cond.static yX6_within, Cond.code yX6_within cX6_within 3 (some .boolean), Cond.methodLink RX6 36 yX6_refused, Cond.instanceMethod yX6_refused, Cond.selects RX6 yX6_refused yX6_refused, Cond.code yX6_refused cX6_refused 2 (some .boolean), Cond.fieldLink RX6 25 "LineBuffersModel" "refusal" "I", Cond.methodLink RX6 132 yX6_slowestOf, Cond.instanceMethod yX6_slowestOf, Cond.selects RX6 yX6_slowestOf yX6_slowestOf, Cond.code yX6_slowestOf cX6_slowestOf 4 (some .int), Cond.methodLink RX6 108 yX6_laysDown, Cond.instanceMethod yX6_laysDown, Cond.selects RX6 yX6_laysDown yX6_laysDown, Cond.code yX6_laysDown cX6_laysDown 7 none, Cond.fieldLink RX6 22 "LineBuffersModel" "down" "[I", Cond.methodLink RX6 126 yX6_most]
def wsX6_bound_r2 : List Cond := [Cond.instanceMethod yX6_most, Cond.selects RX6 yX6_most yX6_most, Cond.code yX6_most cX6_most 5 (some .int), Cond.methodLink RX6 84 yX6_isDown, Cond.instanceMethod yX6_isDown, Cond.selects RX6 yX6_isDown yX6_isDown, Cond.code yX6_isDown cX6_isDown 3 (some .boolean), Cond.methodLink RX6 40 yX6_of, Cond.static yX6_of, Cond.code yX6_of cX6_of 1 (some .int)]
def wsX6_bound : List Cond := .code yX6_bound cX6_bound 2 (some .int) :: ((wsX6_bound_r1 ++ wsX6_bound_r2) ++ wsX60)
def wsX6_slowest_r1 : List Cond := [Cond.methodLink RX6 129 yX6_refusedLimit, Cond.instanceMethod yX6_refusedLimit, Cond.selects RX6 yX6_refusedLimit yX6_refusedLimit, Cond.initialized RX6, Cond.code yX6_refusedLimit cX6_refusedLimit 2 (some .boolean), Cond.fieldLink RX6 7 "LineBuffersModel" "now" "[I", Cond.methodLink RX6 29 yX6_within, Cond.static yX6_within, Cond.code yX6_within cX6_within 3 (some .boolean), Cond.methodLink RX6 36 yX6_refused, Cond.instanceMethod yX6_refused, Cond.selects RX6 yX6_refused yX6_refused, Cond.code yX6_refused cX6_refused 2 (some .boolean), Cond.fieldLink RX6 25 "LineBuffersModel" "refusal" "I", Cond.methodLink RX6 132 yX6_slowestOf, Cond.instanceMethod yX6_slowestOf, Cond.selects RX6 yX6_slowestOf yX6_slowestOf, Cond.code yX6_slowestOf cX6_slowestOf 4 (some .int), Cond.methodLink RX6 108 yX6_laysDown, Cond.instanceMethod yX6_laysDown, Cond.selects RX6 yX6_laysDown yX6_laysDown, Cond.code yX6_laysDown cX6_laysDown 7 none, Cond.fieldLink RX6 22 "LineBuffersModel" "down" "[I", Cond.methodLink RX6 126 yX6_most]
def wsX6_slowest_r2 : List Cond := [Cond.instanceMethod yX6_most, Cond.selects RX6 yX6_most yX6_most, Cond.code yX6_most cX6_most 5 (some .int), Cond.methodLink RX6 84 yX6_isDown, Cond.instanceMethod yX6_isDown, Cond.selects RX6 yX6_isDown yX6_isDown, Cond.code yX6_isDown cX6_isDown 3 (some .boolean), Cond.methodLink RX6 40 yX6_of, Cond.static yX6_of, Cond.code yX6_of cX6_of 1 (some .int)]
def wsX6_slowest : List Cond := .code yX6_slowest cX6_slowest 2 (some .int) :: ((wsX6_slowest_r1 ++ wsX6_slowest_r2) ++ wsX60)
def wsX6_idle : List Cond := .code yX6_idle cX6_idle 2 (some .int) :: ([.fieldLink RX6 7 "LineBuffersModel" "now" "[I", .methodLink RX6 40 yX6_of, .static yX6_of, .initialized RX6, .code yX6_of cX6_of 1 (some .int)] ++ wsX60)
def wsX6_limiting : List Cond := .code yX6_limiting cX6_limiting 3 (some .int) :: ([.fieldLink RX6 7 "LineBuffersModel" "now" "[I", .methodLink RX6 36 yX6_refused, .instanceMethod yX6_refused, .selects RX6 yX6_refused yX6_refused, .initialized RX6, .code yX6_refused cX6_refused 2 (some .boolean), .fieldLink RX6 25 "LineBuffersModel" "refusal" "I", .methodLink RX6 135 yX6_idle, .instanceMethod yX6_idle, .selects RX6 yX6_idle yX6_idle, .code yX6_idle cX6_idle 2 (some .int), .methodLink RX6 40 yX6_of, .static yX6_of, .code yX6_of cX6_of 1 (some .int)] ++ wsX60)
def wsX6_madeWith_r1 : List Cond := [Cond.fieldLink RX6 7 "LineBuffersModel" "now" "[I", Cond.methodLink RX6 138 yX6_keeps, Cond.instanceMethod yX6_keeps, Cond.selects RX6 yX6_keeps yX6_keeps, Cond.initialized RX6, Cond.code yX6_keeps cX6_keeps 2 none, Cond.fieldLink RX6 16 "LineBuffersModel" "aside" "[I", Cond.methodLink RX6 40 yX6_of, Cond.static yX6_of, Cond.code yX6_of cX6_of 1 (some .int), Cond.methodLink RX6 117 yX6_empties, Cond.instanceMethod yX6_empties, Cond.selects RX6 yX6_empties yX6_empties, Cond.code yX6_empties cX6_empties 4 none, Cond.methodLink RX6 114 yX6_goes, Cond.instanceMethod yX6_goes, Cond.selects RX6 yX6_goes yX6_goes, Cond.code yX6_goes cX6_goes 4 (some .int), Cond.methodLink RX6 105 yX6_made, Cond.instanceMethod yX6_made, Cond.selects RX6 yX6_made yX6_made, Cond.code yX6_made cX6_made 1 (some .int), Cond.methodLink RX6 108 yX6_laysDown, Cond.instanceMethod yX6_laysDown]
def wsX6_madeWith_r2 : List Cond := [Cond.selects RX6 yX6_laysDown yX6_laysDown, Cond.code yX6_laysDown cX6_laysDown 7 none, Cond.fieldLink RX6 22 "LineBuffersModel" "down" "[I", Cond.methodLink RX6 111 yX6_passes, Cond.instanceMethod yX6_passes, Cond.selects RX6 yX6_passes yX6_passes, Cond.code yX6_passes cX6_passes 3 none, Cond.methodLink RX6 101 yX6_turns, Cond.instanceMethod yX6_turns, Cond.selects RX6 yX6_turns yX6_turns, Cond.code yX6_turns cX6_turns 4 (some .int), Cond.methodLink RX6 90 yX6_speeds, Cond.instanceMethod yX6_speeds, Cond.selects RX6 yX6_speeds yX6_speeds, Cond.code yX6_speeds cX6_speeds 5 none, Cond.methodLink RX6 84 yX6_isDown, Cond.instanceMethod yX6_isDown, Cond.selects RX6 yX6_isDown yX6_isDown, Cond.code yX6_isDown cX6_isDown 3 (some .boolean), Cond.methodLink RX6 94 yX6_leaves, Cond.instanceMethod yX6_leaves, Cond.selects RX6 yX6_leaves yX6_leaves, Cond.code yX6_leaves cX6_leaves 6 none, Cond.methodLink RX6 87 yX6_cycle]
def wsX6_madeWith_r3 : List Cond := [Cond.instanceMethod yX6_cycle, Cond.selects RX6 yX6_cycle yX6_cycle, Cond.code yX6_cycle cX6_cycle 2 (some .int), Cond.methodLink RX6 98 yX6_takes, Cond.instanceMethod yX6_takes, Cond.selects RX6 yX6_takes yX6_takes, Cond.code yX6_takes cX6_takes 4 none, Cond.methodLink RX6 141 yX6_takesBack, Cond.instanceMethod yX6_takesBack, Cond.selects RX6 yX6_takesBack yX6_takesBack, Cond.code yX6_takesBack cX6_takesBack 2 none]
def wsX6_madeWith : List Cond := .code yX6_madeWith cX6_madeWith 5 (some .int) :: ((wsX6_madeWith_r1 ++ (wsX6_madeWith_r2 ++ wsX6_madeWith_r3)) ++ wsX60)
def wsX6_areTicks : List Cond := .code yX6_areTicks cX6_areTicks 1 (some .boolean) :: ([.methodLink RX6 29 yX6_within, .static yX6_within, .initialized RX6, .code yX6_within cX6_within 3 (some .boolean)])
def wsX6_outputWith_r1 : List Cond := [Cond.methodLink RX6 58 yX6_isMachine, Cond.instanceMethod yX6_isMachine, Cond.selects RX6 yX6_isMachine yX6_isMachine, Cond.initialized RX6, Cond.code yX6_isMachine cX6_isMachine 2 (some .boolean), Cond.fieldLink RX6 7 "LineBuffersModel" "now" "[I", Cond.methodLink RX6 29 yX6_within, Cond.static yX6_within, Cond.code yX6_within cX6_within 3 (some .boolean), Cond.methodLink RX6 48 yX6_isCapacity, Cond.static yX6_isCapacity, Cond.code yX6_isCapacity cX6_isCapacity 1 (some .boolean), Cond.methodLink RX6 144 yX6_areTicks, Cond.static yX6_areTicks, Cond.code yX6_areTicks cX6_areTicks 1 (some .boolean), Cond.methodLink RX6 36 yX6_refused, Cond.instanceMethod yX6_refused, Cond.selects RX6 yX6_refused yX6_refused, Cond.code yX6_refused cX6_refused 2 (some .boolean), Cond.fieldLink RX6 25 "LineBuffersModel" "refusal" "I", Cond.methodLink RX6 147 yX6_madeWith, Cond.instanceMethod yX6_madeWith, Cond.selects RX6 yX6_madeWith yX6_madeWith, Cond.code yX6_madeWith cX6_madeWith 5 (some .int)]
def wsX6_outputWith_r2 : List Cond := [Cond.methodLink RX6 138 yX6_keeps, Cond.instanceMethod yX6_keeps, Cond.selects RX6 yX6_keeps yX6_keeps, Cond.code yX6_keeps cX6_keeps 2 none, Cond.fieldLink RX6 16 "LineBuffersModel" "aside" "[I", Cond.methodLink RX6 40 yX6_of, Cond.static yX6_of, Cond.code yX6_of cX6_of 1 (some .int), Cond.methodLink RX6 117 yX6_empties, Cond.instanceMethod yX6_empties, Cond.selects RX6 yX6_empties yX6_empties, Cond.code yX6_empties cX6_empties 4 none, Cond.methodLink RX6 114 yX6_goes, Cond.instanceMethod yX6_goes, Cond.selects RX6 yX6_goes yX6_goes, Cond.code yX6_goes cX6_goes 4 (some .int), Cond.methodLink RX6 105 yX6_made, Cond.instanceMethod yX6_made, Cond.selects RX6 yX6_made yX6_made, Cond.code yX6_made cX6_made 1 (some .int), Cond.methodLink RX6 108 yX6_laysDown, Cond.instanceMethod yX6_laysDown, Cond.selects RX6 yX6_laysDown yX6_laysDown, Cond.code yX6_laysDown cX6_laysDown 7 none]
def wsX6_outputWith_r3 : List Cond := [Cond.fieldLink RX6 22 "LineBuffersModel" "down" "[I", Cond.methodLink RX6 111 yX6_passes, Cond.instanceMethod yX6_passes, Cond.selects RX6 yX6_passes yX6_passes, Cond.code yX6_passes cX6_passes 3 none, Cond.methodLink RX6 101 yX6_turns, Cond.instanceMethod yX6_turns, Cond.selects RX6 yX6_turns yX6_turns, Cond.code yX6_turns cX6_turns 4 (some .int), Cond.methodLink RX6 90 yX6_speeds, Cond.instanceMethod yX6_speeds, Cond.selects RX6 yX6_speeds yX6_speeds, Cond.code yX6_speeds cX6_speeds 5 none, Cond.methodLink RX6 84 yX6_isDown, Cond.instanceMethod yX6_isDown, Cond.selects RX6 yX6_isDown yX6_isDown, Cond.code yX6_isDown cX6_isDown 3 (some .boolean), Cond.methodLink RX6 94 yX6_leaves, Cond.instanceMethod yX6_leaves, Cond.selects RX6 yX6_leaves yX6_leaves, Cond.code yX6_leaves cX6_leaves 6 none, Cond.methodLink RX6 87 yX6_cycle, Cond.instanceMethod yX6_cycle, Cond.selects RX6 yX6_cycle yX6_cycle]
def wsX6_outputWith_r4 : List Cond := [Cond.code yX6_cycle cX6_cycle 2 (some .int), Cond.methodLink RX6 98 yX6_takes, Cond.instanceMethod yX6_takes, Cond.selects RX6 yX6_takes yX6_takes, Cond.code yX6_takes cX6_takes 4 none, Cond.methodLink RX6 141 yX6_takesBack, Cond.instanceMethod yX6_takesBack, Cond.selects RX6 yX6_takesBack yX6_takesBack, Cond.code yX6_takesBack cX6_takesBack 2 none]
def wsX6_outputWith : List Cond := .code yX6_outputWith cX6_outputWith 4 (some .int) :: ((wsX6_outputWith_r1 ++ (wsX6_outputWith_r2 ++ (wsX6_outputWith_r3 ++ wsX6_outputWith_r4))) ++ wsX60)
def wsX6_capacityFor_r1 : List Cond := [Cond.methodLink RX6 58 yX6_isMachine, Cond.instanceMethod yX6_isMachine, Cond.selects RX6 yX6_isMachine yX6_isMachine, Cond.initialized RX6, Cond.code yX6_isMachine cX6_isMachine 2 (some .boolean), Cond.fieldLink RX6 7 "LineBuffersModel" "now" "[I", Cond.methodLink RX6 29 yX6_within, Cond.static yX6_within, Cond.code yX6_within cX6_within 3 (some .boolean), Cond.methodLink RX6 144 yX6_areTicks, Cond.static yX6_areTicks, Cond.code yX6_areTicks cX6_areTicks 1 (some .boolean), Cond.methodLink RX6 36 yX6_refused, Cond.instanceMethod yX6_refused, Cond.selects RX6 yX6_refused yX6_refused, Cond.code yX6_refused cX6_refused 2 (some .boolean), Cond.fieldLink RX6 25 "LineBuffersModel" "refusal" "I", Cond.methodLink RX6 147 yX6_madeWith, Cond.instanceMethod yX6_madeWith, Cond.selects RX6 yX6_madeWith yX6_madeWith, Cond.code yX6_madeWith cX6_madeWith 5 (some .int), Cond.methodLink RX6 138 yX6_keeps, Cond.instanceMethod yX6_keeps, Cond.selects RX6 yX6_keeps yX6_keeps]
def wsX6_capacityFor_r2 : List Cond := [Cond.code yX6_keeps cX6_keeps 2 none, Cond.fieldLink RX6 16 "LineBuffersModel" "aside" "[I", Cond.methodLink RX6 40 yX6_of, Cond.static yX6_of, Cond.code yX6_of cX6_of 1 (some .int), Cond.methodLink RX6 117 yX6_empties, Cond.instanceMethod yX6_empties, Cond.selects RX6 yX6_empties yX6_empties, Cond.code yX6_empties cX6_empties 4 none, Cond.methodLink RX6 114 yX6_goes, Cond.instanceMethod yX6_goes, Cond.selects RX6 yX6_goes yX6_goes, Cond.code yX6_goes cX6_goes 4 (some .int), Cond.methodLink RX6 105 yX6_made, Cond.instanceMethod yX6_made, Cond.selects RX6 yX6_made yX6_made, Cond.code yX6_made cX6_made 1 (some .int), Cond.methodLink RX6 108 yX6_laysDown, Cond.instanceMethod yX6_laysDown, Cond.selects RX6 yX6_laysDown yX6_laysDown, Cond.code yX6_laysDown cX6_laysDown 7 none, Cond.fieldLink RX6 22 "LineBuffersModel" "down" "[I", Cond.methodLink RX6 111 yX6_passes, Cond.instanceMethod yX6_passes]
def wsX6_capacityFor_r3 : List Cond := [Cond.selects RX6 yX6_passes yX6_passes, Cond.code yX6_passes cX6_passes 3 none, Cond.methodLink RX6 101 yX6_turns, Cond.instanceMethod yX6_turns, Cond.selects RX6 yX6_turns yX6_turns, Cond.code yX6_turns cX6_turns 4 (some .int), Cond.methodLink RX6 90 yX6_speeds, Cond.instanceMethod yX6_speeds, Cond.selects RX6 yX6_speeds yX6_speeds, Cond.code yX6_speeds cX6_speeds 5 none, Cond.methodLink RX6 84 yX6_isDown, Cond.instanceMethod yX6_isDown, Cond.selects RX6 yX6_isDown yX6_isDown, Cond.code yX6_isDown cX6_isDown 3 (some .boolean), Cond.methodLink RX6 94 yX6_leaves, Cond.instanceMethod yX6_leaves, Cond.selects RX6 yX6_leaves yX6_leaves, Cond.code yX6_leaves cX6_leaves 6 none, Cond.methodLink RX6 87 yX6_cycle, Cond.instanceMethod yX6_cycle, Cond.selects RX6 yX6_cycle yX6_cycle, Cond.code yX6_cycle cX6_cycle 2 (some .int), Cond.methodLink RX6 98 yX6_takes, Cond.instanceMethod yX6_takes]
def wsX6_capacityFor_r4 : List Cond := [Cond.selects RX6 yX6_takes yX6_takes, Cond.code yX6_takes cX6_takes 4 none, Cond.methodLink RX6 141 yX6_takesBack, Cond.instanceMethod yX6_takesBack, Cond.selects RX6 yX6_takesBack yX6_takesBack, Cond.code yX6_takesBack cX6_takesBack 2 none]
def wsX6_capacityFor : List Cond := .code yX6_capacityFor cX6_capacityFor 5 (some .int) :: ((wsX6_capacityFor_r1 ++ (wsX6_capacityFor_r2 ++ (wsX6_capacityFor_r3 ++ wsX6_capacityFor_r4))) ++ wsX60)
def wsX6_bestBuffer_r1 : List Cond := [Cond.fieldLink RX6 7 "LineBuffersModel" "now" "[I", Cond.methodLink RX6 144 yX6_areTicks, Cond.static yX6_areTicks, Cond.initialized RX6, Cond.code yX6_areTicks cX6_areTicks 1 (some .boolean), Cond.methodLink RX6 29 yX6_within, Cond.static yX6_within, Cond.code yX6_within cX6_within 3 (some .boolean), Cond.methodLink RX6 36 yX6_refused, Cond.instanceMethod yX6_refused, Cond.selects RX6 yX6_refused yX6_refused, Cond.code yX6_refused cX6_refused 2 (some .boolean), Cond.fieldLink RX6 25 "LineBuffersModel" "refusal" "I", Cond.methodLink RX6 40 yX6_of, Cond.static yX6_of, Cond.code yX6_of cX6_of 1 (some .int), Cond.methodLink RX6 147 yX6_madeWith, Cond.instanceMethod yX6_madeWith, Cond.selects RX6 yX6_madeWith yX6_madeWith, Cond.code yX6_madeWith cX6_madeWith 5 (some .int), Cond.methodLink RX6 138 yX6_keeps, Cond.instanceMethod yX6_keeps, Cond.selects RX6 yX6_keeps yX6_keeps, Cond.code yX6_keeps cX6_keeps 2 none]
def wsX6_bestBuffer_r2 : List Cond := [Cond.fieldLink RX6 16 "LineBuffersModel" "aside" "[I", Cond.methodLink RX6 117 yX6_empties, Cond.instanceMethod yX6_empties, Cond.selects RX6 yX6_empties yX6_empties, Cond.code yX6_empties cX6_empties 4 none, Cond.methodLink RX6 114 yX6_goes, Cond.instanceMethod yX6_goes, Cond.selects RX6 yX6_goes yX6_goes, Cond.code yX6_goes cX6_goes 4 (some .int), Cond.methodLink RX6 105 yX6_made, Cond.instanceMethod yX6_made, Cond.selects RX6 yX6_made yX6_made, Cond.code yX6_made cX6_made 1 (some .int), Cond.methodLink RX6 108 yX6_laysDown, Cond.instanceMethod yX6_laysDown, Cond.selects RX6 yX6_laysDown yX6_laysDown, Cond.code yX6_laysDown cX6_laysDown 7 none, Cond.fieldLink RX6 22 "LineBuffersModel" "down" "[I", Cond.methodLink RX6 111 yX6_passes, Cond.instanceMethod yX6_passes, Cond.selects RX6 yX6_passes yX6_passes, Cond.code yX6_passes cX6_passes 3 none, Cond.methodLink RX6 101 yX6_turns, Cond.instanceMethod yX6_turns]
def wsX6_bestBuffer_r3 : List Cond := [Cond.selects RX6 yX6_turns yX6_turns, Cond.code yX6_turns cX6_turns 4 (some .int), Cond.methodLink RX6 90 yX6_speeds, Cond.instanceMethod yX6_speeds, Cond.selects RX6 yX6_speeds yX6_speeds, Cond.code yX6_speeds cX6_speeds 5 none, Cond.methodLink RX6 84 yX6_isDown, Cond.instanceMethod yX6_isDown, Cond.selects RX6 yX6_isDown yX6_isDown, Cond.code yX6_isDown cX6_isDown 3 (some .boolean), Cond.methodLink RX6 94 yX6_leaves, Cond.instanceMethod yX6_leaves, Cond.selects RX6 yX6_leaves yX6_leaves, Cond.code yX6_leaves cX6_leaves 6 none, Cond.methodLink RX6 87 yX6_cycle, Cond.instanceMethod yX6_cycle, Cond.selects RX6 yX6_cycle yX6_cycle, Cond.code yX6_cycle cX6_cycle 2 (some .int), Cond.methodLink RX6 98 yX6_takes, Cond.instanceMethod yX6_takes, Cond.selects RX6 yX6_takes yX6_takes, Cond.code yX6_takes cX6_takes 4 none, Cond.methodLink RX6 141 yX6_takesBack, Cond.instanceMethod yX6_takesBack]
def wsX6_bestBuffer_r4 : List Cond := [Cond.selects RX6 yX6_takesBack yX6_takesBack, Cond.code yX6_takesBack cX6_takesBack 2 none]
def wsX6_bestBuffer : List Cond := .code yX6_bestBuffer cX6_bestBuffer 8 (some .int) :: ((wsX6_bestBuffer_r1 ++ (wsX6_bestBuffer_r2 ++ (wsX6_bestBuffer_r3 ++ wsX6_bestBuffer_r4))) ++ wsX60)
def wsX6_append : List Cond := .code yX6_append cX6_append 2 (some .int) :: ([.fieldLink RX6 151 "LineBuffersModel" "length" "I", .fieldLink RX6 19 "LineBuffersModel" "text" "[I", .methodLink RX6 29 yX6_within, .static yX6_within, .initialized RX6, .code yX6_within cX6_within 3 (some .boolean), .methodLink RX6 36 yX6_refused, .instanceMethod yX6_refused, .selects RX6 yX6_refused yX6_refused, .code yX6_refused cX6_refused 2 (some .boolean), .fieldLink RX6 25 "LineBuffersModel" "refusal" "I"] ++ wsX60)
def wsX6_clearText : List Cond := .code yX6_clearText cX6_clearText 2 (some .int) :: ([.fieldLink RX6 25 "LineBuffersModel" "refusal" "I", .fieldLink RX6 151 "LineBuffersModel" "length" "I"] ++ wsX60)
def wsX6_isAt : List Cond := .code yX6_isAt cX6_isAt 3 (some .boolean) :: ([.fieldLink RX6 154 "LineBuffersModel" "spot" "I", .fieldLink RX6 151 "LineBuffersModel" "length" "I", .fieldLink RX6 19 "LineBuffersModel" "text" "[I", .methodLink RX6 29 yX6_within, .static yX6_within, .initialized RX6, .code yX6_within cX6_within 3 (some .boolean)] ++ wsX60)
def wsX6_sign : List Cond := .code yX6_sign cX6_sign 3 (some .boolean) :: ([.fieldLink RX6 154 "LineBuffersModel" "spot" "I", .methodLink RX6 157 yX6_isAt, .instanceMethod yX6_isAt, .selects RX6 yX6_isAt yX6_isAt, .initialized RX6, .code yX6_isAt cX6_isAt 3 (some .boolean), .fieldLink RX6 151 "LineBuffersModel" "length" "I", .fieldLink RX6 19 "LineBuffersModel" "text" "[I", .methodLink RX6 29 yX6_within, .static yX6_within, .code yX6_within cX6_within 3 (some .boolean)] ++ wsX60)
def wsX6_number : List Cond := .code yX6_number cX6_number 5 (some .boolean) :: ([.fieldLink RX6 154 "LineBuffersModel" "spot" "I", .fieldLink RX6 160 "LineBuffersModel" "value" "I", .fieldLink RX6 19 "LineBuffersModel" "text" "[I", .methodLink RX6 157 yX6_isAt, .instanceMethod yX6_isAt, .selects RX6 yX6_isAt yX6_isAt, .initialized RX6, .code yX6_isAt cX6_isAt 3 (some .boolean), .fieldLink RX6 151 "LineBuffersModel" "length" "I", .methodLink RX6 29 yX6_within, .static yX6_within, .code yX6_within cX6_within 3 (some .boolean)] ++ wsX60)
def wsX6_readsMachine_r1 : List Cond := [Cond.fieldLink RX6 7 "LineBuffersModel" "now" "[I", Cond.fieldLink RX6 154 "LineBuffersModel" "spot" "I", Cond.fieldLink RX6 160 "LineBuffersModel" "value" "I", Cond.methodLink RX6 163 yX6_number, Cond.instanceMethod yX6_number, Cond.selects RX6 yX6_number yX6_number, Cond.initialized RX6, Cond.code yX6_number cX6_number 5 (some .boolean), Cond.fieldLink RX6 19 "LineBuffersModel" "text" "[I", Cond.methodLink RX6 157 yX6_isAt, Cond.instanceMethod yX6_isAt, Cond.selects RX6 yX6_isAt yX6_isAt, Cond.code yX6_isAt cX6_isAt 3 (some .boolean), Cond.fieldLink RX6 151 "LineBuffersModel" "length" "I", Cond.methodLink RX6 29 yX6_within, Cond.static yX6_within, Cond.code yX6_within cX6_within 3 (some .boolean), Cond.methodLink RX6 166 yX6_sign, Cond.instanceMethod yX6_sign, Cond.selects RX6 yX6_sign yX6_sign, Cond.code yX6_sign cX6_sign 3 (some .boolean), Cond.methodLink RX6 54 yX6_adds, Cond.instanceMethod yX6_adds, Cond.selects RX6 yX6_adds yX6_adds]
def wsX6_readsMachine_r2 : List Cond := [Cond.code yX6_adds cX6_adds 6 none, Cond.methodLink RX6 40 yX6_of, Cond.static yX6_of, Cond.code yX6_of cX6_of 1 (some .int)]
def wsX6_readsMachine : List Cond := .code yX6_readsMachine cX6_readsMachine 3 (some .boolean) :: ((wsX6_readsMachine_r1 ++ wsX6_readsMachine_r2) ++ wsX60)
def wsX6_readsMarks : List Cond := .code yX6_readsMarks cX6_readsMarks 3 (some .boolean) :: ([.fieldLink RX6 154 "LineBuffersModel" "spot" "I", .fieldLink RX6 7 "LineBuffersModel" "now" "[I", .fieldLink RX6 160 "LineBuffersModel" "value" "I", .methodLink RX6 163 yX6_number, .instanceMethod yX6_number, .selects RX6 yX6_number yX6_number, .initialized RX6, .code yX6_number cX6_number 5 (some .boolean), .fieldLink RX6 19 "LineBuffersModel" "text" "[I", .methodLink RX6 157 yX6_isAt, .instanceMethod yX6_isAt, .selects RX6 yX6_isAt yX6_isAt, .code yX6_isAt cX6_isAt 3 (some .boolean), .fieldLink RX6 151 "LineBuffersModel" "length" "I", .methodLink RX6 29 yX6_within, .static yX6_within, .code yX6_within cX6_within 3 (some .boolean), .methodLink RX6 40 yX6_of, .static yX6_of, .code yX6_of cX6_of 1 (some .int), .methodLink RX6 166 yX6_sign, .instanceMethod yX6_sign, .selects RX6 yX6_sign yX6_sign, .code yX6_sign cX6_sign 3 (some .boolean)] ++ wsX60)
def wsX6_parse_r1 : List Cond := [Cond.fieldLink RX6 25 "LineBuffersModel" "refusal" "I", Cond.fieldLink RX6 7 "LineBuffersModel" "now" "[I", Cond.fieldLink RX6 154 "LineBuffersModel" "spot" "I", Cond.fieldLink RX6 151 "LineBuffersModel" "length" "I", Cond.fieldLink RX6 19 "LineBuffersModel" "text" "[I", Cond.fieldLink RX6 16 "LineBuffersModel" "aside" "[I", Cond.methodLink RX6 138 yX6_keeps, Cond.instanceMethod yX6_keeps, Cond.selects RX6 yX6_keeps yX6_keeps, Cond.initialized RX6, Cond.code yX6_keeps cX6_keeps 2 none, Cond.methodLink RX6 169 yX6_readsMachine, Cond.instanceMethod yX6_readsMachine, Cond.selects RX6 yX6_readsMachine yX6_readsMachine, Cond.code yX6_readsMachine cX6_readsMachine 3 (some .boolean), Cond.fieldLink RX6 160 "LineBuffersModel" "value" "I", Cond.methodLink RX6 163 yX6_number, Cond.instanceMethod yX6_number, Cond.selects RX6 yX6_number yX6_number, Cond.code yX6_number cX6_number 5 (some .boolean), Cond.methodLink RX6 157 yX6_isAt, Cond.instanceMethod yX6_isAt, Cond.selects RX6 yX6_isAt yX6_isAt, Cond.code yX6_isAt cX6_isAt 3 (some .boolean)]
def wsX6_parse_r2 : List Cond := [Cond.methodLink RX6 29 yX6_within, Cond.static yX6_within, Cond.code yX6_within cX6_within 3 (some .boolean), Cond.methodLink RX6 166 yX6_sign, Cond.instanceMethod yX6_sign, Cond.selects RX6 yX6_sign yX6_sign, Cond.code yX6_sign cX6_sign 3 (some .boolean), Cond.methodLink RX6 54 yX6_adds, Cond.instanceMethod yX6_adds, Cond.selects RX6 yX6_adds yX6_adds, Cond.code yX6_adds cX6_adds 6 none, Cond.methodLink RX6 40 yX6_of, Cond.static yX6_of, Cond.code yX6_of cX6_of 1 (some .int), Cond.methodLink RX6 173 yX6_readsMarks, Cond.instanceMethod yX6_readsMarks, Cond.selects RX6 yX6_readsMarks yX6_readsMarks, Cond.code yX6_readsMarks cX6_readsMarks 3 (some .boolean), Cond.methodLink RX6 51 yX6_saves, Cond.instanceMethod yX6_saves, Cond.selects RX6 yX6_saves yX6_saves, Cond.code yX6_saves cX6_saves 2 none, Cond.fieldLink RX6 33 "LineBuffersModel" "saved" "I", Cond.fieldLink RX6 13 "LineBuffersModel" "past" "[I"]
def wsX6_parse_r3 : List Cond := [Cond.methodLink RX6 141 yX6_takesBack, Cond.instanceMethod yX6_takesBack, Cond.selects RX6 yX6_takesBack yX6_takesBack, Cond.code yX6_takesBack cX6_takesBack 2 none]
def wsX6_parse : List Cond := .code yX6_parse cX6_parse 4 (some .int) :: ((wsX6_parse_r1 ++ (wsX6_parse_r2 ++ wsX6_parse_r3)) ++ wsX60)
def wsX6_mix : List Cond := .code yX6_mix cX6_mix 2 none :: ([.constantLong RX6 176 (31), .fieldLink RX6 178 "LineBuffersModel" "hash" "J"] ++ wsX60)
def wsX6_digest_r1 : List Cond := [Cond.fieldLink RX6 25 "LineBuffersModel" "refusal" "I", Cond.constantLong RX6 181 (3109), Cond.fieldLink RX6 178 "LineBuffersModel" "hash" "J", Cond.fieldLink RX6 151 "LineBuffersModel" "length" "I", Cond.fieldLink RX6 7 "LineBuffersModel" "now" "[I", Cond.fieldLink RX6 33 "LineBuffersModel" "saved" "I", Cond.methodLink RX6 183 yX6_mix, Cond.instanceMethod yX6_mix, Cond.selects RX6 yX6_mix yX6_mix, Cond.initialized RX6, Cond.code yX6_mix cX6_mix 2 none, Cond.constantLong RX6 176 (31), Cond.methodLink RX6 105 yX6_made, Cond.instanceMethod yX6_made, Cond.selects RX6 yX6_made yX6_made, Cond.code yX6_made cX6_made 1 (some .int), Cond.methodLink RX6 40 yX6_of, Cond.static yX6_of, Cond.code yX6_of cX6_of 1 (some .int), Cond.methodLink RX6 120 yX6_tellMachine, Cond.instanceMethod yX6_tellMachine, Cond.selects RX6 yX6_tellMachine yX6_tellMachine, Cond.code yX6_tellMachine cX6_tellMachine 3 (some .int), Cond.methodLink RX6 123 yX6_bottles]
def wsX6_digest_r2 : List Cond := [Cond.instanceMethod yX6_bottles, Cond.selects RX6 yX6_bottles yX6_bottles, Cond.code yX6_bottles cX6_bottles 3 (some .int)]
def wsX6_digest : List Cond := .code yX6_digest cX6_digest 3 (some .long) :: ((wsX6_digest_r1 ++ wsX6_digest_r2) ++ wsX60)
def wsJ9_min_7cf53 : List Cond := .code yJ9_min_7cf53 cJ9_min_7cf53 2 (some .int) :: ([])
def wsL_addMachine_r1 : List Cond := [Cond.classLink RL 13 "java/lang/IllegalArgumentException", Cond.classLink RL 15 "java/lang/IllegalStateException", Cond.methodLink RL 7 yX5_addMachine, Cond.instanceMethod yX5_addMachine, Cond.selects RX5 yX5_addMachine yX5_addMachine, Cond.initialized RX5, Cond.code yX5_addMachine cX5_addMachine 4 (some .int), Cond.classLink RX5 41 "java/lang/IllegalArgumentException", Cond.initialized "java/lang/IllegalArgumentException", Cond.classLink RX5 55 "java/lang/IllegalStateException", Cond.initialized "java/lang/IllegalStateException", Cond.fieldLink RX5 10 "LineBuffers" "line" "LLineBuffers$Line;", Cond.fieldLink RX5 22 "LineBuffers" "history" "LLineBuffers$History;", Cond.methodLink RX5 33 yX5_areCycles, Cond.static yX5_areCycles, Cond.code yX5_areCycles cX5_areCycles 2 (some .boolean), Cond.methodLink RX5 37 yX5_isIn, Cond.static yX5_isIn, Cond.code yX5_isIn cX5_isIn 3 (some .boolean), Cond.methodLink RX5 60 yX1_keep, Cond.instanceMethod yX1_keep, Cond.selects RX1 yX1_keep yX1_keep, Cond.initialized RX1, Cond.code yX1_keep cX1_keep 2 none]
def wsL_addMachine_r2 : List Cond := [Cond.fieldLink RX1 18 "LineBuffers$History" "newest" "I", Cond.fieldLink RX1 11 "LineBuffers$History" "places" "[LLineBuffers$Line;", Cond.fieldLink RX1 26 "LineBuffers$History" "saved" "I", Cond.methodLink RX1 22 yX2_copy, Cond.static yX2_copy, Cond.initialized RX2, Cond.code yX2_copy cX2_copy 3 none, Cond.fieldLink RX2 23 "LineBuffers$Line" "machines" "I", Cond.fieldLink RX2 11 "LineBuffers$Line" "rows" "[[I", Cond.methodLink RX2 27 arraycopyName, Cond.native arraycopyName, Cond.static arraycopyName, Cond.initialized "java/lang/System", Cond.fieldLink RX2 19 "LineBuffers$Line" "stops" "LLineBuffers$Stops;", Cond.fieldLink RX2 37 "LineBuffers$Line" "tick" "I", Cond.methodLink RX2 33 yX4_copy, Cond.static yX4_copy, Cond.initialized RX4, Cond.code yX4_copy cX4_copy 3 none, Cond.fieldLink RX4 21 "LineBuffers$Stops" "planned" "I", Cond.fieldLink RX4 9 "LineBuffers$Stops" "machineOf" "[I", Cond.methodLink RX4 25 arraycopyName, Cond.fieldLink RX4 15 "LineBuffers$Stops" "firstOf" "[I", Cond.fieldLink RX4 18 "LineBuffers$Stops" "durationOf" "[I"]
def wsL_addMachine_r3 : List Cond := [Cond.methodLink RX5 64 yX2_join, Cond.instanceMethod yX2_join, Cond.selects RX2 yX2_join yX2_join, Cond.code yX2_join cX2_join 5 (some .int), Cond.methodLink RX2 43 yX2_empty, Cond.static yX2_empty, Cond.code yX2_empty cX2_empty 2 none]
def wsL_addMachine : List Cond := .codeWith yL_addMachine cL_addMachine 6 (some .int) [(0, 12, 15, 13), (0, 12, 19, 15)] :: ((wsL_addMachine_r1 ++ (wsL_addMachine_r2 ++ wsL_addMachine_r3)) ++ wsX50 ++ wsX20 ++ wsX10 ++ wsX40 ++ (vx_atS RX5 45 "java/lang/IllegalArgumentException" ["java/lang/RuntimeException", "java/lang/Exception"]).filter goodWord ++ (vx_atS RX5 59 "java/lang/IllegalStateException" ["java/lang/RuntimeException", "java/lang/Exception"]).filter goodWord)
def wsL_setMachine_r1 : List Cond := [Cond.classLink RL 21 "java/lang/IndexOutOfBoundsException", Cond.classLink RL 13 "java/lang/IllegalArgumentException", Cond.methodLink RL 17 yX5_setMachine, Cond.instanceMethod yX5_setMachine, Cond.selects RX5 yX5_setMachine yX5_setMachine, Cond.initialized RX5, Cond.code yX5_setMachine cX5_setMachine 7 (some .int), Cond.classLink RX5 41 "java/lang/IllegalArgumentException", Cond.initialized "java/lang/IllegalArgumentException", Cond.fieldLink RX5 22 "LineBuffers" "history" "LLineBuffers$History;", Cond.fieldLink RX5 10 "LineBuffers" "line" "LLineBuffers$Line;", Cond.methodLink RX5 68 yX5_needMachine, Cond.instanceMethod yX5_needMachine, Cond.selects RX5 yX5_needMachine yX5_needMachine, Cond.code yX5_needMachine cX5_needMachine 2 none, Cond.classLink RX5 116 "java/lang/IndexOutOfBoundsException", Cond.initialized "java/lang/IndexOutOfBoundsException", Cond.methodLink RX5 33 yX5_areCycles, Cond.static yX5_areCycles, Cond.code yX5_areCycles cX5_areCycles 2 (some .boolean), Cond.methodLink RX5 37 yX5_isIn, Cond.static yX5_isIn, Cond.code yX5_isIn cX5_isIn 3 (some .boolean), Cond.methodLink RX5 60 yX1_keep]
def wsL_setMachine_r2 : List Cond := [Cond.instanceMethod yX1_keep, Cond.selects RX1 yX1_keep yX1_keep, Cond.initialized RX1, Cond.code yX1_keep cX1_keep 2 none, Cond.fieldLink RX1 18 "LineBuffers$History" "newest" "I", Cond.fieldLink RX1 11 "LineBuffers$History" "places" "[LLineBuffers$Line;", Cond.fieldLink RX1 26 "LineBuffers$History" "saved" "I", Cond.methodLink RX1 22 yX2_copy, Cond.static yX2_copy, Cond.initialized RX2, Cond.code yX2_copy cX2_copy 3 none, Cond.fieldLink RX2 23 "LineBuffers$Line" "machines" "I", Cond.fieldLink RX2 11 "LineBuffers$Line" "rows" "[[I", Cond.methodLink RX2 27 arraycopyName, Cond.native arraycopyName, Cond.static arraycopyName, Cond.initialized "java/lang/System", Cond.fieldLink RX2 19 "LineBuffers$Line" "stops" "LLineBuffers$Stops;", Cond.fieldLink RX2 37 "LineBuffers$Line" "tick" "I", Cond.methodLink RX2 33 yX4_copy, Cond.static yX4_copy, Cond.initialized RX4, Cond.code yX4_copy cX4_copy 3 none, Cond.fieldLink RX4 21 "LineBuffers$Stops" "planned" "I"]
def wsL_setMachine_r3 : List Cond := [Cond.fieldLink RX4 9 "LineBuffers$Stops" "machineOf" "[I", Cond.methodLink RX4 25 arraycopyName, Cond.fieldLink RX4 15 "LineBuffers$Stops" "firstOf" "[I", Cond.fieldLink RX4 18 "LineBuffers$Stops" "durationOf" "[I", Cond.methodLink RX5 78 yX2_mark, Cond.instanceMethod yX2_mark, Cond.selects RX2 yX2_mark yX2_mark, Cond.code yX2_mark cX2_mark 4 none]
def wsL_setMachine : List Cond := .codeWith yL_setMachine cL_setMachine 8 (some .int) [(0, 16, 19, 21), (0, 16, 23, 13)] :: ((wsL_setMachine_r1 ++ (wsL_setMachine_r2 ++ wsL_setMachine_r3)) ++ wsX50 ++ wsX20 ++ wsX10 ++ wsX40 ++ (vx_atS RX5 45 "java/lang/IllegalArgumentException" ["java/lang/RuntimeException", "java/lang/Exception"]).filter goodWord ++ (vx_atS RX5 120 "java/lang/IndexOutOfBoundsException" ["java/lang/RuntimeException", "java/lang/Exception"]).filter goodWord)
def wsL_setCapacity_r1 : List Cond := [Cond.classLink RL 21 "java/lang/IndexOutOfBoundsException", Cond.classLink RL 13 "java/lang/IllegalArgumentException", Cond.methodLink RL 23 yX5_setCapacity, Cond.instanceMethod yX5_setCapacity, Cond.selects RX5 yX5_setCapacity yX5_setCapacity, Cond.initialized RX5, Cond.code yX5_setCapacity cX5_setCapacity 4 (some .int), Cond.classLink RX5 41 "java/lang/IllegalArgumentException", Cond.initialized "java/lang/IllegalArgumentException", Cond.fieldLink RX5 22 "LineBuffers" "history" "LLineBuffers$History;", Cond.fieldLink RX5 10 "LineBuffers" "line" "LLineBuffers$Line;", Cond.methodLink RX5 68 yX5_needMachine, Cond.instanceMethod yX5_needMachine, Cond.selects RX5 yX5_needMachine yX5_needMachine, Cond.code yX5_needMachine cX5_needMachine 2 none, Cond.classLink RX5 116 "java/lang/IndexOutOfBoundsException", Cond.initialized "java/lang/IndexOutOfBoundsException", Cond.methodLink RX5 37 yX5_isIn, Cond.static yX5_isIn, Cond.code yX5_isIn cX5_isIn 3 (some .boolean), Cond.methodLink RX5 60 yX1_keep, Cond.instanceMethod yX1_keep, Cond.selects RX1 yX1_keep yX1_keep, Cond.initialized RX1]
def wsL_setCapacity_r2 : List Cond := [Cond.code yX1_keep cX1_keep 2 none, Cond.fieldLink RX1 18 "LineBuffers$History" "newest" "I", Cond.fieldLink RX1 11 "LineBuffers$History" "places" "[LLineBuffers$Line;", Cond.fieldLink RX1 26 "LineBuffers$History" "saved" "I", Cond.methodLink RX1 22 yX2_copy, Cond.static yX2_copy, Cond.initialized RX2, Cond.code yX2_copy cX2_copy 3 none, Cond.fieldLink RX2 23 "LineBuffers$Line" "machines" "I", Cond.fieldLink RX2 11 "LineBuffers$Line" "rows" "[[I", Cond.methodLink RX2 27 arraycopyName, Cond.native arraycopyName, Cond.static arraycopyName, Cond.initialized "java/lang/System", Cond.fieldLink RX2 19 "LineBuffers$Line" "stops" "LLineBuffers$Stops;", Cond.fieldLink RX2 37 "LineBuffers$Line" "tick" "I", Cond.methodLink RX2 33 yX4_copy, Cond.static yX4_copy, Cond.initialized RX4, Cond.code yX4_copy cX4_copy 3 none, Cond.fieldLink RX4 21 "LineBuffers$Stops" "planned" "I", Cond.fieldLink RX4 9 "LineBuffers$Stops" "machineOf" "[I", Cond.methodLink RX4 25 arraycopyName, Cond.fieldLink RX4 15 "LineBuffers$Stops" "firstOf" "[I"]
def wsL_setCapacity_r3 : List Cond := [Cond.fieldLink RX4 18 "LineBuffers$Stops" "durationOf" "[I"]
def wsL_setCapacity : List Cond := .codeWith yL_setCapacity cL_setCapacity 5 (some .int) [(0, 10, 13, 21), (0, 10, 17, 13)] :: ((wsL_setCapacity_r1 ++ (wsL_setCapacity_r2 ++ wsL_setCapacity_r3)) ++ wsX50 ++ wsX20 ++ wsX10 ++ wsX40 ++ (vx_atS RX5 45 "java/lang/IllegalArgumentException" ["java/lang/RuntimeException", "java/lang/Exception"]).filter goodWord ++ (vx_atS RX5 120 "java/lang/IndexOutOfBoundsException" ["java/lang/RuntimeException", "java/lang/Exception"]).filter goodWord)
def wsL_addStop_r1 : List Cond := [Cond.classLink RL 21 "java/lang/IndexOutOfBoundsException", Cond.classLink RL 13 "java/lang/IllegalArgumentException", Cond.classLink RL 15 "java/lang/IllegalStateException", Cond.methodLink RL 27 yX5_addStop, Cond.instanceMethod yX5_addStop, Cond.selects RX5 yX5_addStop yX5_addStop, Cond.initialized RX5, Cond.code yX5_addStop cX5_addStop 4 (some .int), Cond.classLink RX5 41 "java/lang/IllegalArgumentException", Cond.initialized "java/lang/IllegalArgumentException", Cond.classLink RX5 55 "java/lang/IllegalStateException", Cond.initialized "java/lang/IllegalStateException", Cond.fieldLink RX5 10 "LineBuffers" "line" "LLineBuffers$Line;", Cond.fieldLink RX5 22 "LineBuffers" "history" "LLineBuffers$History;", Cond.methodLink RX5 68 yX5_needMachine, Cond.instanceMethod yX5_needMachine, Cond.selects RX5 yX5_needMachine yX5_needMachine, Cond.code yX5_needMachine cX5_needMachine 2 none, Cond.classLink RX5 116 "java/lang/IndexOutOfBoundsException", Cond.initialized "java/lang/IndexOutOfBoundsException", Cond.methodLink RX5 37 yX5_isIn, Cond.static yX5_isIn, Cond.code yX5_isIn cX5_isIn 3 (some .boolean), Cond.methodLink RX5 60 yX1_keep]
def wsL_addStop_r2 : List Cond := [Cond.instanceMethod yX1_keep, Cond.selects RX1 yX1_keep yX1_keep, Cond.initialized RX1, Cond.code yX1_keep cX1_keep 2 none, Cond.fieldLink RX1 18 "LineBuffers$History" "newest" "I", Cond.fieldLink RX1 11 "LineBuffers$History" "places" "[LLineBuffers$Line;", Cond.fieldLink RX1 26 "LineBuffers$History" "saved" "I", Cond.methodLink RX1 22 yX2_copy, Cond.static yX2_copy, Cond.initialized RX2, Cond.code yX2_copy cX2_copy 3 none, Cond.fieldLink RX2 23 "LineBuffers$Line" "machines" "I", Cond.fieldLink RX2 11 "LineBuffers$Line" "rows" "[[I", Cond.methodLink RX2 27 arraycopyName, Cond.native arraycopyName, Cond.static arraycopyName, Cond.initialized "java/lang/System", Cond.fieldLink RX2 19 "LineBuffers$Line" "stops" "LLineBuffers$Stops;", Cond.fieldLink RX2 37 "LineBuffers$Line" "tick" "I", Cond.methodLink RX2 33 yX4_copy, Cond.static yX4_copy, Cond.initialized RX4, Cond.code yX4_copy cX4_copy 3 none, Cond.fieldLink RX4 21 "LineBuffers$Stops" "planned" "I"]
def wsL_addStop_r3 : List Cond := [Cond.fieldLink RX4 9 "LineBuffers$Stops" "machineOf" "[I", Cond.methodLink RX4 25 arraycopyName, Cond.fieldLink RX4 15 "LineBuffers$Stops" "firstOf" "[I", Cond.fieldLink RX4 18 "LineBuffers$Stops" "durationOf" "[I", Cond.methodLink RX5 97 yX4_plan, Cond.instanceMethod yX4_plan, Cond.selects RX4 yX4_plan yX4_plan, Cond.code yX4_plan cX4_plan 4 none]
def wsL_addStop : List Cond := .codeWith yL_addStop cL_addStop 6 (some .int) [(0, 12, 15, 21), (0, 12, 19, 13), (0, 12, 23, 15)] :: ((wsL_addStop_r1 ++ (wsL_addStop_r2 ++ wsL_addStop_r3)) ++ wsX50 ++ wsX20 ++ wsX40 ++ wsX10 ++ (vx_atS RX5 45 "java/lang/IllegalArgumentException" ["java/lang/RuntimeException", "java/lang/Exception"]).filter goodWord ++ (vx_atS RX5 59 "java/lang/IllegalStateException" ["java/lang/RuntimeException", "java/lang/Exception"]).filter goodWord ++ (vx_atS RX5 120 "java/lang/IndexOutOfBoundsException" ["java/lang/RuntimeException", "java/lang/Exception"]).filter goodWord)
def wsL_addRandomStops_r1 : List Cond := [Cond.classLink RL 21 "java/lang/IndexOutOfBoundsException", Cond.classLink RL 13 "java/lang/IllegalArgumentException", Cond.classLink RL 15 "java/lang/IllegalStateException", Cond.methodLink RL 30 yX5_addRandomStops, Cond.instanceMethod yX5_addRandomStops, Cond.selects RX5 yX5_addRandomStops yX5_addRandomStops, Cond.initialized RX5, Cond.code yX5_addRandomStops cX5_addRandomStops 11 (some .int), Cond.classLink RX5 41 "java/lang/IllegalArgumentException", Cond.initialized "java/lang/IllegalArgumentException", Cond.classLink RX5 55 "java/lang/IllegalStateException", Cond.initialized "java/lang/IllegalStateException", Cond.constant RX5 100 (999999), Cond.fieldLink RX5 10 "LineBuffers" "line" "LLineBuffers$Line;", Cond.fieldLink RX5 22 "LineBuffers" "history" "LLineBuffers$History;", Cond.classLink RX5 105 RX0, Cond.instantiable RX0 1, Cond.initialized RX0, Cond.methodLink RX5 68 yX5_needMachine, Cond.instanceMethod yX5_needMachine, Cond.selects RX5 yX5_needMachine yX5_needMachine, Cond.code yX5_needMachine cX5_needMachine 2 none, Cond.classLink RX5 116 "java/lang/IndexOutOfBoundsException", Cond.initialized "java/lang/IndexOutOfBoundsException"]
def wsL_addRandomStops_r2 : List Cond := [Cond.methodLink RX5 37 yX5_isIn, Cond.static yX5_isIn, Cond.code yX5_isIn cX5_isIn 3 (some .boolean), Cond.methodLink RX5 60 yX1_keep, Cond.instanceMethod yX1_keep, Cond.selects RX1 yX1_keep yX1_keep, Cond.initialized RX1, Cond.code yX1_keep cX1_keep 2 none, Cond.fieldLink RX1 18 "LineBuffers$History" "newest" "I", Cond.fieldLink RX1 11 "LineBuffers$History" "places" "[LLineBuffers$Line;", Cond.fieldLink RX1 26 "LineBuffers$History" "saved" "I", Cond.methodLink RX1 22 yX2_copy, Cond.static yX2_copy, Cond.initialized RX2, Cond.code yX2_copy cX2_copy 3 none, Cond.fieldLink RX2 23 "LineBuffers$Line" "machines" "I", Cond.fieldLink RX2 11 "LineBuffers$Line" "rows" "[[I", Cond.methodLink RX2 27 arraycopyName, Cond.native arraycopyName, Cond.static arraycopyName, Cond.initialized "java/lang/System", Cond.fieldLink RX2 19 "LineBuffers$Line" "stops" "LLineBuffers$Stops;", Cond.fieldLink RX2 37 "LineBuffers$Line" "tick" "I", Cond.methodLink RX2 33 yX4_copy]
def wsL_addRandomStops_r3 : List Cond := [Cond.static yX4_copy, Cond.initialized RX4, Cond.code yX4_copy cX4_copy 3 none, Cond.fieldLink RX4 21 "LineBuffers$Stops" "planned" "I", Cond.fieldLink RX4 9 "LineBuffers$Stops" "machineOf" "[I", Cond.methodLink RX4 25 arraycopyName, Cond.fieldLink RX4 15 "LineBuffers$Stops" "firstOf" "[I", Cond.fieldLink RX4 18 "LineBuffers$Stops" "durationOf" "[I", Cond.methodLink RX5 107 yX0_init, Cond.instanceMethod yX0_init, Cond.code yX0_init cX0_init 2 none, Cond.methodLink RX0 1 objectInit, Cond.instanceMethod objectInit, Cond.code objectInit ⟨#[0xb1]⟩ 1 none, Cond.fieldLink RX0 7 "LineBuffers$Draws" "state" "J", Cond.methodLink RX5 109 yX0_drawBelow, Cond.instanceMethod yX0_drawBelow, Cond.selects RX0 yX0_drawBelow yX0_drawBelow, Cond.code yX0_drawBelow cX0_drawBelow 2 (some .int), Cond.constantLong RX0 13 (1103515245), Cond.constantLong RX0 15 (12345), Cond.constantLong RX0 17 (2147483648), Cond.constantLong RX0 19 (65536), Cond.methodLink RX5 97 yX4_plan]
def wsL_addRandomStops_r4 : List Cond := [Cond.instanceMethod yX4_plan, Cond.selects RX4 yX4_plan yX4_plan, Cond.code yX4_plan cX4_plan 4 none]
def wsL_addRandomStops : List Cond := .codeWith yL_addRandomStops cL_addRandomStops 8 (some .int) [(0, 16, 19, 21), (0, 16, 23, 13), (0, 16, 27, 15)] :: ((wsL_addRandomStops_r1 ++ (wsL_addRandomStops_r2 ++ (wsL_addRandomStops_r3 ++ wsL_addRandomStops_r4))) ++ wsX50 ++ wsX20 ++ wsX40 ++ wsX00 ++ wsX10 ++ (vx_atS RX5 45 "java/lang/IllegalArgumentException" ["java/lang/RuntimeException", "java/lang/Exception"]).filter goodWord ++ (vx_atS RX5 59 "java/lang/IllegalStateException" ["java/lang/RuntimeException", "java/lang/Exception"]).filter goodWord ++ (vx_atS RX5 120 "java/lang/IndexOutOfBoundsException" ["java/lang/RuntimeException", "java/lang/Exception"]).filter goodWord)
def wsL_stop : List Cond := .codeWith yL_stop cL_stop 5 (some .int) [(0, 10, 13, 21), (0, 10, 17, 13)] :: ([.classLink RL 21 "java/lang/IndexOutOfBoundsException", .classLink RL 13 "java/lang/IllegalArgumentException", .methodLink RL 33 yX5_stop, .instanceMethod yX5_stop, .selects RX5 yX5_stop yX5_stop, .initialized RX5, .code yX5_stop cX5_stop 3 (some .int), .classLink RX5 116 "java/lang/IndexOutOfBoundsException", .initialized "java/lang/IndexOutOfBoundsException", .fieldLink RX5 10 "LineBuffers" "line" "LLineBuffers$Line;", .methodLink RX5 121 yX5_needWhat, .static yX5_needWhat, .code yX5_needWhat cX5_needWhat 2 none, .classLink RX5 41 "java/lang/IllegalArgumentException", .initialized "java/lang/IllegalArgumentException", .methodLink RX5 125 yX4_value, .instanceMethod yX4_value, .selects RX4 yX4_value yX4_value, .initialized RX4, .code yX4_value cX4_value 3 (some .int), .fieldLink RX4 9 "LineBuffers$Stops" "machineOf" "[I", .fieldLink RX4 15 "LineBuffers$Stops" "firstOf" "[I", .fieldLink RX4 18 "LineBuffers$Stops" "durationOf" "[I"] ++ wsX50 ++ wsX20 ++ wsX40 ++ (vx_atS RX5 120 "java/lang/IndexOutOfBoundsException" ["java/lang/RuntimeException", "java/lang/Exception"]).filter goodWord ++ (vx_atS RX5 45 "java/lang/IllegalArgumentException" ["java/lang/RuntimeException", "java/lang/Exception"]).filter goodWord)
def wsL_run_r1 : List Cond := [Cond.classLink RL 13 "java/lang/IllegalArgumentException", Cond.classLink RL 15 "java/lang/IllegalStateException", Cond.methodLink RL 36 yX5_run, Cond.instanceMethod yX5_run, Cond.selects RX5 yX5_run yX5_run, Cond.initialized RX5, Cond.code yX5_run cX5_run 3 (some .int), Cond.classLink RX5 41 "java/lang/IllegalArgumentException", Cond.initialized "java/lang/IllegalArgumentException", Cond.classLink RX5 55 "java/lang/IllegalStateException", Cond.initialized "java/lang/IllegalStateException", Cond.fieldLink RX5 10 "LineBuffers" "line" "LLineBuffers$Line;", Cond.fieldLink RX5 22 "LineBuffers" "history" "LLineBuffers$History;", Cond.methodLink RX5 37 yX5_isIn, Cond.static yX5_isIn, Cond.code yX5_isIn cX5_isIn 3 (some .boolean), Cond.methodLink RX5 131 yX5_needMachines, Cond.instanceMethod yX5_needMachines, Cond.selects RX5 yX5_needMachines yX5_needMachines, Cond.code yX5_needMachines cX5_needMachines 2 none, Cond.methodLink RX5 60 yX1_keep, Cond.instanceMethod yX1_keep, Cond.selects RX1 yX1_keep yX1_keep, Cond.initialized RX1]
def wsL_run_r2 : List Cond := [Cond.code yX1_keep cX1_keep 2 none, Cond.fieldLink RX1 18 "LineBuffers$History" "newest" "I", Cond.fieldLink RX1 11 "LineBuffers$History" "places" "[LLineBuffers$Line;", Cond.fieldLink RX1 26 "LineBuffers$History" "saved" "I", Cond.methodLink RX1 22 yX2_copy, Cond.static yX2_copy, Cond.initialized RX2, Cond.code yX2_copy cX2_copy 3 none, Cond.fieldLink RX2 23 "LineBuffers$Line" "machines" "I", Cond.fieldLink RX2 11 "LineBuffers$Line" "rows" "[[I", Cond.methodLink RX2 27 arraycopyName, Cond.native arraycopyName, Cond.static arraycopyName, Cond.initialized "java/lang/System", Cond.fieldLink RX2 19 "LineBuffers$Line" "stops" "LLineBuffers$Stops;", Cond.fieldLink RX2 37 "LineBuffers$Line" "tick" "I", Cond.methodLink RX2 33 yX4_copy, Cond.static yX4_copy, Cond.initialized RX4, Cond.code yX4_copy cX4_copy 3 none, Cond.fieldLink RX4 21 "LineBuffers$Stops" "planned" "I", Cond.fieldLink RX4 9 "LineBuffers$Stops" "machineOf" "[I", Cond.methodLink RX4 25 arraycopyName, Cond.fieldLink RX4 15 "LineBuffers$Stops" "firstOf" "[I"]
def wsL_run_r3 : List Cond := [Cond.fieldLink RX4 18 "LineBuffers$Stops" "durationOf" "[I", Cond.methodLink RX5 136 yX2_bottlesOut, Cond.instanceMethod yX2_bottlesOut, Cond.selects RX2 yX2_bottlesOut yX2_bottlesOut, Cond.code yX2_bottlesOut cX2_bottlesOut 1 (some .int), Cond.methodLink RX5 140 yX2_pass, Cond.instanceMethod yX2_pass, Cond.selects RX2 yX2_pass yX2_pass, Cond.code yX2_pass cX2_pass 5 none, Cond.methodLink RX2 47 yX4_lookAt, Cond.instanceMethod yX4_lookAt, Cond.selects RX4 yX4_lookAt yX4_lookAt, Cond.code yX4_lookAt cX4_lookAt 6 (some .int), Cond.constant RX4 37 (2147483647), Cond.fieldLink RX4 38 "LineBuffers$Stops" "downBits" "I", Cond.methodLink RX4 41 Lib.Math.min.name, Cond.static Lib.Math.min.name, Cond.initialized "java/lang/Math", Cond.code Lib.Math.min.name Lib.Math.min.code 2 (some .int), Cond.methodLink RX2 51 yX2_takeTurn, Cond.instanceMethod yX2_takeTurn, Cond.selects RX2 yX2_takeTurn yX2_takeTurn, Cond.code yX2_takeTurn cX2_takeTurn 3 none, Cond.methodLink RX2 58 yX2_chooseSpeed]
def wsL_run_r4 : List Cond := [Cond.instanceMethod yX2_chooseSpeed, Cond.selects RX2 yX2_chooseSpeed yX2_chooseSpeed, Cond.code yX2_chooseSpeed cX2_chooseSpeed 3 none, Cond.methodLink RX2 61 yX4_isDown, Cond.instanceMethod yX4_isDown, Cond.selects RX4 yX4_isDown yX4_isDown, Cond.code yX4_isDown cX4_isDown 2 (some .boolean), Cond.methodLink RX2 65 yX2_noteTurn, Cond.static yX2_noteTurn, Cond.code yX2_noteTurn cX2_noteTurn 2 none, Cond.methodLink RX2 69 yX2_release, Cond.instanceMethod yX2_release, Cond.selects RX2 yX2_release yX2_release, Cond.code yX2_release cX2_release 4 none, Cond.methodLink RX2 75 yX2_presentCycle, Cond.static yX2_presentCycle, Cond.code yX2_presentCycle cX2_presentCycle 1 (some .int), Cond.methodLink RX2 72 yX2_takeBottle, Cond.instanceMethod yX2_takeBottle, Cond.selects RX2 yX2_takeBottle yX2_takeBottle, Cond.code yX2_takeBottle cX2_takeBottle 4 none, Cond.methodLink RX2 55 yX2_countFills, Cond.instanceMethod yX2_countFills, Cond.selects RX2 yX2_countFills yX2_countFills]
def wsL_run_r5 : List Cond := [Cond.code yX2_countFills cX2_countFills 3 none]
def wsL_run : List Cond := .codeWith yL_run cL_run 4 (some .int) [(0, 9, 12, 13), (0, 9, 15, 15)] :: ((wsL_run_r1 ++ (wsL_run_r2 ++ (wsL_run_r3 ++ (wsL_run_r4 ++ wsL_run_r5)))) ++ wsX50 ++ wsX20 ++ wsX10 ++ wsX40 ++ (vx_atS RX5 45 "java/lang/IllegalArgumentException" ["java/lang/RuntimeException", "java/lang/Exception"]).filter goodWord ++ (vx_atS RX5 59 "java/lang/IllegalStateException" ["java/lang/RuntimeException", "java/lang/Exception"]).filter goodWord)
def wsL_setting : List Cond := .codeWith yL_setting cL_setting 5 (some .int) [(0, 10, 13, 21), (0, 10, 17, 13)] :: ([.classLink RL 21 "java/lang/IndexOutOfBoundsException", .classLink RL 13 "java/lang/IllegalArgumentException", .methodLink RL 40 yX5_setting, .instanceMethod yX5_setting, .selects RX5 yX5_setting yX5_setting, .initialized RX5, .code yX5_setting cX5_setting 3 (some .int), .fieldLink RX5 10 "LineBuffers" "line" "LLineBuffers$Line;", .methodLink RX5 68 yX5_needMachine, .instanceMethod yX5_needMachine, .selects RX5 yX5_needMachine yX5_needMachine, .code yX5_needMachine cX5_needMachine 2 none, .classLink RX5 116 "java/lang/IndexOutOfBoundsException", .initialized "java/lang/IndexOutOfBoundsException", .methodLink RX5 121 yX5_needWhat, .static yX5_needWhat, .code yX5_needWhat cX5_needWhat 2 none, .classLink RX5 41 "java/lang/IllegalArgumentException", .initialized "java/lang/IllegalArgumentException"] ++ wsX50 ++ wsX20 ++ (vx_atS RX5 120 "java/lang/IndexOutOfBoundsException" ["java/lang/RuntimeException", "java/lang/Exception"]).filter goodWord ++ (vx_atS RX5 45 "java/lang/IllegalArgumentException" ["java/lang/RuntimeException", "java/lang/Exception"]).filter goodWord)
def wsL_machine : List Cond := .codeWith yL_machine cL_machine 5 (some .int) [(0, 10, 13, 21), (0, 10, 17, 13)] :: ([.classLink RL 21 "java/lang/IndexOutOfBoundsException", .classLink RL 13 "java/lang/IllegalArgumentException", .methodLink RL 43 yX5_machine, .instanceMethod yX5_machine, .selects RX5 yX5_machine yX5_machine, .initialized RX5, .code yX5_machine cX5_machine 3 (some .int), .fieldLink RX5 10 "LineBuffers" "line" "LLineBuffers$Line;", .methodLink RX5 68 yX5_needMachine, .instanceMethod yX5_needMachine, .selects RX5 yX5_needMachine yX5_needMachine, .code yX5_needMachine cX5_needMachine 2 none, .classLink RX5 116 "java/lang/IndexOutOfBoundsException", .initialized "java/lang/IndexOutOfBoundsException", .methodLink RX5 121 yX5_needWhat, .static yX5_needWhat, .code yX5_needWhat cX5_needWhat 2 none, .classLink RX5 41 "java/lang/IllegalArgumentException", .initialized "java/lang/IllegalArgumentException"] ++ wsX50 ++ wsX20 ++ (vx_atS RX5 120 "java/lang/IndexOutOfBoundsException" ["java/lang/RuntimeException", "java/lang/Exception"]).filter goodWord ++ (vx_atS RX5 45 "java/lang/IllegalArgumentException" ["java/lang/RuntimeException", "java/lang/Exception"]).filter goodWord)
def wsL_count : List Cond := .codeWith yL_count cL_count 5 (some .int) [(0, 10, 13, 21), (0, 10, 17, 13)] :: ([.classLink RL 21 "java/lang/IndexOutOfBoundsException", .classLink RL 13 "java/lang/IllegalArgumentException", .methodLink RL 46 yX5_count, .instanceMethod yX5_count, .selects RX5 yX5_count yX5_count, .initialized RX5, .code yX5_count cX5_count 3 (some .int), .fieldLink RX5 10 "LineBuffers" "line" "LLineBuffers$Line;", .methodLink RX5 68 yX5_needMachine, .instanceMethod yX5_needMachine, .selects RX5 yX5_needMachine yX5_needMachine, .code yX5_needMachine cX5_needMachine 2 none, .classLink RX5 116 "java/lang/IndexOutOfBoundsException", .initialized "java/lang/IndexOutOfBoundsException", .methodLink RX5 121 yX5_needWhat, .static yX5_needWhat, .code yX5_needWhat cX5_needWhat 2 none, .classLink RX5 41 "java/lang/IllegalArgumentException", .initialized "java/lang/IllegalArgumentException"] ++ wsX50 ++ wsX20 ++ (vx_atS RX5 120 "java/lang/IndexOutOfBoundsException" ["java/lang/RuntimeException", "java/lang/Exception"]).filter goodWord ++ (vx_atS RX5 45 "java/lang/IllegalArgumentException" ["java/lang/RuntimeException", "java/lang/Exception"]).filter goodWord)
def wsL_meanFill : List Cond := .codeWith yL_meanFill cL_meanFill 4 (some .int) [(0, 8, 11, 21)] :: ([.classLink RL 21 "java/lang/IndexOutOfBoundsException", .methodLink RL 49 yX5_meanFill, .instanceMethod yX5_meanFill, .selects RX5 yX5_meanFill yX5_meanFill, .initialized RX5, .code yX5_meanFill cX5_meanFill 2 (some .double), .fieldLink RX5 10 "LineBuffers" "line" "LLineBuffers$Line;", .methodLink RX5 68 yX5_needMachine, .instanceMethod yX5_needMachine, .selects RX5 yX5_needMachine yX5_needMachine, .code yX5_needMachine cX5_needMachine 2 none, .classLink RX5 116 "java/lang/IndexOutOfBoundsException", .initialized "java/lang/IndexOutOfBoundsException"] ++ wsX50 ++ wsX20 ++ (vx_atS RX5 120 "java/lang/IndexOutOfBoundsException" ["java/lang/RuntimeException", "java/lang/Exception"]).filter goodWord)
def wsL_bound_r1 : List Cond := [Cond.classLink RL 13 "java/lang/IllegalArgumentException", Cond.classLink RL 15 "java/lang/IllegalStateException", Cond.methodLink RL 53 yX5_bound, Cond.instanceMethod yX5_bound, Cond.selects RX5 yX5_bound yX5_bound, Cond.initialized RX5, Cond.code yX5_bound cX5_bound 2 (some .int), Cond.fieldLink RX5 10 "LineBuffers" "line" "LLineBuffers$Line;", Cond.methodLink RX5 149 yX5_needHorizon, Cond.static yX5_needHorizon, Cond.code yX5_needHorizon cX5_needHorizon 2 none, Cond.classLink RX5 41 "java/lang/IllegalArgumentException", Cond.initialized "java/lang/IllegalArgumentException", Cond.methodLink RX5 37 yX5_isIn, Cond.static yX5_isIn, Cond.code yX5_isIn cX5_isIn 3 (some .boolean), Cond.methodLink RX5 131 yX5_needMachines, Cond.instanceMethod yX5_needMachines, Cond.selects RX5 yX5_needMachines yX5_needMachines, Cond.code yX5_needMachines cX5_needMachines 2 none, Cond.classLink RX5 55 "java/lang/IllegalStateException", Cond.initialized "java/lang/IllegalStateException", Cond.methodLink RX5 152 yX2_findSlowest, Cond.instanceMethod yX2_findSlowest]
def wsL_bound_r2 : List Cond := [Cond.selects RX2 yX2_findSlowest yX2_findSlowest, Cond.initialized RX2, Cond.code yX2_findSlowest cX2_findSlowest 6 (some .int), Cond.constant RX2 81 (2147483647), Cond.fieldLink RX2 23 "LineBuffers$Line" "machines" "I", Cond.methodLink RX2 82 yX2_mostBottles, Cond.instanceMethod yX2_mostBottles, Cond.selects RX2 yX2_mostBottles yX2_mostBottles, Cond.code yX2_mostBottles cX2_mostBottles 4 (some .int), Cond.fieldLink RX2 11 "LineBuffers$Line" "rows" "[[I", Cond.methodLink RX2 86 yX2_upTicks, Cond.instanceMethod yX2_upTicks, Cond.selects RX2 yX2_upTicks yX2_upTicks, Cond.code yX2_upTicks cX2_upTicks 7 (some .int), Cond.fieldLink RX2 19 "LineBuffers$Line" "stops" "LLineBuffers$Stops;", Cond.methodLink RX2 89 Lib.Math.min.name, Cond.static Lib.Math.min.name, Cond.initialized "java/lang/Math", Cond.code Lib.Math.min.name Lib.Math.min.code 2 (some .int), Cond.methodLink RX2 47 yX4_lookAt, Cond.instanceMethod yX4_lookAt, Cond.selects RX4 yX4_lookAt yX4_lookAt, Cond.initialized RX4, Cond.code yX4_lookAt cX4_lookAt 6 (some .int)]
def wsL_bound_r3 : List Cond := [Cond.constant RX4 37 (2147483647), Cond.fieldLink RX4 38 "LineBuffers$Stops" "downBits" "I", Cond.fieldLink RX4 21 "LineBuffers$Stops" "planned" "I", Cond.fieldLink RX4 15 "LineBuffers$Stops" "firstOf" "[I", Cond.fieldLink RX4 18 "LineBuffers$Stops" "durationOf" "[I", Cond.methodLink RX4 41 Lib.Math.min.name, Cond.fieldLink RX4 9 "LineBuffers$Stops" "machineOf" "[I", Cond.methodLink RX2 61 yX4_isDown, Cond.instanceMethod yX4_isDown, Cond.selects RX4 yX4_isDown yX4_isDown, Cond.code yX4_isDown cX4_isDown 2 (some .boolean), Cond.methodLink RX5 155 yX2_mostBottles]
def wsL_bound : List Cond := .codeWith yL_bound cL_bound 4 (some .int) [(0, 9, 12, 13), (0, 9, 15, 15)] :: ((wsL_bound_r1 ++ (wsL_bound_r2 ++ wsL_bound_r3)) ++ wsX50 ++ wsX20 ++ wsX40 ++ (vx_atS RX5 45 "java/lang/IllegalArgumentException" ["java/lang/RuntimeException", "java/lang/Exception"]).filter goodWord ++ (vx_atS RX5 59 "java/lang/IllegalStateException" ["java/lang/RuntimeException", "java/lang/Exception"]).filter goodWord)
def wsL_limiting : List Cond := .codeWith yL_limiting cL_limiting 3 (some .int) [(0, 8, 11, 15)] :: ([.classLink RL 15 "java/lang/IllegalStateException", .methodLink RL 56 yX5_limiting, .instanceMethod yX5_limiting, .selects RX5 yX5_limiting yX5_limiting, .initialized RX5, .code yX5_limiting cX5_limiting 1 (some .int), .fieldLink RX5 10 "LineBuffers" "line" "LLineBuffers$Line;", .methodLink RX5 131 yX5_needMachines, .instanceMethod yX5_needMachines, .selects RX5 yX5_needMachines yX5_needMachines, .code yX5_needMachines cX5_needMachines 2 none, .classLink RX5 55 "java/lang/IllegalStateException", .initialized "java/lang/IllegalStateException", .methodLink RX5 158 yX2_findLimiting, .instanceMethod yX2_findLimiting, .selects RX2 yX2_findLimiting yX2_findLimiting, .initialized RX2, .code yX2_findLimiting cX2_findLimiting 5 (some .int), .constant RX2 81 (2147483647), .fieldLink RX2 23 "LineBuffers$Line" "machines" "I", .fieldLink RX2 11 "LineBuffers$Line" "rows" "[[I"] ++ wsX50 ++ wsX20 ++ (vx_atS RX5 59 "java/lang/IllegalStateException" ["java/lang/RuntimeException", "java/lang/Exception"]).filter goodWord)
def wsL_slowest_r1 : List Cond := [Cond.classLink RL 13 "java/lang/IllegalArgumentException", Cond.classLink RL 15 "java/lang/IllegalStateException", Cond.methodLink RL 60 yX5_slowest, Cond.instanceMethod yX5_slowest, Cond.selects RX5 yX5_slowest yX5_slowest, Cond.initialized RX5, Cond.code yX5_slowest cX5_slowest 2 (some .int), Cond.fieldLink RX5 10 "LineBuffers" "line" "LLineBuffers$Line;", Cond.methodLink RX5 149 yX5_needHorizon, Cond.static yX5_needHorizon, Cond.code yX5_needHorizon cX5_needHorizon 2 none, Cond.classLink RX5 41 "java/lang/IllegalArgumentException", Cond.initialized "java/lang/IllegalArgumentException", Cond.methodLink RX5 37 yX5_isIn, Cond.static yX5_isIn, Cond.code yX5_isIn cX5_isIn 3 (some .boolean), Cond.methodLink RX5 131 yX5_needMachines, Cond.instanceMethod yX5_needMachines, Cond.selects RX5 yX5_needMachines yX5_needMachines, Cond.code yX5_needMachines cX5_needMachines 2 none, Cond.classLink RX5 55 "java/lang/IllegalStateException", Cond.initialized "java/lang/IllegalStateException", Cond.methodLink RX5 152 yX2_findSlowest, Cond.instanceMethod yX2_findSlowest]
def wsL_slowest_r2 : List Cond := [Cond.selects RX2 yX2_findSlowest yX2_findSlowest, Cond.initialized RX2, Cond.code yX2_findSlowest cX2_findSlowest 6 (some .int), Cond.constant RX2 81 (2147483647), Cond.fieldLink RX2 23 "LineBuffers$Line" "machines" "I", Cond.methodLink RX2 82 yX2_mostBottles, Cond.instanceMethod yX2_mostBottles, Cond.selects RX2 yX2_mostBottles yX2_mostBottles, Cond.code yX2_mostBottles cX2_mostBottles 4 (some .int), Cond.fieldLink RX2 11 "LineBuffers$Line" "rows" "[[I", Cond.methodLink RX2 86 yX2_upTicks, Cond.instanceMethod yX2_upTicks, Cond.selects RX2 yX2_upTicks yX2_upTicks, Cond.code yX2_upTicks cX2_upTicks 7 (some .int), Cond.fieldLink RX2 19 "LineBuffers$Line" "stops" "LLineBuffers$Stops;", Cond.methodLink RX2 89 Lib.Math.min.name, Cond.static Lib.Math.min.name, Cond.initialized "java/lang/Math", Cond.code Lib.Math.min.name Lib.Math.min.code 2 (some .int), Cond.methodLink RX2 47 yX4_lookAt, Cond.instanceMethod yX4_lookAt, Cond.selects RX4 yX4_lookAt yX4_lookAt, Cond.initialized RX4, Cond.code yX4_lookAt cX4_lookAt 6 (some .int)]
def wsL_slowest_r3 : List Cond := [Cond.constant RX4 37 (2147483647), Cond.fieldLink RX4 38 "LineBuffers$Stops" "downBits" "I", Cond.fieldLink RX4 21 "LineBuffers$Stops" "planned" "I", Cond.fieldLink RX4 15 "LineBuffers$Stops" "firstOf" "[I", Cond.fieldLink RX4 18 "LineBuffers$Stops" "durationOf" "[I", Cond.methodLink RX4 41 Lib.Math.min.name, Cond.fieldLink RX4 9 "LineBuffers$Stops" "machineOf" "[I", Cond.methodLink RX2 61 yX4_isDown, Cond.instanceMethod yX4_isDown, Cond.selects RX4 yX4_isDown yX4_isDown, Cond.code yX4_isDown cX4_isDown 2 (some .boolean)]
def wsL_slowest : List Cond := .codeWith yL_slowest cL_slowest 4 (some .int) [(0, 9, 12, 13), (0, 9, 15, 15)] :: ((wsL_slowest_r1 ++ (wsL_slowest_r2 ++ wsL_slowest_r3)) ++ wsX50 ++ wsX20 ++ wsX40 ++ (vx_atS RX5 45 "java/lang/IllegalArgumentException" ["java/lang/RuntimeException", "java/lang/Exception"]).filter goodWord ++ (vx_atS RX5 59 "java/lang/IllegalStateException" ["java/lang/RuntimeException", "java/lang/Exception"]).filter goodWord)
def wsL_outputWith_r1 : List Cond := [Cond.classLink RL 21 "java/lang/IndexOutOfBoundsException", Cond.classLink RL 13 "java/lang/IllegalArgumentException", Cond.methodLink RL 63 yX5_outputWith, Cond.instanceMethod yX5_outputWith, Cond.selects RX5 yX5_outputWith yX5_outputWith, Cond.initialized RX5, Cond.code yX5_outputWith cX5_outputWith 4 (some .int), Cond.classLink RX5 41 "java/lang/IllegalArgumentException", Cond.initialized "java/lang/IllegalArgumentException", Cond.methodLink RX5 68 yX5_needMachine, Cond.instanceMethod yX5_needMachine, Cond.selects RX5 yX5_needMachine yX5_needMachine, Cond.code yX5_needMachine cX5_needMachine 2 none, Cond.classLink RX5 116 "java/lang/IndexOutOfBoundsException", Cond.initialized "java/lang/IndexOutOfBoundsException", Cond.fieldLink RX5 10 "LineBuffers" "line" "LLineBuffers$Line;", Cond.methodLink RX5 37 yX5_isIn, Cond.static yX5_isIn, Cond.code yX5_isIn cX5_isIn 3 (some .boolean), Cond.methodLink RX5 149 yX5_needHorizon, Cond.static yX5_needHorizon, Cond.code yX5_needHorizon cX5_needHorizon 2 none, Cond.methodLink RX5 161 yX5_tryCapacity, Cond.instanceMethod yX5_tryCapacity]
def wsL_outputWith_r2 : List Cond := [Cond.selects RX5 yX5_tryCapacity yX5_tryCapacity, Cond.code yX5_tryCapacity cX5_tryCapacity 4 (some .int), Cond.fieldLink RX5 16 "LineBuffers" "trial" "LLineBuffers$Line;", Cond.methodLink RX5 187 yX2_copy, Cond.static yX2_copy, Cond.initialized RX2, Cond.code yX2_copy cX2_copy 3 none, Cond.fieldLink RX2 23 "LineBuffers$Line" "machines" "I", Cond.fieldLink RX2 11 "LineBuffers$Line" "rows" "[[I", Cond.methodLink RX2 27 arraycopyName, Cond.native arraycopyName, Cond.static arraycopyName, Cond.initialized "java/lang/System", Cond.fieldLink RX2 19 "LineBuffers$Line" "stops" "LLineBuffers$Stops;", Cond.fieldLink RX2 37 "LineBuffers$Line" "tick" "I", Cond.methodLink RX2 33 yX4_copy, Cond.static yX4_copy, Cond.initialized RX4, Cond.code yX4_copy cX4_copy 3 none, Cond.fieldLink RX4 21 "LineBuffers$Stops" "planned" "I", Cond.fieldLink RX4 9 "LineBuffers$Stops" "machineOf" "[I", Cond.methodLink RX4 25 arraycopyName, Cond.fieldLink RX4 15 "LineBuffers$Stops" "firstOf" "[I", Cond.fieldLink RX4 18 "LineBuffers$Stops" "durationOf" "[I"]
def wsL_outputWith_r3 : List Cond := [Cond.methodLink RX5 143 yX2_beginAnew, Cond.instanceMethod yX2_beginAnew, Cond.selects RX2 yX2_beginAnew yX2_beginAnew, Cond.code yX2_beginAnew cX2_beginAnew 2 none, Cond.methodLink RX2 43 yX2_empty, Cond.static yX2_empty, Cond.code yX2_empty cX2_empty 2 none, Cond.methodLink RX5 140 yX2_pass, Cond.instanceMethod yX2_pass, Cond.selects RX2 yX2_pass yX2_pass, Cond.code yX2_pass cX2_pass 5 none, Cond.methodLink RX2 47 yX4_lookAt, Cond.instanceMethod yX4_lookAt, Cond.selects RX4 yX4_lookAt yX4_lookAt, Cond.code yX4_lookAt cX4_lookAt 6 (some .int), Cond.constant RX4 37 (2147483647), Cond.fieldLink RX4 38 "LineBuffers$Stops" "downBits" "I", Cond.methodLink RX4 41 Lib.Math.min.name, Cond.static Lib.Math.min.name, Cond.initialized "java/lang/Math", Cond.code Lib.Math.min.name Lib.Math.min.code 2 (some .int), Cond.methodLink RX2 51 yX2_takeTurn, Cond.instanceMethod yX2_takeTurn, Cond.selects RX2 yX2_takeTurn yX2_takeTurn]
def wsL_outputWith_r4 : List Cond := [Cond.code yX2_takeTurn cX2_takeTurn 3 none, Cond.methodLink RX2 58 yX2_chooseSpeed, Cond.instanceMethod yX2_chooseSpeed, Cond.selects RX2 yX2_chooseSpeed yX2_chooseSpeed, Cond.code yX2_chooseSpeed cX2_chooseSpeed 3 none, Cond.methodLink RX2 61 yX4_isDown, Cond.instanceMethod yX4_isDown, Cond.selects RX4 yX4_isDown yX4_isDown, Cond.code yX4_isDown cX4_isDown 2 (some .boolean), Cond.methodLink RX2 65 yX2_noteTurn, Cond.static yX2_noteTurn, Cond.code yX2_noteTurn cX2_noteTurn 2 none, Cond.methodLink RX2 69 yX2_release, Cond.instanceMethod yX2_release, Cond.selects RX2 yX2_release yX2_release, Cond.code yX2_release cX2_release 4 none, Cond.methodLink RX2 75 yX2_presentCycle, Cond.static yX2_presentCycle, Cond.code yX2_presentCycle cX2_presentCycle 1 (some .int), Cond.methodLink RX2 72 yX2_takeBottle, Cond.instanceMethod yX2_takeBottle, Cond.selects RX2 yX2_takeBottle yX2_takeBottle, Cond.code yX2_takeBottle cX2_takeBottle 4 none, Cond.methodLink RX2 55 yX2_countFills]
def wsL_outputWith_r5 : List Cond := [Cond.instanceMethod yX2_countFills, Cond.selects RX2 yX2_countFills yX2_countFills, Cond.code yX2_countFills cX2_countFills 3 none, Cond.methodLink RX5 136 yX2_bottlesOut, Cond.instanceMethod yX2_bottlesOut, Cond.selects RX2 yX2_bottlesOut yX2_bottlesOut, Cond.code yX2_bottlesOut cX2_bottlesOut 1 (some .int)]
def wsL_outputWith : List Cond := .codeWith yL_outputWith cL_outputWith 6 (some .int) [(0, 12, 15, 21), (0, 12, 19, 13)] :: ((wsL_outputWith_r1 ++ (wsL_outputWith_r2 ++ (wsL_outputWith_r3 ++ (wsL_outputWith_r4 ++ wsL_outputWith_r5)))) ++ wsX50 ++ wsX20 ++ wsX40 ++ (vx_atS RX5 45 "java/lang/IllegalArgumentException" ["java/lang/RuntimeException", "java/lang/Exception"]).filter goodWord ++ (vx_atS RX5 120 "java/lang/IndexOutOfBoundsException" ["java/lang/RuntimeException", "java/lang/Exception"]).filter goodWord)
def wsL_capacityFor_r1 : List Cond := [Cond.classLink RL 21 "java/lang/IndexOutOfBoundsException", Cond.classLink RL 13 "java/lang/IllegalArgumentException", Cond.methodLink RL 66 yX5_capacityFor, Cond.instanceMethod yX5_capacityFor, Cond.selects RX5 yX5_capacityFor yX5_capacityFor, Cond.initialized RX5, Cond.code yX5_capacityFor cX5_capacityFor 5 (some .int), Cond.classLink RX5 41 "java/lang/IllegalArgumentException", Cond.initialized "java/lang/IllegalArgumentException", Cond.fieldLink RX5 10 "LineBuffers" "line" "LLineBuffers$Line;", Cond.fieldLink RX5 16 "LineBuffers" "trial" "LLineBuffers$Line;", Cond.methodLink RX5 68 yX5_needMachine, Cond.instanceMethod yX5_needMachine, Cond.selects RX5 yX5_needMachine yX5_needMachine, Cond.code yX5_needMachine cX5_needMachine 2 none, Cond.classLink RX5 116 "java/lang/IndexOutOfBoundsException", Cond.initialized "java/lang/IndexOutOfBoundsException", Cond.methodLink RX5 149 yX5_needHorizon, Cond.static yX5_needHorizon, Cond.code yX5_needHorizon cX5_needHorizon 2 none, Cond.methodLink RX5 37 yX5_isIn, Cond.static yX5_isIn, Cond.code yX5_isIn cX5_isIn 3 (some .boolean), Cond.methodLink RX5 152 yX2_findSlowest]
def wsL_capacityFor_r2 : List Cond := [Cond.instanceMethod yX2_findSlowest, Cond.selects RX2 yX2_findSlowest yX2_findSlowest, Cond.initialized RX2, Cond.code yX2_findSlowest cX2_findSlowest 6 (some .int), Cond.constant RX2 81 (2147483647), Cond.fieldLink RX2 23 "LineBuffers$Line" "machines" "I", Cond.methodLink RX2 82 yX2_mostBottles, Cond.instanceMethod yX2_mostBottles, Cond.selects RX2 yX2_mostBottles yX2_mostBottles, Cond.code yX2_mostBottles cX2_mostBottles 4 (some .int), Cond.fieldLink RX2 11 "LineBuffers$Line" "rows" "[[I", Cond.methodLink RX2 86 yX2_upTicks, Cond.instanceMethod yX2_upTicks, Cond.selects RX2 yX2_upTicks yX2_upTicks, Cond.code yX2_upTicks cX2_upTicks 7 (some .int), Cond.fieldLink RX2 19 "LineBuffers$Line" "stops" "LLineBuffers$Stops;", Cond.methodLink RX2 89 Lib.Math.min.name, Cond.static Lib.Math.min.name, Cond.initialized "java/lang/Math", Cond.code Lib.Math.min.name Lib.Math.min.code 2 (some .int), Cond.methodLink RX2 47 yX4_lookAt, Cond.instanceMethod yX4_lookAt, Cond.selects RX4 yX4_lookAt yX4_lookAt, Cond.initialized RX4]
def wsL_capacityFor_r3 : List Cond := [Cond.code yX4_lookAt cX4_lookAt 6 (some .int), Cond.constant RX4 37 (2147483647), Cond.fieldLink RX4 38 "LineBuffers$Stops" "downBits" "I", Cond.fieldLink RX4 21 "LineBuffers$Stops" "planned" "I", Cond.fieldLink RX4 15 "LineBuffers$Stops" "firstOf" "[I", Cond.fieldLink RX4 18 "LineBuffers$Stops" "durationOf" "[I", Cond.methodLink RX4 41 Lib.Math.min.name, Cond.fieldLink RX4 9 "LineBuffers$Stops" "machineOf" "[I", Cond.methodLink RX2 61 yX4_isDown, Cond.instanceMethod yX4_isDown, Cond.selects RX4 yX4_isDown yX4_isDown, Cond.code yX4_isDown cX4_isDown 2 (some .boolean), Cond.methodLink RX5 155 yX2_mostBottles, Cond.methodLink RX5 161 yX5_tryCapacity, Cond.instanceMethod yX5_tryCapacity, Cond.selects RX5 yX5_tryCapacity yX5_tryCapacity, Cond.code yX5_tryCapacity cX5_tryCapacity 4 (some .int), Cond.methodLink RX5 187 yX2_copy, Cond.static yX2_copy, Cond.code yX2_copy cX2_copy 3 none, Cond.methodLink RX2 27 arraycopyName, Cond.native arraycopyName, Cond.static arraycopyName, Cond.initialized "java/lang/System"]
def wsL_capacityFor_r4 : List Cond := [Cond.fieldLink RX2 37 "LineBuffers$Line" "tick" "I", Cond.methodLink RX2 33 yX4_copy, Cond.static yX4_copy, Cond.code yX4_copy cX4_copy 3 none, Cond.methodLink RX4 25 arraycopyName, Cond.methodLink RX5 143 yX2_beginAnew, Cond.instanceMethod yX2_beginAnew, Cond.selects RX2 yX2_beginAnew yX2_beginAnew, Cond.code yX2_beginAnew cX2_beginAnew 2 none, Cond.methodLink RX2 43 yX2_empty, Cond.static yX2_empty, Cond.code yX2_empty cX2_empty 2 none, Cond.methodLink RX5 140 yX2_pass, Cond.instanceMethod yX2_pass, Cond.selects RX2 yX2_pass yX2_pass, Cond.code yX2_pass cX2_pass 5 none, Cond.methodLink RX2 51 yX2_takeTurn, Cond.instanceMethod yX2_takeTurn, Cond.selects RX2 yX2_takeTurn yX2_takeTurn, Cond.code yX2_takeTurn cX2_takeTurn 3 none, Cond.methodLink RX2 58 yX2_chooseSpeed, Cond.instanceMethod yX2_chooseSpeed, Cond.selects RX2 yX2_chooseSpeed yX2_chooseSpeed, Cond.code yX2_chooseSpeed cX2_chooseSpeed 3 none]
def wsL_capacityFor_r5 : List Cond := [Cond.methodLink RX2 65 yX2_noteTurn, Cond.static yX2_noteTurn, Cond.code yX2_noteTurn cX2_noteTurn 2 none, Cond.methodLink RX2 69 yX2_release, Cond.instanceMethod yX2_release, Cond.selects RX2 yX2_release yX2_release, Cond.code yX2_release cX2_release 4 none, Cond.methodLink RX2 75 yX2_presentCycle, Cond.static yX2_presentCycle, Cond.code yX2_presentCycle cX2_presentCycle 1 (some .int), Cond.methodLink RX2 72 yX2_takeBottle, Cond.instanceMethod yX2_takeBottle, Cond.selects RX2 yX2_takeBottle yX2_takeBottle, Cond.code yX2_takeBottle cX2_takeBottle 4 none, Cond.methodLink RX2 55 yX2_countFills, Cond.instanceMethod yX2_countFills, Cond.selects RX2 yX2_countFills yX2_countFills, Cond.code yX2_countFills cX2_countFills 3 none, Cond.methodLink RX5 136 yX2_bottlesOut, Cond.instanceMethod yX2_bottlesOut, Cond.selects RX2 yX2_bottlesOut yX2_bottlesOut, Cond.code yX2_bottlesOut cX2_bottlesOut 1 (some .int)]
def wsL_capacityFor : List Cond := .codeWith yL_capacityFor cL_capacityFor 6 (some .int) [(0, 12, 15, 21), (0, 12, 19, 13)] :: ((wsL_capacityFor_r1 ++ (wsL_capacityFor_r2 ++ (wsL_capacityFor_r3 ++ (wsL_capacityFor_r4 ++ wsL_capacityFor_r5)))) ++ wsX50 ++ wsX20 ++ wsX40 ++ (vx_atS RX5 45 "java/lang/IllegalArgumentException" ["java/lang/RuntimeException", "java/lang/Exception"]).filter goodWord ++ (vx_atS RX5 120 "java/lang/IndexOutOfBoundsException" ["java/lang/RuntimeException", "java/lang/Exception"]).filter goodWord)
def wsL_bestBuffer_r1 : List Cond := [Cond.classLink RL 13 "java/lang/IllegalArgumentException", Cond.classLink RL 15 "java/lang/IllegalStateException", Cond.methodLink RL 69 yX5_bestBuffer, Cond.instanceMethod yX5_bestBuffer, Cond.selects RX5 yX5_bestBuffer yX5_bestBuffer, Cond.initialized RX5, Cond.code yX5_bestBuffer cX5_bestBuffer 8 (some .int), Cond.classLink RX5 41 "java/lang/IllegalArgumentException", Cond.initialized "java/lang/IllegalArgumentException", Cond.fieldLink RX5 10 "LineBuffers" "line" "LLineBuffers$Line;", Cond.methodLink RX5 168 Lib.Math.min.name, Cond.static Lib.Math.min.name, Cond.initialized "java/lang/Math", Cond.code Lib.Math.min.name Lib.Math.min.code 2 (some .int), Cond.methodLink RX5 149 yX5_needHorizon, Cond.static yX5_needHorizon, Cond.code yX5_needHorizon cX5_needHorizon 2 none, Cond.methodLink RX5 37 yX5_isIn, Cond.static yX5_isIn, Cond.code yX5_isIn cX5_isIn 3 (some .boolean), Cond.methodLink RX5 131 yX5_needMachines, Cond.instanceMethod yX5_needMachines, Cond.selects RX5 yX5_needMachines yX5_needMachines, Cond.code yX5_needMachines cX5_needMachines 2 none]
def wsL_bestBuffer_r2 : List Cond := [Cond.classLink RX5 55 "java/lang/IllegalStateException", Cond.initialized "java/lang/IllegalStateException", Cond.methodLink RX5 161 yX5_tryCapacity, Cond.instanceMethod yX5_tryCapacity, Cond.selects RX5 yX5_tryCapacity yX5_tryCapacity, Cond.code yX5_tryCapacity cX5_tryCapacity 4 (some .int), Cond.fieldLink RX5 16 "LineBuffers" "trial" "LLineBuffers$Line;", Cond.methodLink RX5 187 yX2_copy, Cond.static yX2_copy, Cond.initialized RX2, Cond.code yX2_copy cX2_copy 3 none, Cond.fieldLink RX2 23 "LineBuffers$Line" "machines" "I", Cond.fieldLink RX2 11 "LineBuffers$Line" "rows" "[[I", Cond.methodLink RX2 27 arraycopyName, Cond.native arraycopyName, Cond.static arraycopyName, Cond.initialized "java/lang/System", Cond.fieldLink RX2 19 "LineBuffers$Line" "stops" "LLineBuffers$Stops;", Cond.fieldLink RX2 37 "LineBuffers$Line" "tick" "I", Cond.methodLink RX2 33 yX4_copy, Cond.static yX4_copy, Cond.initialized RX4, Cond.code yX4_copy cX4_copy 3 none, Cond.fieldLink RX4 21 "LineBuffers$Stops" "planned" "I"]
def wsL_bestBuffer_r3 : List Cond := [Cond.fieldLink RX4 9 "LineBuffers$Stops" "machineOf" "[I", Cond.methodLink RX4 25 arraycopyName, Cond.fieldLink RX4 15 "LineBuffers$Stops" "firstOf" "[I", Cond.fieldLink RX4 18 "LineBuffers$Stops" "durationOf" "[I", Cond.methodLink RX5 143 yX2_beginAnew, Cond.instanceMethod yX2_beginAnew, Cond.selects RX2 yX2_beginAnew yX2_beginAnew, Cond.code yX2_beginAnew cX2_beginAnew 2 none, Cond.methodLink RX2 43 yX2_empty, Cond.static yX2_empty, Cond.code yX2_empty cX2_empty 2 none, Cond.methodLink RX5 140 yX2_pass, Cond.instanceMethod yX2_pass, Cond.selects RX2 yX2_pass yX2_pass, Cond.code yX2_pass cX2_pass 5 none, Cond.methodLink RX2 47 yX4_lookAt, Cond.instanceMethod yX4_lookAt, Cond.selects RX4 yX4_lookAt yX4_lookAt, Cond.code yX4_lookAt cX4_lookAt 6 (some .int), Cond.constant RX4 37 (2147483647), Cond.fieldLink RX4 38 "LineBuffers$Stops" "downBits" "I", Cond.methodLink RX4 41 Lib.Math.min.name, Cond.methodLink RX2 51 yX2_takeTurn, Cond.instanceMethod yX2_takeTurn]
def wsL_bestBuffer_r4 : List Cond := [Cond.selects RX2 yX2_takeTurn yX2_takeTurn, Cond.code yX2_takeTurn cX2_takeTurn 3 none, Cond.methodLink RX2 58 yX2_chooseSpeed, Cond.instanceMethod yX2_chooseSpeed, Cond.selects RX2 yX2_chooseSpeed yX2_chooseSpeed, Cond.code yX2_chooseSpeed cX2_chooseSpeed 3 none, Cond.methodLink RX2 61 yX4_isDown, Cond.instanceMethod yX4_isDown, Cond.selects RX4 yX4_isDown yX4_isDown, Cond.code yX4_isDown cX4_isDown 2 (some .boolean), Cond.methodLink RX2 65 yX2_noteTurn, Cond.static yX2_noteTurn, Cond.code yX2_noteTurn cX2_noteTurn 2 none, Cond.methodLink RX2 69 yX2_release, Cond.instanceMethod yX2_release, Cond.selects RX2 yX2_release yX2_release, Cond.code yX2_release cX2_release 4 none, Cond.methodLink RX2 75 yX2_presentCycle, Cond.static yX2_presentCycle, Cond.code yX2_presentCycle cX2_presentCycle 1 (some .int), Cond.methodLink RX2 72 yX2_takeBottle, Cond.instanceMethod yX2_takeBottle, Cond.selects RX2 yX2_takeBottle yX2_takeBottle, Cond.code yX2_takeBottle cX2_takeBottle 4 none]
def wsL_bestBuffer_r5 : List Cond := [Cond.methodLink RX2 55 yX2_countFills, Cond.instanceMethod yX2_countFills, Cond.selects RX2 yX2_countFills yX2_countFills, Cond.code yX2_countFills cX2_countFills 3 none, Cond.methodLink RX5 136 yX2_bottlesOut, Cond.instanceMethod yX2_bottlesOut, Cond.selects RX2 yX2_bottlesOut yX2_bottlesOut, Cond.code yX2_bottlesOut cX2_bottlesOut 1 (some .int)]
def wsL_bestBuffer : List Cond := .codeWith yL_bestBuffer cL_bestBuffer 5 (some .int) [(0, 10, 13, 13), (0, 10, 17, 15)] :: ((wsL_bestBuffer_r1 ++ (wsL_bestBuffer_r2 ++ (wsL_bestBuffer_r3 ++ (wsL_bestBuffer_r4 ++ wsL_bestBuffer_r5)))) ++ wsX50 ++ wsX20 ++ wsX40 ++ (vx_atS RX5 45 "java/lang/IllegalArgumentException" ["java/lang/RuntimeException", "java/lang/Exception"]).filter goodWord ++ (vx_atS RX5 59 "java/lang/IllegalStateException" ["java/lang/RuntimeException", "java/lang/Exception"]).filter goodWord)
def wsL_append : List Cond := .codeWith yL_append cL_append 4 (some .int) [(0, 9, 12, 13), (0, 9, 15, 15)] :: ([.classLink RL 13 "java/lang/IllegalArgumentException", .classLink RL 15 "java/lang/IllegalStateException", .methodLink RL 72 yX5_append, .instanceMethod yX5_append, .selects RX5 yX5_append yX5_append, .initialized RX5, .code yX5_append cX5_append 2 (some .int), .classLink RX5 41 "java/lang/IllegalArgumentException", .initialized "java/lang/IllegalArgumentException", .classLink RX5 55 "java/lang/IllegalStateException", .initialized "java/lang/IllegalStateException", .fieldLink RX5 29 "LineBuffers" "text" "LLineBuffers$LineText;", .methodLink RX5 37 yX5_isIn, .static yX5_isIn, .code yX5_isIn cX5_isIn 3 (some .boolean), .methodLink RX5 180 yX3_put, .instanceMethod yX3_put, .selects RX3 yX3_put yX3_put, .initialized RX3, .code yX3_put cX3_put 2 none, .fieldLink RX3 15 "LineBuffers$LineText" "length" "I", .fieldLink RX3 9 "LineBuffers$LineText" "bytes" "[I"] ++ wsX50 ++ wsX30 ++ (vx_atS RX5 45 "java/lang/IllegalArgumentException" ["java/lang/RuntimeException", "java/lang/Exception"]).filter goodWord ++ (vx_atS RX5 59 "java/lang/IllegalStateException" ["java/lang/RuntimeException", "java/lang/Exception"]).filter goodWord)
def wsL_undo_r1 : List Cond := [Cond.classLink RL 15 "java/lang/IllegalStateException", Cond.methodLink RL 75 yX5_undo, Cond.instanceMethod yX5_undo, Cond.selects RX5 yX5_undo yX5_undo, Cond.initialized RX5, Cond.code yX5_undo cX5_undo 1 (some .int), Cond.classLink RX5 55 "java/lang/IllegalStateException", Cond.initialized "java/lang/IllegalStateException", Cond.fieldLink RX5 22 "LineBuffers" "history" "LLineBuffers$History;", Cond.fieldLink RX5 10 "LineBuffers" "line" "LLineBuffers$Line;", Cond.methodLink RX5 196 yX1_giveBack, Cond.instanceMethod yX1_giveBack, Cond.selects RX1 yX1_giveBack yX1_giveBack, Cond.initialized RX1, Cond.code yX1_giveBack cX1_giveBack 2 none, Cond.fieldLink RX1 26 "LineBuffers$History" "saved" "I", Cond.fieldLink RX1 11 "LineBuffers$History" "places" "[LLineBuffers$Line;", Cond.fieldLink RX1 18 "LineBuffers$History" "newest" "I", Cond.methodLink RX1 22 yX2_copy, Cond.static yX2_copy, Cond.initialized RX2, Cond.code yX2_copy cX2_copy 3 none, Cond.fieldLink RX2 23 "LineBuffers$Line" "machines" "I", Cond.fieldLink RX2 11 "LineBuffers$Line" "rows" "[[I"]
def wsL_undo_r2 : List Cond := [Cond.methodLink RX2 27 arraycopyName, Cond.native arraycopyName, Cond.static arraycopyName, Cond.initialized "java/lang/System", Cond.fieldLink RX2 19 "LineBuffers$Line" "stops" "LLineBuffers$Stops;", Cond.fieldLink RX2 37 "LineBuffers$Line" "tick" "I", Cond.methodLink RX2 33 yX4_copy, Cond.static yX4_copy, Cond.initialized RX4, Cond.code yX4_copy cX4_copy 3 none, Cond.fieldLink RX4 21 "LineBuffers$Stops" "planned" "I", Cond.fieldLink RX4 9 "LineBuffers$Stops" "machineOf" "[I", Cond.methodLink RX4 25 arraycopyName, Cond.fieldLink RX4 15 "LineBuffers$Stops" "firstOf" "[I", Cond.fieldLink RX4 18 "LineBuffers$Stops" "durationOf" "[I"]
def wsL_undo : List Cond := .codeWith yL_undo cL_undo 3 (some .int) [(0, 8, 11, 15)] :: ((wsL_undo_r1 ++ wsL_undo_r2) ++ wsX50 ++ wsX10 ++ wsX20 ++ wsX40 ++ (vx_atS RX5 59 "java/lang/IllegalStateException" ["java/lang/RuntimeException", "java/lang/Exception"]).filter goodWord)
def wsL_law0_r1 : List Cond := [Cond.classLink RL 8 RX5, Cond.instantiable RX5 4, Cond.initialized RX5, Cond.classLink RL 79 RX6, Cond.instantiable RX6 12, Cond.initialized RX6, Cond.arrayClass .long, Cond.arrayClass .double, Cond.methodLink RL 78 yX5_init, Cond.instanceMethod yX5_init, Cond.code yX5_init cX5_init 1 none, Cond.methodLink RX5 1 objectInit, Cond.instanceMethod objectInit, Cond.code objectInit ⟨#[0xb1]⟩ 1 none, Cond.classLink RX5 7 RX2, Cond.instantiable RX2 4, Cond.initialized RX2, Cond.fieldLink RX5 10 "LineBuffers" "line" "LLineBuffers$Line;", Cond.fieldLink RX5 16 "LineBuffers" "trial" "LLineBuffers$Line;", Cond.classLink RX5 19 RX1, Cond.instantiable RX1 3, Cond.initialized RX1, Cond.fieldLink RX5 22 "LineBuffers" "history" "LLineBuffers$History;", Cond.classLink RX5 26 RX3]
def wsL_law0_r2 : List Cond := [Cond.instantiable RX3 4, Cond.initialized RX3, Cond.fieldLink RX5 29 "LineBuffers" "text" "LLineBuffers$LineText;", Cond.instanceMethod yX2_init, Cond.code yX2_init cX2_init 1 none, Cond.methodLink RX2 3 objectInit, Cond.classLink RX2 9 "[[I", Cond.arrayClass .int, Cond.fieldLink RX2 11 "LineBuffers$Line" "rows" "[[I", Cond.classLink RX2 16 RX4, Cond.instantiable RX4 5, Cond.initialized RX4, Cond.fieldLink RX2 19 "LineBuffers$Line" "stops" "LLineBuffers$Stops;", Cond.instanceMethod yX4_init, Cond.code yX4_init cX4_init 1 none, Cond.methodLink RX4 3 objectInit, Cond.fieldLink RX4 9 "LineBuffers$Stops" "machineOf" "[I", Cond.fieldLink RX4 15 "LineBuffers$Stops" "firstOf" "[I", Cond.fieldLink RX4 18 "LineBuffers$Stops" "durationOf" "[I", Cond.methodLink RX5 21 yX1_init, Cond.instanceMethod yX1_init, Cond.code yX1_init cX1_init 2 none, Cond.methodLink RX1 3 objectInit, Cond.classLink RX1 9 RX2]
def wsL_law0_r3 : List Cond := [Cond.fieldLink RX1 11 "LineBuffers$History" "places" "[LLineBuffers$Line;", Cond.instanceMethod yX3_init, Cond.code yX3_init cX3_init 1 none, Cond.methodLink RX3 3 objectInit, Cond.fieldLink RX3 9 "LineBuffers$LineText" "bytes" "[I", Cond.methodLink RL 81 yX6_init, Cond.instanceMethod yX6_init, Cond.code yX6_init cX6_init 1 none, Cond.methodLink RX6 1 objectInit, Cond.fieldLink RX6 7 "LineBuffersModel" "now" "[I", Cond.fieldLink RX6 13 "LineBuffersModel" "past" "[I", Cond.fieldLink RX6 16 "LineBuffersModel" "aside" "[I", Cond.fieldLink RX6 19 "LineBuffersModel" "text" "[I", Cond.fieldLink RX6 22 "LineBuffersModel" "down" "[I", Cond.methodLink RL 82 yL_addMachine, Cond.static yL_addMachine, Cond.initialized RL, Cond.codeWith yL_addMachine cL_addMachine 6 (some .int) [(0, 12, 15, 13), (0, 12, 19, 15)], Cond.classLink RL 13 "java/lang/IllegalArgumentException", Cond.classLink RL 15 "java/lang/IllegalStateException", Cond.methodLink RL 7 yX5_addMachine, Cond.instanceMethod yX5_addMachine, Cond.selects RX5 yX5_addMachine yX5_addMachine, Cond.code yX5_addMachine cX5_addMachine 4 (some .int)]
def wsL_law0_r4 : List Cond := [Cond.classLink RX5 41 "java/lang/IllegalArgumentException", Cond.initialized "java/lang/IllegalArgumentException", Cond.classLink RX5 55 "java/lang/IllegalStateException", Cond.initialized "java/lang/IllegalStateException", Cond.methodLink RX5 33 yX5_areCycles, Cond.static yX5_areCycles, Cond.code yX5_areCycles cX5_areCycles 2 (some .boolean), Cond.methodLink RX5 37 yX5_isIn, Cond.static yX5_isIn, Cond.code yX5_isIn cX5_isIn 3 (some .boolean), Cond.methodLink RX5 60 yX1_keep, Cond.instanceMethod yX1_keep, Cond.selects RX1 yX1_keep yX1_keep, Cond.code yX1_keep cX1_keep 2 none, Cond.fieldLink RX1 18 "LineBuffers$History" "newest" "I", Cond.fieldLink RX1 26 "LineBuffers$History" "saved" "I", Cond.methodLink RX1 22 yX2_copy, Cond.static yX2_copy, Cond.code yX2_copy cX2_copy 3 none, Cond.fieldLink RX2 23 "LineBuffers$Line" "machines" "I", Cond.methodLink RX2 27 arraycopyName, Cond.native arraycopyName, Cond.static arraycopyName, Cond.initialized "java/lang/System"]
def wsL_law0_r5 : List Cond := [Cond.fieldLink RX2 37 "LineBuffers$Line" "tick" "I", Cond.methodLink RX2 33 yX4_copy, Cond.static yX4_copy, Cond.code yX4_copy cX4_copy 3 none, Cond.fieldLink RX4 21 "LineBuffers$Stops" "planned" "I", Cond.methodLink RX4 25 arraycopyName, Cond.methodLink RX5 64 yX2_join, Cond.instanceMethod yX2_join, Cond.selects RX2 yX2_join yX2_join, Cond.code yX2_join cX2_join 5 (some .int), Cond.methodLink RX2 43 yX2_empty, Cond.static yX2_empty, Cond.code yX2_empty cX2_empty 2 none, Cond.methodLink RL 87 yX6_addMachine, Cond.instanceMethod yX6_addMachine, Cond.selects RX6 yX6_addMachine yX6_addMachine, Cond.code yX6_addMachine cX6_addMachine 4 (some .int), Cond.methodLink RX6 44 yX6_areCycles, Cond.static yX6_areCycles, Cond.code yX6_areCycles cX6_areCycles 2 (some .boolean), Cond.methodLink RX6 29 yX6_within, Cond.static yX6_within, Cond.code yX6_within cX6_within 3 (some .boolean), Cond.methodLink RX6 48 yX6_isCapacity]
def wsL_law0_r6 : List Cond := [Cond.static yX6_isCapacity, Cond.code yX6_isCapacity cX6_isCapacity 1 (some .boolean), Cond.methodLink RX6 36 yX6_refused, Cond.instanceMethod yX6_refused, Cond.selects RX6 yX6_refused yX6_refused, Cond.code yX6_refused cX6_refused 2 (some .boolean), Cond.fieldLink RX6 25 "LineBuffersModel" "refusal" "I", Cond.methodLink RX6 51 yX6_saves, Cond.instanceMethod yX6_saves, Cond.selects RX6 yX6_saves yX6_saves, Cond.code yX6_saves cX6_saves 2 none, Cond.fieldLink RX6 33 "LineBuffersModel" "saved" "I", Cond.methodLink RX6 54 yX6_adds, Cond.instanceMethod yX6_adds, Cond.selects RX6 yX6_adds yX6_adds, Cond.code yX6_adds cX6_adds 6 none, Cond.methodLink RX6 40 yX6_of, Cond.static yX6_of, Cond.code yX6_of cX6_of 1 (some .int), Cond.methodLink RL 88 yX6_thrown, Cond.instanceMethod yX6_thrown, Cond.selects RX6 yX6_thrown yX6_thrown, Cond.code yX6_thrown cX6_thrown 1 (some .int), Cond.methodLink RL 91 yL_setMachine]
def wsL_law0_r7 : List Cond := [Cond.static yL_setMachine, Cond.codeWith yL_setMachine cL_setMachine 8 (some .int) [(0, 16, 19, 21), (0, 16, 23, 13)], Cond.classLink RL 21 "java/lang/IndexOutOfBoundsException", Cond.methodLink RL 17 yX5_setMachine, Cond.instanceMethod yX5_setMachine, Cond.selects RX5 yX5_setMachine yX5_setMachine, Cond.code yX5_setMachine cX5_setMachine 7 (some .int), Cond.methodLink RX5 68 yX5_needMachine, Cond.instanceMethod yX5_needMachine, Cond.selects RX5 yX5_needMachine yX5_needMachine, Cond.code yX5_needMachine cX5_needMachine 2 none, Cond.classLink RX5 116 "java/lang/IndexOutOfBoundsException", Cond.initialized "java/lang/IndexOutOfBoundsException", Cond.methodLink RX5 78 yX2_mark, Cond.instanceMethod yX2_mark, Cond.selects RX2 yX2_mark yX2_mark, Cond.code yX2_mark cX2_mark 4 none, Cond.methodLink RL 94 yX6_setMachine, Cond.instanceMethod yX6_setMachine, Cond.selects RX6 yX6_setMachine yX6_setMachine, Cond.code yX6_setMachine cX6_setMachine 8 (some .int), Cond.methodLink RX6 58 yX6_isMachine, Cond.instanceMethod yX6_isMachine, Cond.selects RX6 yX6_isMachine yX6_isMachine]
def wsL_law0_r8 : List Cond := [Cond.code yX6_isMachine cX6_isMachine 2 (some .boolean), Cond.methodLink RX6 61 yX6_areMarks, Cond.static yX6_areMarks, Cond.code yX6_areMarks cX6_areMarks 2 (some .boolean), Cond.methodLink RL 95 yL_setCapacity, Cond.static yL_setCapacity, Cond.codeWith yL_setCapacity cL_setCapacity 5 (some .int) [(0, 10, 13, 21), (0, 10, 17, 13)], Cond.methodLink RL 23 yX5_setCapacity, Cond.instanceMethod yX5_setCapacity, Cond.selects RX5 yX5_setCapacity yX5_setCapacity, Cond.code yX5_setCapacity cX5_setCapacity 4 (some .int), Cond.methodLink RL 98 yX6_setCapacity, Cond.instanceMethod yX6_setCapacity, Cond.selects RX6 yX6_setCapacity yX6_setCapacity, Cond.code yX6_setCapacity cX6_setCapacity 4 (some .int), Cond.methodLink RL 99 yL_addStop, Cond.static yL_addStop, Cond.codeWith yL_addStop cL_addStop 6 (some .int) [(0, 12, 15, 21), (0, 12, 19, 13), (0, 12, 23, 15)], Cond.methodLink RL 27 yX5_addStop, Cond.instanceMethod yX5_addStop, Cond.selects RX5 yX5_addStop yX5_addStop, Cond.code yX5_addStop cX5_addStop 4 (some .int), Cond.methodLink RX5 97 yX4_plan, Cond.instanceMethod yX4_plan]
def wsL_law0_r9 : List Cond := [Cond.selects RX4 yX4_plan yX4_plan, Cond.code yX4_plan cX4_plan 4 none, Cond.methodLink RL 101 yX6_addStop, Cond.instanceMethod yX6_addStop, Cond.selects RX6 yX6_addStop yX6_addStop, Cond.code yX6_addStop cX6_addStop 5 (some .int), Cond.methodLink RX6 64 yX6_plans, Cond.instanceMethod yX6_plans, Cond.selects RX6 yX6_plans yX6_plans, Cond.code yX6_plans cX6_plans 5 none, Cond.methodLink RL 102 yL_addRandomStops, Cond.static yL_addRandomStops, Cond.codeWith yL_addRandomStops cL_addRandomStops 8 (some .int) [(0, 16, 19, 21), (0, 16, 23, 13), (0, 16, 27, 15)], Cond.methodLink RL 30 yX5_addRandomStops, Cond.instanceMethod yX5_addRandomStops, Cond.selects RX5 yX5_addRandomStops yX5_addRandomStops, Cond.code yX5_addRandomStops cX5_addRandomStops 11 (some .int), Cond.constant RX5 100 (999999), Cond.classLink RX5 105 RX0, Cond.instantiable RX0 1, Cond.initialized RX0, Cond.methodLink RX5 107 yX0_init, Cond.instanceMethod yX0_init, Cond.code yX0_init cX0_init 2 none]
def wsL_law0_r10 : List Cond := [Cond.methodLink RX0 1 objectInit, Cond.fieldLink RX0 7 "LineBuffers$Draws" "state" "J", Cond.methodLink RX5 109 yX0_drawBelow, Cond.instanceMethod yX0_drawBelow, Cond.selects RX0 yX0_drawBelow yX0_drawBelow, Cond.code yX0_drawBelow cX0_drawBelow 2 (some .int), Cond.constantLong RX0 13 (1103515245), Cond.constantLong RX0 15 (12345), Cond.constantLong RX0 17 (2147483648), Cond.constantLong RX0 19 (65536), Cond.methodLink RL 104 yX6_addRandomStops, Cond.instanceMethod yX6_addRandomStops, Cond.selects RX6 yX6_addRandomStops yX6_addRandomStops, Cond.code yX6_addRandomStops cX6_addRandomStops 12 (some .int), Cond.constant RX6 79 (999999), Cond.fieldLink RX6 69 "LineBuffersModel" "draw" "J", Cond.methodLink RX6 80 yX6_draws, Cond.instanceMethod yX6_draws, Cond.selects RX6 yX6_draws yX6_draws, Cond.code yX6_draws cX6_draws 1 (some .int), Cond.constantLong RX6 67 (1103515245), Cond.constantLong RX6 73 (12345), Cond.constantLong RX6 75 (2147483648), Cond.constantLong RX6 77 (65536)]
def wsL_law0_r11 : List Cond := [Cond.methodLink RL 105 yX5_clearStops, Cond.instanceMethod yX5_clearStops, Cond.selects RX5 yX5_clearStops yX5_clearStops, Cond.code yX5_clearStops cX5_clearStops 1 (some .int), Cond.methodLink RX5 113 yX4_dropAfter, Cond.instanceMethod yX4_dropAfter, Cond.selects RX4 yX4_dropAfter yX4_dropAfter, Cond.code yX4_dropAfter cX4_dropAfter 4 (some .int), Cond.methodLink RX4 31 yX4_plan, Cond.methodLink RL 108 yX6_clearStops, Cond.instanceMethod yX6_clearStops, Cond.selects RX6 yX6_clearStops yX6_clearStops, Cond.code yX6_clearStops cX6_clearStops 5 (some .int), Cond.methodLink RL 109 yX5_size, Cond.instanceMethod yX5_size, Cond.selects RX5 yX5_size yX5_size, Cond.code yX5_size cX5_size 2 (some .int), Cond.methodLink RL 113 yX6_size, Cond.instanceMethod yX6_size, Cond.selects RX6 yX6_size yX6_size, Cond.code yX6_size cX6_size 2 (some .int), Cond.methodLink RL 114 yL_stop, Cond.static yL_stop, Cond.codeWith yL_stop cL_stop 5 (some .int) [(0, 10, 13, 21), (0, 10, 17, 13)]]
def wsL_law0_r12 : List Cond := [Cond.methodLink RL 33 yX5_stop, Cond.instanceMethod yX5_stop, Cond.selects RX5 yX5_stop yX5_stop, Cond.code yX5_stop cX5_stop 3 (some .int), Cond.methodLink RX5 121 yX5_needWhat, Cond.static yX5_needWhat, Cond.code yX5_needWhat cX5_needWhat 2 none, Cond.methodLink RX5 125 yX4_value, Cond.instanceMethod yX4_value, Cond.selects RX4 yX4_value yX4_value, Cond.code yX4_value cX4_value 3 (some .int), Cond.methodLink RL 116 yX6_stop, Cond.instanceMethod yX6_stop, Cond.selects RX6 yX6_stop yX6_stop, Cond.code yX6_stop cX6_stop 3 (some .int), Cond.methodLink RL 117 yL_run, Cond.static yL_run, Cond.codeWith yL_run cL_run 4 (some .int) [(0, 9, 12, 13), (0, 9, 15, 15)], Cond.methodLink RL 36 yX5_run, Cond.instanceMethod yX5_run, Cond.selects RX5 yX5_run yX5_run, Cond.code yX5_run cX5_run 3 (some .int), Cond.methodLink RX5 131 yX5_needMachines, Cond.instanceMethod yX5_needMachines]
def wsL_law0_r13 : List Cond := [Cond.selects RX5 yX5_needMachines yX5_needMachines, Cond.code yX5_needMachines cX5_needMachines 2 none, Cond.methodLink RX5 136 yX2_bottlesOut, Cond.instanceMethod yX2_bottlesOut, Cond.selects RX2 yX2_bottlesOut yX2_bottlesOut, Cond.code yX2_bottlesOut cX2_bottlesOut 1 (some .int), Cond.methodLink RX5 140 yX2_pass, Cond.instanceMethod yX2_pass, Cond.selects RX2 yX2_pass yX2_pass, Cond.code yX2_pass cX2_pass 5 none, Cond.methodLink RX2 47 yX4_lookAt, Cond.instanceMethod yX4_lookAt, Cond.selects RX4 yX4_lookAt yX4_lookAt, Cond.code yX4_lookAt cX4_lookAt 6 (some .int), Cond.constant RX4 37 (2147483647), Cond.fieldLink RX4 38 "LineBuffers$Stops" "downBits" "I", Cond.methodLink RX4 41 Lib.Math.min.name, Cond.static Lib.Math.min.name, Cond.initialized "java/lang/Math", Cond.code Lib.Math.min.name Lib.Math.min.code 2 (some .int), Cond.methodLink RX2 51 yX2_takeTurn, Cond.instanceMethod yX2_takeTurn, Cond.selects RX2 yX2_takeTurn yX2_takeTurn, Cond.code yX2_takeTurn cX2_takeTurn 3 none]
def wsL_law0_r14 : List Cond := [Cond.methodLink RX2 58 yX2_chooseSpeed, Cond.instanceMethod yX2_chooseSpeed, Cond.selects RX2 yX2_chooseSpeed yX2_chooseSpeed, Cond.code yX2_chooseSpeed cX2_chooseSpeed 3 none, Cond.methodLink RX2 61 yX4_isDown, Cond.instanceMethod yX4_isDown, Cond.selects RX4 yX4_isDown yX4_isDown, Cond.code yX4_isDown cX4_isDown 2 (some .boolean), Cond.methodLink RX2 65 yX2_noteTurn, Cond.static yX2_noteTurn, Cond.code yX2_noteTurn cX2_noteTurn 2 none, Cond.methodLink RX2 69 yX2_release, Cond.instanceMethod yX2_release, Cond.selects RX2 yX2_release yX2_release, Cond.code yX2_release cX2_release 4 none, Cond.methodLink RX2 75 yX2_presentCycle, Cond.static yX2_presentCycle, Cond.code yX2_presentCycle cX2_presentCycle 1 (some .int), Cond.methodLink RX2 72 yX2_takeBottle, Cond.instanceMethod yX2_takeBottle, Cond.selects RX2 yX2_takeBottle yX2_takeBottle, Cond.code yX2_takeBottle cX2_takeBottle 4 none, Cond.methodLink RX2 55 yX2_countFills, Cond.instanceMethod yX2_countFills]
def wsL_law0_r15 : List Cond := [Cond.selects RX2 yX2_countFills yX2_countFills, Cond.code yX2_countFills cX2_countFills 3 none, Cond.methodLink RL 120 yX6_run, Cond.instanceMethod yX6_run, Cond.selects RX6 yX6_run yX6_run, Cond.code yX6_run cX6_run 2 (some .int), Cond.methodLink RX6 114 yX6_goes, Cond.instanceMethod yX6_goes, Cond.selects RX6 yX6_goes yX6_goes, Cond.code yX6_goes cX6_goes 4 (some .int), Cond.methodLink RX6 105 yX6_made, Cond.instanceMethod yX6_made, Cond.selects RX6 yX6_made yX6_made, Cond.code yX6_made cX6_made 1 (some .int), Cond.methodLink RX6 108 yX6_laysDown, Cond.instanceMethod yX6_laysDown, Cond.selects RX6 yX6_laysDown yX6_laysDown, Cond.code yX6_laysDown cX6_laysDown 7 none, Cond.methodLink RX6 111 yX6_passes, Cond.instanceMethod yX6_passes, Cond.selects RX6 yX6_passes yX6_passes, Cond.code yX6_passes cX6_passes 3 none, Cond.methodLink RX6 101 yX6_turns, Cond.instanceMethod yX6_turns]
def wsL_law0_r16 : List Cond := [Cond.selects RX6 yX6_turns yX6_turns, Cond.code yX6_turns cX6_turns 4 (some .int), Cond.methodLink RX6 90 yX6_speeds, Cond.instanceMethod yX6_speeds, Cond.selects RX6 yX6_speeds yX6_speeds, Cond.code yX6_speeds cX6_speeds 5 none, Cond.methodLink RX6 84 yX6_isDown, Cond.instanceMethod yX6_isDown, Cond.selects RX6 yX6_isDown yX6_isDown, Cond.code yX6_isDown cX6_isDown 3 (some .boolean), Cond.methodLink RX6 94 yX6_leaves, Cond.instanceMethod yX6_leaves, Cond.selects RX6 yX6_leaves yX6_leaves, Cond.code yX6_leaves cX6_leaves 6 none, Cond.methodLink RX6 87 yX6_cycle, Cond.instanceMethod yX6_cycle, Cond.selects RX6 yX6_cycle yX6_cycle, Cond.code yX6_cycle cX6_cycle 2 (some .int), Cond.methodLink RX6 98 yX6_takes, Cond.instanceMethod yX6_takes, Cond.selects RX6 yX6_takes yX6_takes, Cond.code yX6_takes cX6_takes 4 none, Cond.methodLink RL 121 yX5_restart, Cond.instanceMethod yX5_restart]
def wsL_law0_r17 : List Cond := [Cond.selects RX5 yX5_restart yX5_restart, Cond.code yX5_restart cX5_restart 2 (some .int), Cond.methodLink RX5 143 yX2_beginAnew, Cond.instanceMethod yX2_beginAnew, Cond.selects RX2 yX2_beginAnew yX2_beginAnew, Cond.code yX2_beginAnew cX2_beginAnew 2 none, Cond.methodLink RL 124 yX6_restart, Cond.instanceMethod yX6_restart, Cond.selects RX6 yX6_restart yX6_restart, Cond.code yX6_restart cX6_restart 2 (some .int), Cond.methodLink RX6 117 yX6_empties, Cond.instanceMethod yX6_empties, Cond.selects RX6 yX6_empties yX6_empties, Cond.code yX6_empties cX6_empties 4 none, Cond.methodLink RL 125 yX5_now, Cond.instanceMethod yX5_now, Cond.selects RX5 yX5_now yX5_now, Cond.code yX5_now cX5_now 1 (some .int), Cond.methodLink RL 128 yX6_now, Cond.instanceMethod yX6_now, Cond.selects RX6 yX6_now yX6_now, Cond.code yX6_now cX6_now 1 (some .int), Cond.methodLink RL 129 yX5_output, Cond.instanceMethod yX5_output]
def wsL_law0_r18 : List Cond := [Cond.selects RX5 yX5_output yX5_output, Cond.code yX5_output cX5_output 1 (some .int), Cond.methodLink RL 132 yX6_output, Cond.instanceMethod yX6_output, Cond.selects RX6 yX6_output yX6_output, Cond.code yX6_output cX6_output 1 (some .int), Cond.methodLink RL 133 yL_setting, Cond.static yL_setting, Cond.codeWith yL_setting cL_setting 5 (some .int) [(0, 10, 13, 21), (0, 10, 17, 13)], Cond.methodLink RL 40 yX5_setting, Cond.instanceMethod yX5_setting, Cond.selects RX5 yX5_setting yX5_setting, Cond.code yX5_setting cX5_setting 3 (some .int), Cond.methodLink RL 135 yX6_setting, Cond.instanceMethod yX6_setting, Cond.selects RX6 yX6_setting yX6_setting, Cond.code yX6_setting cX6_setting 3 (some .int), Cond.methodLink RL 136 yL_machine, Cond.static yL_machine, Cond.codeWith yL_machine cL_machine 5 (some .int) [(0, 10, 13, 21), (0, 10, 17, 13)], Cond.methodLink RL 43 yX5_machine, Cond.instanceMethod yX5_machine, Cond.selects RX5 yX5_machine yX5_machine, Cond.code yX5_machine cX5_machine 3 (some .int)]
def wsL_law0_r19 : List Cond := [Cond.methodLink RL 138 yX6_machine, Cond.instanceMethod yX6_machine, Cond.selects RX6 yX6_machine yX6_machine, Cond.code yX6_machine cX6_machine 3 (some .int), Cond.methodLink RX6 120 yX6_tellMachine, Cond.instanceMethod yX6_tellMachine, Cond.selects RX6 yX6_tellMachine yX6_tellMachine, Cond.code yX6_tellMachine cX6_tellMachine 3 (some .int), Cond.methodLink RL 139 yL_count, Cond.static yL_count, Cond.codeWith yL_count cL_count 5 (some .int) [(0, 10, 13, 21), (0, 10, 17, 13)], Cond.methodLink RL 46 yX5_count, Cond.instanceMethod yX5_count, Cond.selects RX5 yX5_count yX5_count, Cond.code yX5_count cX5_count 3 (some .int), Cond.methodLink RL 141 yX6_count, Cond.instanceMethod yX6_count, Cond.selects RX6 yX6_count yX6_count, Cond.code yX6_count cX6_count 3 (some .int), Cond.methodLink RL 142 yL_meanFill, Cond.static yL_meanFill, Cond.codeWith yL_meanFill cL_meanFill 4 (some .int) [(0, 8, 11, 21)], Cond.methodLink RL 49 yX5_meanFill, Cond.instanceMethod yX5_meanFill]
def wsL_law0_r20 : List Cond := [Cond.selects RX5 yX5_meanFill yX5_meanFill, Cond.code yX5_meanFill cX5_meanFill 2 (some .double), Cond.methodLink RL 145 yX6_meanFill, Cond.instanceMethod yX6_meanFill, Cond.selects RX6 yX6_meanFill yX6_meanFill, Cond.code yX6_meanFill cX6_meanFill 2 (some .double), Cond.methodLink RL 146 yX5_inside, Cond.instanceMethod yX5_inside, Cond.selects RX5 yX5_inside yX5_inside, Cond.code yX5_inside cX5_inside 1 (some .int), Cond.methodLink RX5 146 yX2_bottlesInside, Cond.instanceMethod yX2_bottlesInside, Cond.selects RX2 yX2_bottlesInside yX2_bottlesInside, Cond.code yX2_bottlesInside cX2_bottlesInside 3 (some .int), Cond.methodLink RL 149 yX6_inside, Cond.instanceMethod yX6_inside, Cond.selects RX6 yX6_inside yX6_inside, Cond.code yX6_inside cX6_inside 1 (some .int), Cond.methodLink RX6 123 yX6_bottles, Cond.instanceMethod yX6_bottles, Cond.selects RX6 yX6_bottles yX6_bottles, Cond.code yX6_bottles cX6_bottles 3 (some .int), Cond.methodLink RL 150 yL_bound, Cond.static yL_bound]
def wsL_law0_r21 : List Cond := [Cond.codeWith yL_bound cL_bound 4 (some .int) [(0, 9, 12, 13), (0, 9, 15, 15)], Cond.methodLink RL 53 yX5_bound, Cond.instanceMethod yX5_bound, Cond.selects RX5 yX5_bound yX5_bound, Cond.code yX5_bound cX5_bound 2 (some .int), Cond.methodLink RX5 149 yX5_needHorizon, Cond.static yX5_needHorizon, Cond.code yX5_needHorizon cX5_needHorizon 2 none, Cond.methodLink RX5 152 yX2_findSlowest, Cond.instanceMethod yX2_findSlowest, Cond.selects RX2 yX2_findSlowest yX2_findSlowest, Cond.code yX2_findSlowest cX2_findSlowest 6 (some .int), Cond.constant RX2 81 (2147483647), Cond.methodLink RX2 82 yX2_mostBottles, Cond.instanceMethod yX2_mostBottles, Cond.selects RX2 yX2_mostBottles yX2_mostBottles, Cond.code yX2_mostBottles cX2_mostBottles 4 (some .int), Cond.methodLink RX2 86 yX2_upTicks, Cond.instanceMethod yX2_upTicks, Cond.selects RX2 yX2_upTicks yX2_upTicks, Cond.code yX2_upTicks cX2_upTicks 7 (some .int), Cond.methodLink RX2 89 Lib.Math.min.name, Cond.methodLink RX5 155 yX2_mostBottles, Cond.methodLink RL 152 yX6_bound]
def wsL_law0_r22 : List Cond := [Cond.instanceMethod yX6_bound, Cond.selects RX6 yX6_bound yX6_bound, Cond.code yX6_bound cX6_bound 2 (some .int), Cond.methodLink RX6 129 yX6_refusedLimit, Cond.instanceMethod yX6_refusedLimit, Cond.selects RX6 yX6_refusedLimit yX6_refusedLimit, Cond.code yX6_refusedLimit cX6_refusedLimit 2 (some .boolean), Cond.methodLink RX6 132 yX6_slowestOf, Cond.instanceMethod yX6_slowestOf, Cond.selects RX6 yX6_slowestOf yX6_slowestOf, Cond.code yX6_slowestOf cX6_slowestOf 4 (some .int), Cond.methodLink RX6 126 yX6_most, Cond.instanceMethod yX6_most, Cond.selects RX6 yX6_most yX6_most, Cond.code yX6_most cX6_most 5 (some .int), Cond.methodLink RL 153 yL_limiting, Cond.static yL_limiting, Cond.codeWith yL_limiting cL_limiting 3 (some .int) [(0, 8, 11, 15)], Cond.methodLink RL 56 yX5_limiting, Cond.instanceMethod yX5_limiting, Cond.selects RX5 yX5_limiting yX5_limiting, Cond.code yX5_limiting cX5_limiting 1 (some .int), Cond.methodLink RX5 158 yX2_findLimiting, Cond.instanceMethod yX2_findLimiting]
def wsL_law0_r23 : List Cond := [Cond.selects RX2 yX2_findLimiting yX2_findLimiting, Cond.code yX2_findLimiting cX2_findLimiting 5 (some .int), Cond.methodLink RL 156 yX6_limiting, Cond.instanceMethod yX6_limiting, Cond.selects RX6 yX6_limiting yX6_limiting, Cond.code yX6_limiting cX6_limiting 3 (some .int), Cond.methodLink RX6 135 yX6_idle, Cond.instanceMethod yX6_idle, Cond.selects RX6 yX6_idle yX6_idle, Cond.code yX6_idle cX6_idle 2 (some .int), Cond.methodLink RL 157 yL_slowest, Cond.static yL_slowest, Cond.codeWith yL_slowest cL_slowest 4 (some .int) [(0, 9, 12, 13), (0, 9, 15, 15)], Cond.methodLink RL 60 yX5_slowest, Cond.instanceMethod yX5_slowest, Cond.selects RX5 yX5_slowest yX5_slowest, Cond.code yX5_slowest cX5_slowest 2 (some .int), Cond.methodLink RL 159 yX6_slowest, Cond.instanceMethod yX6_slowest, Cond.selects RX6 yX6_slowest yX6_slowest, Cond.code yX6_slowest cX6_slowest 2 (some .int), Cond.methodLink RL 160 yL_outputWith, Cond.static yL_outputWith, Cond.codeWith yL_outputWith cL_outputWith 6 (some .int) [(0, 12, 15, 21), (0, 12, 19, 13)]]
def wsL_law0_r24 : List Cond := [Cond.methodLink RL 63 yX5_outputWith, Cond.instanceMethod yX5_outputWith, Cond.selects RX5 yX5_outputWith yX5_outputWith, Cond.code yX5_outputWith cX5_outputWith 4 (some .int), Cond.methodLink RX5 161 yX5_tryCapacity, Cond.instanceMethod yX5_tryCapacity, Cond.selects RX5 yX5_tryCapacity yX5_tryCapacity, Cond.code yX5_tryCapacity cX5_tryCapacity 4 (some .int), Cond.methodLink RX5 187 yX2_copy, Cond.methodLink RL 162 yX6_outputWith, Cond.instanceMethod yX6_outputWith, Cond.selects RX6 yX6_outputWith yX6_outputWith, Cond.code yX6_outputWith cX6_outputWith 4 (some .int), Cond.methodLink RX6 144 yX6_areTicks, Cond.static yX6_areTicks, Cond.code yX6_areTicks cX6_areTicks 1 (some .boolean), Cond.methodLink RX6 147 yX6_madeWith, Cond.instanceMethod yX6_madeWith, Cond.selects RX6 yX6_madeWith yX6_madeWith, Cond.code yX6_madeWith cX6_madeWith 5 (some .int), Cond.methodLink RX6 138 yX6_keeps, Cond.instanceMethod yX6_keeps, Cond.selects RX6 yX6_keeps yX6_keeps, Cond.code yX6_keeps cX6_keeps 2 none]
def wsL_law0_r25 : List Cond := [Cond.methodLink RX6 141 yX6_takesBack, Cond.instanceMethod yX6_takesBack, Cond.selects RX6 yX6_takesBack yX6_takesBack, Cond.code yX6_takesBack cX6_takesBack 2 none, Cond.methodLink RL 163 yL_capacityFor, Cond.static yL_capacityFor, Cond.codeWith yL_capacityFor cL_capacityFor 6 (some .int) [(0, 12, 15, 21), (0, 12, 19, 13)], Cond.methodLink RL 66 yX5_capacityFor, Cond.instanceMethod yX5_capacityFor, Cond.selects RX5 yX5_capacityFor yX5_capacityFor, Cond.code yX5_capacityFor cX5_capacityFor 5 (some .int), Cond.methodLink RL 165 yX6_capacityFor, Cond.instanceMethod yX6_capacityFor, Cond.selects RX6 yX6_capacityFor yX6_capacityFor, Cond.code yX6_capacityFor cX6_capacityFor 5 (some .int), Cond.methodLink RL 166 yL_bestBuffer, Cond.static yL_bestBuffer, Cond.codeWith yL_bestBuffer cL_bestBuffer 5 (some .int) [(0, 10, 13, 13), (0, 10, 17, 15)], Cond.methodLink RL 69 yX5_bestBuffer, Cond.instanceMethod yX5_bestBuffer, Cond.selects RX5 yX5_bestBuffer yX5_bestBuffer, Cond.code yX5_bestBuffer cX5_bestBuffer 8 (some .int), Cond.methodLink RX5 168 Lib.Math.min.name, Cond.methodLink RL 168 yX6_bestBuffer]
def wsL_law0_r26 : List Cond := [Cond.instanceMethod yX6_bestBuffer, Cond.selects RX6 yX6_bestBuffer yX6_bestBuffer, Cond.code yX6_bestBuffer cX6_bestBuffer 8 (some .int), Cond.methodLink RL 169 yL_append, Cond.static yL_append, Cond.codeWith yL_append cL_append 4 (some .int) [(0, 9, 12, 13), (0, 9, 15, 15)], Cond.methodLink RL 72 yX5_append, Cond.instanceMethod yX5_append, Cond.selects RX5 yX5_append yX5_append, Cond.code yX5_append cX5_append 2 (some .int), Cond.methodLink RX5 180 yX3_put, Cond.instanceMethod yX3_put, Cond.selects RX3 yX3_put yX3_put, Cond.code yX3_put cX3_put 2 none, Cond.fieldLink RX3 15 "LineBuffers$LineText" "length" "I", Cond.methodLink RL 171 yX6_append, Cond.instanceMethod yX6_append, Cond.selects RX6 yX6_append yX6_append, Cond.code yX6_append cX6_append 2 (some .int), Cond.fieldLink RX6 151 "LineBuffersModel" "length" "I", Cond.methodLink RL 172 yX5_clearText, Cond.instanceMethod yX5_clearText, Cond.selects RX5 yX5_clearText yX5_clearText, Cond.code yX5_clearText cX5_clearText 2 (some .int)]
def wsL_law0_r27 : List Cond := [Cond.methodLink RL 175 yX6_clearText, Cond.instanceMethod yX6_clearText, Cond.selects RX6 yX6_clearText yX6_clearText, Cond.code yX6_clearText cX6_clearText 2 (some .int), Cond.methodLink RL 176 yX5_parse, Cond.instanceMethod yX5_parse, Cond.selects RX5 yX5_parse yX5_parse, Cond.code yX5_parse cX5_parse 2 (some .int), Cond.methodLink RX5 183 yX3_readInto, Cond.instanceMethod yX3_readInto, Cond.selects RX3 yX3_readInto yX3_readInto, Cond.code yX3_readInto cX3_readInto 3 (some .int), Cond.fieldLink RX3 19 "LineBuffers$LineText" "at" "I", Cond.fieldLink RX3 22 "LineBuffers$LineText" "error" "I", Cond.methodLink RX3 25 yX2_takeApart, Cond.instanceMethod yX2_takeApart, Cond.selects RX2 yX2_takeApart yX2_takeApart, Cond.code yX2_takeApart cX2_takeApart 1 none, Cond.methodLink RX3 30 yX3_readItem, Cond.instanceMethod yX3_readItem, Cond.selects RX3 yX3_readItem yX3_readItem, Cond.code yX3_readItem cX3_readItem 3 none, Cond.methodLink RX3 34 yX3_byteAt, Cond.instanceMethod yX3_byteAt]
def wsL_law0_r28 : List Cond := [Cond.selects RX3 yX3_byteAt yX3_byteAt, Cond.code yX3_byteAt cX3_byteAt 2 (some .int), Cond.methodLink RX3 41 yX3_readMachine, Cond.instanceMethod yX3_readMachine, Cond.selects RX3 yX3_readMachine yX3_readMachine, Cond.code yX3_readMachine cX3_readMachine 5 none, Cond.methodLink RX3 47 yX3_readNumber, Cond.instanceMethod yX3_readNumber, Cond.selects RX3 yX3_readNumber yX3_readNumber, Cond.code yX3_readNumber cX3_readNumber 7 (some .int), Cond.methodLink RX3 59 yX3_isDigit, Cond.static yX3_isDigit, Cond.code yX3_isDigit cX3_isDigit 1 (some .boolean), Cond.methodLink RX3 51 yX2_join, Cond.methodLink RX3 44 yX3_readMarks, Cond.instanceMethod yX3_readMarks, Cond.selects RX3 yX3_readMarks yX3_readMarks, Cond.code yX3_readMarks cX3_readMarks 5 none, Cond.methodLink RX3 55 yX2_mark, Cond.methodLink RL 179 yX6_parse, Cond.instanceMethod yX6_parse, Cond.selects RX6 yX6_parse yX6_parse, Cond.code yX6_parse cX6_parse 4 (some .int), Cond.fieldLink RX6 154 "LineBuffersModel" "spot" "I"]
def wsL_law0_r29 : List Cond := [Cond.methodLink RX6 169 yX6_readsMachine, Cond.instanceMethod yX6_readsMachine, Cond.selects RX6 yX6_readsMachine yX6_readsMachine, Cond.code yX6_readsMachine cX6_readsMachine 3 (some .boolean), Cond.fieldLink RX6 160 "LineBuffersModel" "value" "I", Cond.methodLink RX6 163 yX6_number, Cond.instanceMethod yX6_number, Cond.selects RX6 yX6_number yX6_number, Cond.code yX6_number cX6_number 5 (some .boolean), Cond.methodLink RX6 157 yX6_isAt, Cond.instanceMethod yX6_isAt, Cond.selects RX6 yX6_isAt yX6_isAt, Cond.code yX6_isAt cX6_isAt 3 (some .boolean), Cond.methodLink RX6 166 yX6_sign, Cond.instanceMethod yX6_sign, Cond.selects RX6 yX6_sign yX6_sign, Cond.code yX6_sign cX6_sign 3 (some .boolean), Cond.methodLink RX6 173 yX6_readsMarks, Cond.instanceMethod yX6_readsMarks, Cond.selects RX6 yX6_readsMarks yX6_readsMarks, Cond.code yX6_readsMarks cX6_readsMarks 3 (some .boolean), Cond.methodLink RL 180 yL_undo, Cond.static yL_undo, Cond.codeWith yL_undo cL_undo 3 (some .int) [(0, 8, 11, 15)]]
def wsL_law0_r30 : List Cond := [Cond.methodLink RL 75 yX5_undo, Cond.instanceMethod yX5_undo, Cond.selects RX5 yX5_undo yX5_undo, Cond.code yX5_undo cX5_undo 1 (some .int), Cond.methodLink RX5 196 yX1_giveBack, Cond.instanceMethod yX1_giveBack, Cond.selects RX1 yX1_giveBack yX1_giveBack, Cond.code yX1_giveBack cX1_giveBack 2 none, Cond.methodLink RL 182 yX6_undo, Cond.instanceMethod yX6_undo, Cond.selects RX6 yX6_undo yX6_undo, Cond.code yX6_undo cX6_undo 2 (some .int), Cond.methodLink RL 183 yX5_digest, Cond.instanceMethod yX5_digest, Cond.selects RX5 yX5_digest yX5_digest, Cond.code yX5_digest cX5_digest 3 (some .long), Cond.constantLong RX5 199 (3109), Cond.constantLong RX5 201 (31), Cond.methodLink RX5 203 yX2_mixInto, Cond.instanceMethod yX2_mixInto, Cond.selects RX2 yX2_mixInto yX2_mixInto, Cond.code yX2_mixInto cX2_mixInto 7 (some .long), Cond.constantLong RX2 94 (31), Cond.methodLink RX2 96 yX2_bottlesOut]
def wsL_law0_r31 : List Cond := [Cond.methodLink RX5 207 yX4_mixInto, Cond.instanceMethod yX4_mixInto, Cond.selects RX4 yX4_mixInto yX4_mixInto, Cond.code yX4_mixInto cX4_mixInto 7 (some .long), Cond.constantLong RX4 47 (31), Cond.methodLink RX4 49 yX4_value, Cond.methodLink RL 187 yX6_digest, Cond.instanceMethod yX6_digest, Cond.selects RX6 yX6_digest yX6_digest, Cond.code yX6_digest cX6_digest 3 (some .long), Cond.constantLong RX6 181 (3109), Cond.fieldLink RX6 178 "LineBuffersModel" "hash" "J", Cond.methodLink RX6 183 yX6_mix, Cond.instanceMethod yX6_mix, Cond.selects RX6 yX6_mix yX6_mix, Cond.code yX6_mix cX6_mix 2 none, Cond.constantLong RX6 176 (31)]
def wsL_law0 : List Cond := (wsL_law0_r1 ++ (wsL_law0_r2 ++ (wsL_law0_r3 ++ (wsL_law0_r4 ++ (wsL_law0_r5 ++ (wsL_law0_r6 ++ (wsL_law0_r7 ++ (wsL_law0_r8 ++ (wsL_law0_r9 ++ (wsL_law0_r10 ++ (wsL_law0_r11 ++ (wsL_law0_r12 ++ (wsL_law0_r13 ++ (wsL_law0_r14 ++ (wsL_law0_r15 ++ (wsL_law0_r16 ++ (wsL_law0_r17 ++ (wsL_law0_r18 ++ (wsL_law0_r19 ++ (wsL_law0_r20 ++ (wsL_law0_r21 ++ (wsL_law0_r22 ++ (wsL_law0_r23 ++ (wsL_law0_r24 ++ (wsL_law0_r25 ++ (wsL_law0_r26 ++ (wsL_law0_r27 ++ (wsL_law0_r28 ++ (wsL_law0_r29 ++ (wsL_law0_r30 ++ wsL_law0_r31)))))))))))))))))))))))))))))) ++ wsX50 ++ wsX60 ++ wsX20 ++ wsX10 ++ wsX30 ++ wsX40 ++ wsX00 ++ ([] : List Cond)
def wsL_law : List Cond := wsL_law0 ++ (vx_atS RX5 45 "java/lang/IllegalArgumentException" ["java/lang/RuntimeException", "java/lang/Exception"]).filter goodWord ++ (vx_atS RX5 59 "java/lang/IllegalStateException" ["java/lang/RuntimeException", "java/lang/Exception"]).filter goodWord ++ (vx_atS RX5 120 "java/lang/IndexOutOfBoundsException" ["java/lang/RuntimeException", "java/lang/Exception"]).filter goodWord
abbrev vwCl : List vw_C := [(RX0, TX0, 1), (RX1, TX1, 3), (RX2, TX2, 4), (RX3, TX3, 4), (RX4, TX4, 5), (RX5, TX5, 4), (RX6, TX6, 12)]
end
section
/-! THE BASE: names for values, guards, the world as one function of the state, derived rows over it -/
def lt_ {α β : Type} (a : α) (f : α → β) : β := f a
theorem lt_out {α β : Type} {a : α} {f : α → β} {r : β} (h : lt_ a f = r) : ∃ x, x = a ∧ f x = r := ⟨a, rfl, h⟩
def gd {α : Type} (b : Bool) (x : Option α) : Option α := match b with
  | true => x
  | false => none
theorem gd_out {α : Type} {b : Bool} {x : Option α} {r : α} (h : gd b x = some r) : b = true ∧ x = some r := by
  cases b
  · cases h
  · exact ⟨rfl, h⟩
def bd {α β : Type} (o : Option α) (f : α → Option β) : Option β := match o with
  | some a => f a
  | none => none
theorem bd_out {α β : Type} {o : Option α} {f : α → Option β} {r : β} (h : bd o f = some r) : ∃ a, o = some a ∧ f a = some r := by
  cases o
  · cases h
  · exact ⟨_, rfl, h⟩
theorem if_t {α : Type} {c : Prop} [Decidable c] {a b r : α} (hc : c) (h : (if c then a else b) = r) : a = r := by
  rw [if_pos hc] at h
  exact h
theorem if_f {α : Type} {c : Prop} [Decidable c] {a b r : α} (hc : ¬ c) (h : (if c then a else b) = r) : b = r := by
  rw [if_neg hc] at h
  exact h
def chk (i : Int32) (n : Nat) : Bool := decide (0 ≤ i.toInt ∧ i.toInt < n)
theorem chk_in {i : Int32} {n : Nat} (h : chk i n = true) : vp_in i n := vp_in_iff.mpr (of_decide_eq_true h)
def nz (i : Int32) : Bool := decide (i ≠ 0)
theorem nz_ne {i : Int32} (h : nz i = true) : ¬ i = 0 := of_decide_eq_true h
def nzl (i : Int64) : Bool := decide (i ≠ 0)
theorem nzl_ne {i : Int64} (h : nzl i = true) : ¬ i = 0 := of_decide_eq_true h
def isB (i : Int32) : Bool := decide (i = 0 ∨ i = 1)
theorem isB_nar {i : Int32} (h : isB i = true) : narrow .boolean (.int i) = .int i := by
  rcases of_decide_eq_true h with h | h <;> (subst h; rfl)
def sx {α β : Type} (r : Sum α Nat) (f : α → Option β) (g : Nat → Option β) : Option β := match r with
  | .inl a => f a
  | .inr c => g c
/-- a component of the state: cell, place -/
abbrev SL : Type := Nat → Nat → Int32
def up2 (L : SL) (k j : Nat) (v : Int32) : SL := va_up L k (upd (L k) j v)
theorem up_id {α : Type} (f : Nat → α) (k : Nat) : va_up f k (f k) = f := by
  funext j
  by_cases h : j = k
  · subst h; rw [va_up_self]
  · rw [va_up_ne _ _ h]
/-! the world: 97 cells, at the addresses ad; 0..4 the object and what is its own, 5..88 six lines of fourteen cells, 89..94 the reference, 95 and 96 the law's two arrays -/
def wE5 (cs : Nat → ClassId) (ad : Nat → Nat) (Hs T : SL) (p : Nat) : va_E :=
  if p = 0 then .inr (5, [.ref (ad (5 + 14 * 0 + 0)), .ref (ad (5 + 14 * 1 + 0)), .ref (ad 1), .ref (ad 3)])
  else if p = 1 then .inr (1, [.ref (ad 2), .int (Hs 0 1), .int (Hs 0 2)])
  else if p = 2 then .inl (cs 1, 4, .inr (.inr (.inr (.inr (fun j => some (ad (5 + 14 * (2 + j) + 0)))))))
  else if p = 3 then .inr (3, [.ref (ad 4), .int (T 0 1), .int (T 0 2), .int (T 0 3)])
  else .inl (cs 0, 120, .inl (T 1))
def wEL (cs : Nat → ClassId) (ad : Nat → Nat) (i k : Nat) (f : Nat → Int32) : va_E :=
  if k = 0 then .inr (2, [.ref (ad (5 + 14 * i + 1)), .ref (ad (5 + 14 * i + 10)), .int (f 2), .int (f 3)])
  else if k = 1 then .inl (cs 2, 8, .inr (.inr (.inr (.inr (fun m => some (ad (5 + 14 * i + (2 + m))))))))
  else if k < 10 then .inl (cs 0, 16, .inl f)
  else if k = 10 then .inr (4, [.ref (ad (5 + 14 * i + 11)), .ref (ad (5 + 14 * i + 12)), .ref (ad (5 + 14 * i + 13)), .int (f 3), .int (f 4)])
  else .inl (cs 0, 40, .inl f)
def mLen (k : Nat) : Nat := if k = 1 then 251 else if k = 2 then 1004 else if k = 3 then 251 else if k = 4 then 120 else 10001
def wEM (cs : Nat → ClassId) (ad : Nat → Nat) (dr hs : Int64) (k : Nat) (f : Nat → Int32) : va_E :=
  if k = 0 then .inr (6, [.ref (ad (89 + 1)), .ref (ad (89 + 2)), .ref (ad (89 + 3)), .int (f 3), .int (f 4), .ref (ad (89 + 4)), .int (f 6), .ref (ad (89 + 5)), .long dr, .int (f 9), .int (f 10), .long hs])
  else .inl (cs 0, mLen k, .inl f)
def wE (cs : Nat → ClassId) (ad : Nat → Nat) (Ls : Nat → SL) (Hs T M : SL) (dr hs o : Int64) (od : UInt64) (p : Nat) : va_E :=
  if p < 5 then wE5 cs ad Hs T p
  else if p < 89 then wEL cs ad ((p - 5) / 14) ((p - 5) % 14) (Ls ((p - 5) / 14) ((p - 5) % 14))
  else if p < 95 then wEM cs ad dr hs (p - 89) (M (p - 89))
  else if p = 95 then .inl (cs 3, 1, .inr (.inl (fun _ => o)))
  else .inl (cs 4, 1, .inr (.inr (.inr (.inl (fun _ => od)))))
def wMk (ad : Nat → Nat) (F : Nat → va_E) : va_W := (List.range 97).map (fun p => (ad p, F p))
abbrev wA (cs : Nat → ClassId) (ad : Nat → Nat) (Ls : Nat → SL) (Hs T M : SL) (dr hs o : Int64) (od : UInt64) : va_W := wMk ad (wE cs ad Ls Hs T M dr hs o od)
def adOK (ad : Nat → Nat) : Prop := ∀ i j : Nat, i < 97 → j < 97 → ad i = ad j → i = j
/-- which cells a method may change: the world's, and those that it makes -/
def Afr (ad : Nat → Nat) (sz : Nat) : Nat → Prop := fun q => (∃ p : Nat, p < 97 ∧ q = ad p) ∨ sz ≤ q
theorem Afr.mono {ad : Nat → Nat} {a b : Nat} (h : a ≤ b) {q : Nat} (hq : Afr ad b q) : Afr ad a q := hq.elim Or.inl (fun x => Or.inr (Nat.le_trans h x))
theorem wMk_len (ad : Nat → Nat) (F : Nat → va_E) : (wMk ad F).length = 97 := by simp [wMk]
theorem wMk_at {ad : Nat → Nat} {F : Nat → va_E} {p : Nat} (hp : p < 97) : (wMk ad F)[p]? = some (ad p, F p) := by
  unfold wMk
  rw [List.getElem?_map, List.getElem?_range hp]
  rfl
theorem wMk_inv {ad : Nat → Nat} {F : Nat → va_E} {p : Nat} {x : Nat × va_E} (h : (wMk ad F)[p]? = some x) : p < 97 ∧ x = (ad p, F p) := by
  have hp : p < 97 := by
    have := (List.getElem?_eq_some_iff.mp h).1
    rw [wMk_len] at this
    exact this
  refine ⟨hp, ?_⟩
  rw [wMk_at hp] at h
  exact (Option.some.inj h).symm
theorem wMk_set {ad : Nat → Nat} {F F' : Nat → va_E} {p : Nat} {e : va_E} (hp : p < 97) (he : F' p = e) (ho : ∀ q, q < 97 → q ≠ p → F' q = F q) : (wMk ad F).set p (ad p, e) = wMk ad F' := by
  refine List.ext_getElem? fun q => ?_
  by_cases hq : q = p
  · subst hq
    rw [List.getElem?_set_self (by rw [wMk_len]; exact hp), wMk_at hp, he]
  · rw [List.getElem?_set_ne (Ne.symm hq)]
    by_cases h9 : q < 97
    · rw [wMk_at h9, wMk_at h9, ho q h9 hq]
    · rw [List.getElem?_eq_none (by rw [wMk_len]; omega), List.getElem?_eq_none (by rw [wMk_len]; omega)]
theorem wMk_D {ad : Nat → Nat} {F : Nat → va_E} (h : adOK ad) (sz : Nat) : va_D (Afr ad sz) (wMk ad F) := by
  refine ⟨fun i j x y hi hj hxy => ?_, fun k q hk => ?_⟩
  · obtain ⟨h1, rfl⟩ := wMk_inv hi
    obtain ⟨h2, rfl⟩ := wMk_inv hj
    exact h i j h1 h2 hxy
  · obtain ⟨h1, rfl⟩ := wMk_inv hk
    exact Or.inl ⟨k, h1, rfl⟩
section WORLD
variable {cs : Nat → ClassId} {ad : Nat → Nat} {Ls : Nat → SL} {Hs T M : SL} {dr hs o : Int64} {od : UInt64}
theorem wE_L {i k : Nat} (hi : i < 6) (hk : k < 14) : wE cs ad Ls Hs T M dr hs o od (5 + 14 * i + k) = wEL cs ad i k (Ls i k) := by
  have e1 : (5 + 14 * i + k - 5) / 14 = i := by omega
  have e2 : (5 + 14 * i + k - 5) % 14 = k := by omega
  unfold wE
  rw [if_neg (by omega), if_pos (by omega), e1, e2]
theorem wE_M {k : Nat} (hk : k < 6) : wE cs ad Ls Hs T M dr hs o od (89 + k) = wEM cs ad dr hs k (M k) := by
  have e1 : 89 + k - 89 = k := by omega
  unfold wE
  rw [if_neg (by omega), if_neg (by omega), if_pos (by omega), e1]
theorem wE_5 {k : Nat} (hk : k < 5) : wE cs ad Ls Hs T M dr hs o od k = wE5 cs ad Hs T k := by
  unfold wE
  rw [if_pos hk]
/-- a line's cell is written -/
theorem wA_setL {i k : Nat} (hi : i < 6) (hk : k < 14) (f : Nat → Int32) : (wA cs ad Ls Hs T M dr hs o od).set (5 + 14 * i + k) (ad (5 + 14 * i + k), wEL cs ad i k f) = wA cs ad (va_up Ls i (va_up (Ls i) k f)) Hs T M dr hs o od := by
  refine wMk_set (by omega) ?_ fun q hq hne => ?_
  · rw [wE_L hi hk, va_up_self, va_up_self]
  · unfold wE
    by_cases h1 : q < 5
    · rw [if_pos h1, if_pos h1]
    · rw [if_neg h1, if_neg h1]
      by_cases h2 : q < 89
      · rw [if_pos h2, if_pos h2]
        by_cases h3 : (q - 5) / 14 = i
        · have h4 : (q - 5) % 14 ≠ k := by omega
          rw [h3, va_up_self, va_up_ne _ _ h4]
        · rw [va_up_ne _ _ h3]
      · rw [if_neg h2, if_neg h2]
theorem wA_setM {k : Nat} (hk : k < 6) (f : Nat → Int32) : (wA cs ad Ls Hs T M dr hs o od).set (89 + k) (ad (89 + k), wEM cs ad dr hs k f) = wA cs ad Ls Hs T (va_up M k f) dr hs o od := by
  refine wMk_set (by omega) ?_ fun q hq hne => ?_
  · rw [wE_M hk, va_up_self]
  · unfold wE
    by_cases h1 : q < 5
    · rw [if_pos h1, if_pos h1]
    · rw [if_neg h1, if_neg h1]
      by_cases h2 : q < 89
      · rw [if_pos h2, if_pos h2]
      · rw [if_neg h2, if_neg h2]
        by_cases h3 : q < 95
        · rw [if_pos h3, if_pos h3, va_up_ne _ _ (show q - 89 ≠ k by omega)]
        · rw [if_neg h3, if_neg h3]
theorem wA_setMl {d2 h2 : Int64} : (wA cs ad Ls Hs T M dr hs o od).set 89 (ad 89, wEM cs ad d2 h2 0 (M 0)) = wA cs ad Ls Hs T M d2 h2 o od := by
  refine wMk_set (by omega) ?_ fun q hq hne => ?_
  · exact wE_M (k := 0) (by omega)
  · unfold wE
    by_cases h1 : q < 5
    · rw [if_pos h1, if_pos h1]
    · rw [if_neg h1, if_neg h1]
      by_cases h2 : q < 89
      · rw [if_pos h2, if_pos h2]
      · rw [if_neg h2, if_neg h2]
        by_cases h3 : q < 95
        · rw [if_pos h3, if_pos h3]
          unfold wEM
          rw [if_neg (show q - 89 ≠ 0 by omega), if_neg (show q - 89 ≠ 0 by omega)]
        · rw [if_neg h3, if_neg h3]
theorem wA_set5 {k : Nat} (hk : k < 5) {H2 T2 : SL} {e : va_E} (he : wE5 cs ad H2 T2 k = e) (ho : ∀ q, q < 5 → q ≠ k → wE5 cs ad H2 T2 q = wE5 cs ad Hs T q) : (wA cs ad Ls Hs T M dr hs o od).set k (ad k, e) = wA cs ad Ls H2 T2 M dr hs o od := by
  refine wMk_set (by omega) ?_ fun q hq hne => ?_
  · rw [wE_5 hk, he]
  · unfold wE
    by_cases h1 : q < 5
    · rw [if_pos h1, if_pos h1, ho q h1 hne]
    · rw [if_neg h1, if_neg h1]
/-! what stands where: lines (c: any line; v: the line that a method works at) -/
theorem c_obj {i : Nat} (hi : i < 6) : (wA cs ad Ls Hs T M dr hs o od)[5 + 14 * i + 0]? = some (ad (5 + 14 * i + 0), .inr (2, [.ref (ad (5 + 14 * i + 1)), .ref (ad (5 + 14 * i + 10)), .int (Ls i 0 2), .int (Ls i 0 3)])) := by
  rw [wMk_at (by omega), wE_L hi (by omega)]; rfl
theorem c_rows {i : Nat} (hi : i < 6) : (wA cs ad Ls Hs T M dr hs o od)[5 + 14 * i + 1]? = some (ad (5 + 14 * i + 1), .inl (cs 2, 8, .inr (.inr (.inr (.inr (fun m => some (ad (5 + 14 * i + (2 + m))))))))) := by
  rw [wMk_at (by omega), wE_L hi (by omega)]; rfl
theorem wEL_row {i k : Nat} {f : Nat → Int32} (hk : 2 ≤ k ∧ k < 10) : wEL cs ad i k f = .inl (cs 0, 16, .inl f) := by
  unfold wEL
  rw [if_neg (by omega), if_neg (by omega), if_pos (by omega)]
theorem wEL_sar {i k : Nat} {f : Nat → Int32} (hk : 11 ≤ k ∧ k < 14) : wEL cs ad i k f = .inl (cs 0, 40, .inl f) := by
  unfold wEL
  rw [if_neg (by omega), if_neg (by omega), if_neg (by omega), if_neg (by omega)]
theorem c_row {i k : Nat} (hi : i < 6) (hk : 2 ≤ k ∧ k < 10) : (wA cs ad Ls Hs T M dr hs o od)[5 + 14 * i + k]? = some (ad (5 + 14 * i + k), .inl (cs 0, 16, .inl (Ls i k))) := by
  rw [wMk_at (by omega), wE_L hi (by omega), wEL_row hk]
theorem c_sar {i k : Nat} (hi : i < 6) (hk : 11 ≤ k ∧ k < 14) : (wA cs ad Ls Hs T M dr hs o od)[5 + 14 * i + k]? = some (ad (5 + 14 * i + k), .inl (cs 0, 40, .inl (Ls i k))) := by
  rw [wMk_at (by omega), wE_L hi (by omega), wEL_sar hk]
theorem c_sto {i : Nat} (hi : i < 6) : (wA cs ad Ls Hs T M dr hs o od)[5 + 14 * i + 10]? = some (ad (5 + 14 * i + 10), .inr (4, [.ref (ad (5 + 14 * i + 11)), .ref (ad (5 + 14 * i + 12)), .ref (ad (5 + 14 * i + 13)), .int (Ls i 10 3), .int (Ls i 10 4)])) := by
  rw [wMk_at (by omega), wE_L hi (by omega)]; rfl
theorem c_rowS {i k : Nat} (hi : i < 6) (hk : 2 ≤ k ∧ k < 10) {j : Nat} {x : Int32} : (wA cs ad Ls Hs T M dr hs o od).set (5 + 14 * i + k) (ad (5 + 14 * i + k), .inl (cs 0, 16, .inl (upd (Ls i k) j x))) = wA cs ad (va_up Ls i (up2 (Ls i) k j x)) Hs T M dr hs o od := by
  rw [← wEL_row (i := i) (ad := ad) hk, wA_setL hi (by omega)]; rfl
theorem c_sarS {i k : Nat} (hi : i < 6) (hk : 11 ≤ k ∧ k < 14) {j : Nat} {x : Int32} : (wA cs ad Ls Hs T M dr hs o od).set (5 + 14 * i + k) (ad (5 + 14 * i + k), .inl (cs 0, 40, .inl (upd (Ls i k) j x))) = wA cs ad (va_up Ls i (up2 (Ls i) k j x)) Hs T M dr hs o od := by
  rw [← wEL_sar (i := i) (ad := ad) hk, wA_setL hi (by omega)]; rfl
theorem c_rowF {i k : Nat} (hi : i < 6) (hk : 2 ≤ k ∧ k < 10) {f : Nat → Int32} : (wA cs ad Ls Hs T M dr hs o od).set (5 + 14 * i + k) (ad (5 + 14 * i + k), .inl (cs 0, 16, .inl f)) = wA cs ad (va_up Ls i (va_up (Ls i) k f)) Hs T M dr hs o od := by
  rw [← wEL_row (i := i) (ad := ad) hk, wA_setL hi (by omega)]
theorem c_sarF {i k : Nat} (hi : i < 6) (hk : 11 ≤ k ∧ k < 14) {f : Nat → Int32} : (wA cs ad Ls Hs T M dr hs o od).set (5 + 14 * i + k) (ad (5 + 14 * i + k), .inl (cs 0, 40, .inl f)) = wA cs ad (va_up Ls i (va_up (Ls i) k f)) Hs T M dr hs o od := by
  rw [← wEL_sar (i := i) (ad := ad) hk, wA_setL hi (by omega)]
theorem c_objS2 {i : Nat} (hi : i < 6) {x : Int32} : (wA cs ad Ls Hs T M dr hs o od).set (5 + 14 * i + 0) (ad (5 + 14 * i + 0), .inr (2, [.ref (ad (5 + 14 * i + 1)), .ref (ad (5 + 14 * i + 10)), .int x, .int (Ls i 0 3)])) = wA cs ad (va_up Ls i (up2 (Ls i) 0 2 x)) Hs T M dr hs o od := wA_setL hi (by omega) (upd (Ls i 0) 2 x)
theorem c_objS3 {i : Nat} (hi : i < 6) {x : Int32} : (wA cs ad Ls Hs T M dr hs o od).set (5 + 14 * i + 0) (ad (5 + 14 * i + 0), .inr (2, [.ref (ad (5 + 14 * i + 1)), .ref (ad (5 + 14 * i + 10)), .int (Ls i 0 2), .int x])) = wA cs ad (va_up Ls i (up2 (Ls i) 0 3 x)) Hs T M dr hs o od := wA_setL hi (by omega) (upd (Ls i 0) 3 x)
theorem c_stoS3 {i : Nat} (hi : i < 6) {x : Int32} : (wA cs ad Ls Hs T M dr hs o od).set (5 + 14 * i + 10) (ad (5 + 14 * i + 10), .inr (4, [.ref (ad (5 + 14 * i + 11)), .ref (ad (5 + 14 * i + 12)), .ref (ad (5 + 14 * i + 13)), .int x, .int (Ls i 10 4)])) = wA cs ad (va_up Ls i (up2 (Ls i) 10 3 x)) Hs T M dr hs o od := wA_setL hi (by omega) (upd (Ls i 10) 3 x)
theorem c_stoS4 {i : Nat} (hi : i < 6) {x : Int32} : (wA cs ad Ls Hs T M dr hs o od).set (5 + 14 * i + 10) (ad (5 + 14 * i + 10), .inr (4, [.ref (ad (5 + 14 * i + 11)), .ref (ad (5 + 14 * i + 12)), .ref (ad (5 + 14 * i + 13)), .int (Ls i 10 3), .int x])) = wA cs ad (va_up Ls i (up2 (Ls i) 10 4 x)) Hs T M dr hs o od := wA_setL hi (by omega) (upd (Ls i 10) 4 x)
variable {L : SL}
theorem v_obj {i : Nat} (hi : i < 6) : (wA cs ad (va_up Ls i L) Hs T M dr hs o od)[5 + 14 * i + 0]? = some (ad (5 + 14 * i + 0), .inr (2, [.ref (ad (5 + 14 * i + 1)), .ref (ad (5 + 14 * i + 10)), .int (L 0 2), .int (L 0 3)])) := by
  rw [c_obj hi, va_up_self]
theorem v_rows {i : Nat} (hi : i < 6) : (wA cs ad (va_up Ls i L) Hs T M dr hs o od)[5 + 14 * i + 1]? = some (ad (5 + 14 * i + 1), .inl (cs 2, 8, .inr (.inr (.inr (.inr (fun m => some (ad (5 + 14 * i + (2 + m))))))))) := c_rows hi
theorem v_row {i k : Nat} (hi : i < 6) (hk : 2 ≤ k ∧ k < 10) : (wA cs ad (va_up Ls i L) Hs T M dr hs o od)[5 + 14 * i + k]? = some (ad (5 + 14 * i + k), .inl (cs 0, 16, .inl (L k))) := by
  rw [c_row hi hk, va_up_self]
theorem v_sar {i k : Nat} (hi : i < 6) (hk : 11 ≤ k ∧ k < 14) : (wA cs ad (va_up Ls i L) Hs T M dr hs o od)[5 + 14 * i + k]? = some (ad (5 + 14 * i + k), .inl (cs 0, 40, .inl (L k))) := by
  rw [c_sar hi hk, va_up_self]
theorem v_sto {i : Nat} (hi : i < 6) : (wA cs ad (va_up Ls i L) Hs T M dr hs o od)[5 + 14 * i + 10]? = some (ad (5 + 14 * i + 10), .inr (4, [.ref (ad (5 + 14 * i + 11)), .ref (ad (5 + 14 * i + 12)), .ref (ad (5 + 14 * i + 13)), .int (L 10 3), .int (L 10 4)])) := by
  rw [c_sto hi, va_up_self]
theorem v_rowS {i k : Nat} (hi : i < 6) (hk : 2 ≤ k ∧ k < 10) {j : Nat} {x : Int32} : (wA cs ad (va_up Ls i L) Hs T M dr hs o od).set (5 + 14 * i + k) (ad (5 + 14 * i + k), .inl (cs 0, 16, .inl (upd (L k) j x))) = wA cs ad (va_up Ls i (up2 L k j x)) Hs T M dr hs o od := by
  have h := c_rowS (cs := cs) (ad := ad) (Ls := va_up Ls i L) (Hs := Hs) (T := T) (M := M) (dr := dr) (hs := hs) (o := o) (od := od) hi hk (j := j) (x := x)
  rw [va_up_self, bx_uu] at h
  exact h
theorem v_sarS {i k : Nat} (hi : i < 6) (hk : 11 ≤ k ∧ k < 14) {j : Nat} {x : Int32} : (wA cs ad (va_up Ls i L) Hs T M dr hs o od).set (5 + 14 * i + k) (ad (5 + 14 * i + k), .inl (cs 0, 40, .inl (upd (L k) j x))) = wA cs ad (va_up Ls i (up2 L k j x)) Hs T M dr hs o od := by
  have h := c_sarS (cs := cs) (ad := ad) (Ls := va_up Ls i L) (Hs := Hs) (T := T) (M := M) (dr := dr) (hs := hs) (o := o) (od := od) hi hk (j := j) (x := x)
  rw [va_up_self, bx_uu] at h
  exact h
theorem v_objS2 {i : Nat} (hi : i < 6) {x : Int32} : (wA cs ad (va_up Ls i L) Hs T M dr hs o od).set (5 + 14 * i + 0) (ad (5 + 14 * i + 0), .inr (2, [.ref (ad (5 + 14 * i + 1)), .ref (ad (5 + 14 * i + 10)), .int x, .int (L 0 3)])) = wA cs ad (va_up Ls i (up2 L 0 2 x)) Hs T M dr hs o od := by
  have h := c_objS2 (cs := cs) (ad := ad) (Ls := va_up Ls i L) (Hs := Hs) (T := T) (M := M) (dr := dr) (hs := hs) (o := o) (od := od) hi (x := x)
  rw [va_up_self, bx_uu] at h
  exact h
theorem v_objS3 {i : Nat} (hi : i < 6) {x : Int32} : (wA cs ad (va_up Ls i L) Hs T M dr hs o od).set (5 + 14 * i + 0) (ad (5 + 14 * i + 0), .inr (2, [.ref (ad (5 + 14 * i + 1)), .ref (ad (5 + 14 * i + 10)), .int (L 0 2), .int x])) = wA cs ad (va_up Ls i (up2 L 0 3 x)) Hs T M dr hs o od := by
  have h := c_objS3 (cs := cs) (ad := ad) (Ls := va_up Ls i L) (Hs := Hs) (T := T) (M := M) (dr := dr) (hs := hs) (o := o) (od := od) hi (x := x)
  rw [va_up_self, bx_uu] at h
  exact h
theorem v_stoS3 {i : Nat} (hi : i < 6) {x : Int32} : (wA cs ad (va_up Ls i L) Hs T M dr hs o od).set (5 + 14 * i + 10) (ad (5 + 14 * i + 10), .inr (4, [.ref (ad (5 + 14 * i + 11)), .ref (ad (5 + 14 * i + 12)), .ref (ad (5 + 14 * i + 13)), .int x, .int (L 10 4)])) = wA cs ad (va_up Ls i (up2 L 10 3 x)) Hs T M dr hs o od := by
  have h := c_stoS3 (cs := cs) (ad := ad) (Ls := va_up Ls i L) (Hs := Hs) (T := T) (M := M) (dr := dr) (hs := hs) (o := o) (od := od) hi (x := x)
  rw [va_up_self, bx_uu] at h
  exact h
theorem v_stoS4 {i : Nat} (hi : i < 6) {x : Int32} : (wA cs ad (va_up Ls i L) Hs T M dr hs o od).set (5 + 14 * i + 10) (ad (5 + 14 * i + 10), .inr (4, [.ref (ad (5 + 14 * i + 11)), .ref (ad (5 + 14 * i + 12)), .ref (ad (5 + 14 * i + 13)), .int (L 10 3), .int x])) = wA cs ad (va_up Ls i (up2 L 10 4 x)) Hs T M dr hs o od := by
  have h := c_stoS4 (cs := cs) (ad := ad) (Ls := va_up Ls i L) (Hs := Hs) (T := T) (M := M) (dr := dr) (hs := hs) (o := o) (od := od) hi (x := x)
  rw [va_up_self, bx_uu] at h
  exact h
/-! the object, the history, the text -/
theorem g_obj : (wA cs ad Ls Hs T M dr hs o od)[0]? = some (ad 0, .inr (5, [.ref (ad (5 + 14 * 0 + 0)), .ref (ad (5 + 14 * 1 + 0)), .ref (ad 1), .ref (ad 3)])) := wMk_at (by omega)
theorem g_his : (wA cs ad Ls Hs T M dr hs o od)[1]? = some (ad 1, .inr (1, [.ref (ad 2), .int (Hs 0 1), .int (Hs 0 2)])) := wMk_at (by omega)
theorem g_pla : (wA cs ad Ls Hs T M dr hs o od)[2]? = some (ad 2, .inl (cs 1, 4, .inr (.inr (.inr (.inr (fun j => some (ad (5 + 14 * (2 + j) + 0)))))))) := wMk_at (by omega)
theorem g_txt : (wA cs ad Ls Hs T M dr hs o od)[3]? = some (ad 3, .inr (3, [.ref (ad 4), .int (T 0 1), .int (T 0 2), .int (T 0 3)])) := wMk_at (by omega)
theorem g_byt : (wA cs ad Ls Hs T M dr hs o od)[4]? = some (ad 4, .inl (cs 0, 120, .inl (T 1))) := wMk_at (by omega)
theorem five {P : Nat → Prop} (h0 : P 0) (h1 : P 1) (h2 : P 2) (h3 : P 3) (h4 : P 4) : ∀ q, q < 5 → P q := fun q hq => by
  match q, hq with
  | 0, _ => exact h0
  | 1, _ => exact h1
  | 2, _ => exact h2
  | 3, _ => exact h3
  | 4, _ => exact h4
theorem g_hisS1 {x : Int32} : (wA cs ad Ls Hs T M dr hs o od).set 1 (ad 1, .inr (1, [.ref (ad 2), .int x, .int (Hs 0 2)])) = wA cs ad Ls (up2 Hs 0 1 x) T M dr hs o od := wA_set5 (by omega) rfl (five (fun _ => rfl) (fun h => absurd rfl h) (fun _ => rfl) (fun _ => rfl) (fun _ => rfl))
theorem g_hisS2 {x : Int32} : (wA cs ad Ls Hs T M dr hs o od).set 1 (ad 1, .inr (1, [.ref (ad 2), .int (Hs 0 1), .int x])) = wA cs ad Ls (up2 Hs 0 2 x) T M dr hs o od := wA_set5 (by omega) rfl (five (fun _ => rfl) (fun h => absurd rfl h) (fun _ => rfl) (fun _ => rfl) (fun _ => rfl))
theorem g_txtS1 {x : Int32} : (wA cs ad Ls Hs T M dr hs o od).set 3 (ad 3, .inr (3, [.ref (ad 4), .int x, .int (T 0 2), .int (T 0 3)])) = wA cs ad Ls Hs (up2 T 0 1 x) M dr hs o od := wA_set5 (by omega) rfl (five (fun _ => rfl) (fun _ => rfl) (fun _ => rfl) (fun h => absurd rfl h) (fun _ => rfl))
theorem g_txtS2 {x : Int32} : (wA cs ad Ls Hs T M dr hs o od).set 3 (ad 3, .inr (3, [.ref (ad 4), .int (T 0 1), .int x, .int (T 0 3)])) = wA cs ad Ls Hs (up2 T 0 2 x) M dr hs o od := wA_set5 (by omega) rfl (five (fun _ => rfl) (fun _ => rfl) (fun _ => rfl) (fun h => absurd rfl h) (fun _ => rfl))
theorem g_txtS3 {x : Int32} : (wA cs ad Ls Hs T M dr hs o od).set 3 (ad 3, .inr (3, [.ref (ad 4), .int (T 0 1), .int (T 0 2), .int x])) = wA cs ad Ls Hs (up2 T 0 3 x) M dr hs o od := wA_set5 (by omega) rfl (five (fun _ => rfl) (fun _ => rfl) (fun _ => rfl) (fun h => absurd rfl h) (fun _ => rfl))
theorem g_bytS {j : Nat} {x : Int32} : (wA cs ad Ls Hs T M dr hs o od).set 4 (ad 4, .inl (cs 0, 120, .inl (upd (T 1) j x))) = wA cs ad Ls Hs (up2 T 1 j x) M dr hs o od := wA_set5 (by omega) rfl (five (fun _ => rfl) (fun _ => rfl) (fun _ => rfl) (fun _ => rfl) (fun h => absurd rfl h))
/-! the reference -/
theorem r_obj : (wA cs ad Ls Hs T M dr hs o od)[89]? = some (ad 89, .inr (6, [.ref (ad (89 + 1)), .ref (ad (89 + 2)), .ref (ad (89 + 3)), .int (M 0 3), .int (M 0 4), .ref (ad (89 + 4)), .int (M 0 6), .ref (ad (89 + 5)), .long dr, .int (M 0 9), .int (M 0 10), .long hs])) := by
  rw [wMk_at (by omega)]; rfl
theorem r_arr {k : Nat} (hk : 1 ≤ k ∧ k < 6) : (wA cs ad Ls Hs T M dr hs o od)[89 + k]? = some (ad (89 + k), .inl (cs 0, mLen k, .inl (M k))) := by
  rw [wMk_at (by omega), wE_M (by omega)]
  unfold wEM
  rw [if_neg (by omega)]
theorem r_arrS {k : Nat} (hk : 1 ≤ k ∧ k < 6) {j : Nat} {x : Int32} : (wA cs ad Ls Hs T M dr hs o od).set (89 + k) (ad (89 + k), .inl (cs 0, mLen k, .inl (upd (M k) j x))) = wA cs ad Ls Hs T (up2 M k j x) dr hs o od := by
  have h := wA_setM (cs := cs) (ad := ad) (Ls := Ls) (Hs := Hs) (T := T) (M := M) (dr := dr) (hs := hs) (o := o) (od := od) (k := k) (by omega) (upd (M k) j x)
  unfold wEM at h
  rw [if_neg (by omega)] at h
  exact h
theorem r_objS3 {x : Int32} : (wA cs ad Ls Hs T M dr hs o od).set 89 (ad 89, .inr (6, [.ref (ad (89 + 1)), .ref (ad (89 + 2)), .ref (ad (89 + 3)), .int x, .int (M 0 4), .ref (ad (89 + 4)), .int (M 0 6), .ref (ad (89 + 5)), .long dr, .int (M 0 9), .int (M 0 10), .long hs])) = wA cs ad Ls Hs T (up2 M 0 3 x) dr hs o od := wA_setM (k := 0) (by omega) (upd (M 0) 3 x)
theorem r_objS4 {x : Int32} : (wA cs ad Ls Hs T M dr hs o od).set 89 (ad 89, .inr (6, [.ref (ad (89 + 1)), .ref (ad (89 + 2)), .ref (ad (89 + 3)), .int (M 0 3), .int x, .ref (ad (89 + 4)), .int (M 0 6), .ref (ad (89 + 5)), .long dr, .int (M 0 9), .int (M 0 10), .long hs])) = wA cs ad Ls Hs T (up2 M 0 4 x) dr hs o od := wA_setM (k := 0) (by omega) (upd (M 0) 4 x)
theorem r_objS6 {x : Int32} : (wA cs ad Ls Hs T M dr hs o od).set 89 (ad 89, .inr (6, [.ref (ad (89 + 1)), .ref (ad (89 + 2)), .ref (ad (89 + 3)), .int (M 0 3), .int (M 0 4), .ref (ad (89 + 4)), .int x, .ref (ad (89 + 5)), .long dr, .int (M 0 9), .int (M 0 10), .long hs])) = wA cs ad Ls Hs T (up2 M 0 6 x) dr hs o od := wA_setM (k := 0) (by omega) (upd (M 0) 6 x)
theorem r_objS9 {x : Int32} : (wA cs ad Ls Hs T M dr hs o od).set 89 (ad 89, .inr (6, [.ref (ad (89 + 1)), .ref (ad (89 + 2)), .ref (ad (89 + 3)), .int (M 0 3), .int (M 0 4), .ref (ad (89 + 4)), .int (M 0 6), .ref (ad (89 + 5)), .long dr, .int x, .int (M 0 10), .long hs])) = wA cs ad Ls Hs T (up2 M 0 9 x) dr hs o od := wA_setM (k := 0) (by omega) (upd (M 0) 9 x)
theorem r_objS10 {x : Int32} : (wA cs ad Ls Hs T M dr hs o od).set 89 (ad 89, .inr (6, [.ref (ad (89 + 1)), .ref (ad (89 + 2)), .ref (ad (89 + 3)), .int (M 0 3), .int (M 0 4), .ref (ad (89 + 4)), .int (M 0 6), .ref (ad (89 + 5)), .long dr, .int (M 0 9), .int x, .long hs])) = wA cs ad Ls Hs T (up2 M 0 10 x) dr hs o od := wA_setM (k := 0) (by omega) (upd (M 0) 10 x)
theorem r_objS8 {x : Int64} : (wA cs ad Ls Hs T M dr hs o od).set 89 (ad 89, .inr (6, [.ref (ad (89 + 1)), .ref (ad (89 + 2)), .ref (ad (89 + 3)), .int (M 0 3), .int (M 0 4), .ref (ad (89 + 4)), .int (M 0 6), .ref (ad (89 + 5)), .long x, .int (M 0 9), .int (M 0 10), .long hs])) = wA cs ad Ls Hs T M x hs o od := wA_setMl
theorem r_objS11 {x : Int64} : (wA cs ad Ls Hs T M dr hs o od).set 89 (ad 89, .inr (6, [.ref (ad (89 + 1)), .ref (ad (89 + 2)), .ref (ad (89 + 3)), .int (M 0 3), .int (M 0 4), .ref (ad (89 + 4)), .int (M 0 6), .ref (ad (89 + 5)), .long dr, .int (M 0 9), .int (M 0 10), .long x])) = wA cs ad Ls Hs T M dr x o od := wA_setMl
/-! the law's two arrays -/
theorem o_out : (wA cs ad Ls Hs T M dr hs o od)[95]? = some (ad 95, .inl (cs 3, 1, .inr (.inl (fun _ => o)))) := wMk_at (by omega)
theorem o_outD : (wA cs ad Ls Hs T M dr hs o od)[96]? = some (ad 96, .inl (cs 4, 1, .inr (.inr (.inr (.inl (fun _ => od)))))) := wMk_at (by omega)
end WORLD
end
section
/-! derived rows: a method's standing facts C, G; the world hP; what was written hS -/
abbrev tyA (cs : Nat → ClassId) : List (ClassId × FieldType) := [(cs 0, .int), (cs 1, .object RX2), (cs 2, .array .int), (cs 3, .long), (cs 4, .double)]
def Cx (p : Program) (s : State) (m : MethodId) (args : Array Value) (meth : Method) (c : Code) (cc : ByteArray) (nL : Nat) (ret : Option FieldType) (own : String) (ws : List Cond) : Prop :=
  p.tables.exec = Jvm.exec ∧ c.code = cc ∧ c.maxLocals = nL ∧ meth.sig.returnType = ret ∧ s.vm.findClass own = some m.cls ∧ (∀ w ∈ ws, w.before args s = true) ∧ meth.locks = false
/-- links among nest mates: fields, methods -/
def nwF : List (String × Nat × String × String × String) := [("LineBuffers$Line", 40, "LineBuffers$Stops", "planned", "I"), ("LineBuffers", 90, "LineBuffers$Stops", "planned", "I"), ("LineBuffers", 74, "LineBuffers$Line", "rows", "[[I"), ("LineBuffers", 86, "LineBuffers$Line", "stops", "LLineBuffers$Stops;"), ("LineBuffers", 48, "LineBuffers$Line", "machines", "I"), ("LineBuffers$LineText", 38, "LineBuffers$Line", "machines", "I"), ("LineBuffers", 52, "LineBuffers$Line", "tick", "I"), ("LineBuffers", 191, "LineBuffers$History", "saved", "I"), ("LineBuffers", 175, "LineBuffers$LineText", "length", "I")]
def nwM : List (String × Nat × MethodName) := [("LineBuffers", 9, ⟨"LineBuffers$Line", "<init>", "()V"⟩), ("LineBuffers$Line", 18, ⟨"LineBuffers$Stops", "<init>", "()V"⟩), ("LineBuffers$History", 17, ⟨"LineBuffers$Line", "<init>", "()V"⟩), ("LineBuffers", 28, ⟨"LineBuffers$LineText", "<init>", "()V"⟩), ("LineBuffers$LineText", 63, ⟨"LineBuffers", "isIn", "(III)Z"⟩)]
def NW (U : State) : Prop := (∀ q ∈ nwF, va_Nw (.fieldLinkNest q.1 q.2.1 q.2.2.1 q.2.2.2.1 q.2.2.2.2 "LineBuffers") U) ∧ ∀ q ∈ nwM, va_Nw (.methodLinkNest q.1 q.2.1 q.2.2 "LineBuffers") U
theorem NW.warm {s U : State} (hW : s.WarmedH U.vm) (h : NW s) : NW U := ⟨fun q hq => va_Nw.warmF hW (h.1 q hq), fun q hq => va_Nw.warmM hW (h.2 q hq)⟩
theorem NW.same {u U : State} (hv : u.vm = U.vm) (h : NW u) : NW U := ⟨fun q hq => va_Nw.same rfl hv (h.1 q hq), fun q hq => va_Nw.same rfl hv (h.2 q hq)⟩
def Gx (D : va_G) (cs : Nat → ClassId) (ad : Nat → Nat) (s : State) : Prop := va_K D vwCl (tyA cs) s ∧ adOK ad ∧ NW s
def PA (D : va_G) (cs : Nat → ClassId) (sz : Nat) (w : va_W) (av : List Value) : Array Value → State → Prop := va_Pc av (fun U => U.heap.size = sz ∧ va_P D vwCl w U.heap ∧ va_K D vwCl (tyA cs) U ∧ NW U)
theorem PA_blind {D : va_G} {cs : Nat → ClassId} {sz : Nat} {w : va_W} {av : List Value} : FrameBlind (PA D cs sz w av) := by
  intro a U g mk h
  obtain ⟨h1, h2, h3, h4, h5⟩ := h
  exact ⟨h1, h2, h3, va_K.moved (u := U) (U := U.calling g mk a) (Vm.Alike.refl U.vm) h4, NW.same (u := U) (U := U.calling g mk a) rfl h5⟩
theorem row_k {i : Int32} {k : Nat} (h : vp_in i 8) (e : k = 2 + i.toNatClampNeg) : 2 ≤ k ∧ k < 10 := by
  have : i.toNatClampNeg < 8 := Nat.not_le.mp fun q => h (Or.inr q)
  omega
theorem pla_j {i : Int32} {k : Nat} (h : vp_in i 4) (e : k = 2 + i.toNatClampNeg) : k < 6 := by
  have : i.toNatClampNeg < 4 := Nat.not_le.mp fun q => h (Or.inr q)
  omega
def cpo (n : Int32) (a b : Nat) : Bool := decide (¬ n < 0 ∧ n.toNatClampNeg ≤ a ∧ n.toNatClampNeg ≤ b)
theorem cpo_out {n : Int32} {a b : Nat} (h : cpo n a b = true) : ¬ n < 0 ∧ n.toNatClampNeg ≤ a ∧ n.toNatClampNeg ≤ b := of_decide_eq_true h
def bd2 {α β γ : Type} (o : Option (α × β)) (f : α → β → Option γ) : Option γ := match o with
  | some (a, b) => f a b
  | none => none
theorem bd2_out {α β γ : Type} {o : Option (α × β)} {f : α → β → Option γ} {r : γ} (h : bd2 o f = some r) : ∃ a b, o = some (a, b) ∧ f a b = some r := by
  match o, h with
  | none, h => cases h
  | some (a, b), h => exact ⟨a, b, rfl, h⟩
def bd3 {α β γ δ : Type} (o : Option (α × β × γ)) (f : α → β → γ → Option δ) : Option δ := match o with
  | some (a, b, c) => f a b c
  | none => none
theorem bd3_out {α β γ δ : Type} {o : Option (α × β × γ)} {f : α → β → γ → Option δ} {r : δ} (h : bd3 o f = some r) : ∃ a b c, o = some (a, b, c) ∧ f a b c = some r := by
  match o, h with
  | none, h => cases h
  | some (a, b, c), h => exact ⟨a, b, c, rfl, h⟩
def bd4 {α β γ δ ε : Type} (o : Option (α × β × γ × δ)) (f : α → β → γ → δ → Option ε) : Option ε := match o with
  | some (a, b, c, d) => f a b c d
  | none => none
theorem bd4_out {α β γ δ ε : Type} {o : Option (α × β × γ × δ)} {f : α → β → γ → δ → Option ε} {r : ε} (h : bd4 o f = some r) : ∃ a b c d, o = some (a, b, c, d) ∧ f a b c d = some r := by
  match o, h with
  | none, h => cases h
  | some (a, b, c, d), h => exact ⟨a, b, c, d, rfl, h⟩
/-- how many turns a loop is given: more than any has -/
def fuel : Nat := 20000
theorem up_in {D : va_G} {cs : Nat → ClassId} {ad : Nat → Nat} {Ls : Nat → SL} {Hs T M : SL} {dr hs o : Int64} {od : UInt64} {H : Heap} {i : Nat} (h : va_P D vwCl (wA cs ad Ls Hs T M dr hs o od) H) : va_P D vwCl (wA cs ad (va_up Ls i (Ls i)) Hs T M dr hs o od) H := by
  rw [up_id]; exact h
theorem up_ou {D : va_G} {cs : Nat → ClassId} {ad : Nat → Nat} {Ls : Nat → SL} {Hs T M : SL} {dr hs o : Int64} {od : UInt64} {H : Heap} {i : Nat} (h : va_P D vwCl (wA cs ad (va_up Ls i (Ls i)) Hs T M dr hs o od) H) : va_P D vwCl (wA cs ad Ls Hs T M dr hs o od) H := by
  rw [up_id] at h; exact h
section ROWS
variable {p : Program} {l : Launch} {e : Env} {R : Room} {s : State} {m : MethodId} {args : Array Value} {below : List Frame} {meth : Method} {c : Code} {H : Heap} {locs : List Loc} {cells slots : Nat} {Q : State → Prop}
variable {cc : ByteArray} {pc : Nat} {ls : Array Slot} {rest : List Value} {nL : Nat} {ret : Option FieldType} {own : String} {ws : List Cond} {D : va_G} {cs : Nat → ClassId} {ad : Nat → Nat}
theorem k_getf (C : Cx p s m args meth c cc nL ret own ws) (G : Gx D cs ad s) {w : va_W} (hP : va_P D vwCl w H) {q a ci : Nat} {fs : List Value} (he : w[q]? = some (a, .inr (ci, fs))) {Cn : String} {T : u_T} {N : Nat} (hc : vwCl[ci]? = some (Cn, T, N)) (k : Nat) (hk : k < N) (hin : ∀ x ∈ u_ws Cn T N, x ∈ ws) {index : Nat} (hw : Cond.fieldLink own index (T k).1 (T k).2.1 (T k).2.2.1 ∈ ws) {v : Value} (hv : fs[k]? = some v) (d : decode cc pc = .ok (.getfield index, 3))
    (kk : W p l e R s m args below meth c H locs cells slots Q (F0 m (pc + 3) ls (v :: rest))) : W p l e R s m args below meth c H locs cells slots Q (F0 m pc ls (.ref a :: rest)) := by
  obtain ⟨hx, hb, hml, hr, hown, hts, hlk⟩ := C
  exact va_get hx hb hts hin hown G.1 hP q he hc k hk (hts _ hw) (fun _ h => h) hv d kk
theorem k_geti (C : Cx p s m args meth c cc nL ret own ws) (G : Gx D cs ad s) {w : va_W} (hP : va_P D vwCl w H) {q a ci : Nat} {fs : List Value} (he : w[q]? = some (a, .inr (ci, fs))) {Cn : String} {T : u_T} {N : Nat} (hc : vwCl[ci]? = some (Cn, T, N)) (k : Nat) (hk : k < N) (hin : ∀ x ∈ u_ws Cn T N, x ∈ ws) {index : Nat} (hw : Cond.fieldLink own index (T k).1 (T k).2.1 (T k).2.2.1 ∈ ws) {x z : Int32} (hv : fs[k]? = some (.int x)) (ez : z = x) (d : decode cc pc = .ok (.getfield index, 3))
    (kk : W p l e R s m args below meth c H locs cells slots Q (F0 m (pc + 3) ls (.int z :: rest))) : W p l e R s m args below meth c H locs cells slots Q (F0 m pc ls (.ref a :: rest)) := by
  subst ez
  exact k_getf C G hP he hc k hk hin hw hv d kk
theorem k_getl (C : Cx p s m args meth c cc nL ret own ws) (G : Gx D cs ad s) {w : va_W} (hP : va_P D vwCl w H) {q a ci : Nat} {fs : List Value} (he : w[q]? = some (a, .inr (ci, fs))) {Cn : String} {T : u_T} {N : Nat} (hc : vwCl[ci]? = some (Cn, T, N)) (k : Nat) (hk : k < N) (hin : ∀ x ∈ u_ws Cn T N, x ∈ ws) {index : Nat} (hw : Cond.fieldLink own index (T k).1 (T k).2.1 (T k).2.2.1 ∈ ws) {x z : Int64} (hv : fs[k]? = some (.long x)) (ez : z = x) (d : decode cc pc = .ok (.getfield index, 3))
    (kk : W p l e R s m args below meth c H locs cells slots Q (F0 m (pc + 3) ls (.long z :: rest))) : W p l e R s m args below meth c H locs cells slots Q (F0 m pc ls (.ref a :: rest)) := by
  subst ez
  exact k_getf C G hP he hc k hk hin hw hv d kk
theorem k_puti (C : Cx p s m args meth c cc nL ret own ws) (G : Gx D cs ad s) {F F' : Nat → va_E} (hP : va_P D vwCl (wMk ad F) H) (hS : va_S (Afr ad s.heap.size) s.heap H locs) {q a ci : Nat} {fs : List Value} (he : (wMk ad F)[q]? = some (a, .inr (ci, fs))) {Cn : String} {T : u_T} {N : Nat} (hc : vwCl[ci]? = some (Cn, T, N)) (k : Nat) (hk : k < N) (hin : ∀ x ∈ u_ws Cn T N, x ∈ ws) {index : Nat} (hw : Cond.fieldLink own index (T k).1 (T k).2.1 (T k).2.2.1 ∈ ws) {ty0 : Nat → FieldType} (hty : ∀ k, k < N → parseFieldDescriptor (T k).2.2.1 = some (ty0 k)) (hnm : ∀ a, a < N → ∀ b, b < N → a ≠ b → (T a).2.1 ≠ (T b).2.1) (hfin : (T k).2.2.2 = false) (hd : parseFieldDescriptor (T k).2.2.1 = some .int) (hl : k < fs.length) {x : Int32} (hset : (wMk ad F).set q (a, .inr (ci, fs.set k (.int x))) = wMk ad F') (d : decode cc pc = .ok (.putfield index, 3))
    (kk : ∀ (H1 : Heap) (locs1 : List Loc), va_P D vwCl (wMk ad F') H1 → va_S (Afr ad s.heap.size) s.heap H1 locs1 → W p l e R s m args below meth c H1 locs1 cells slots Q (F0 m (pc + 3) ls rest)) : W p l e R s m args below meth c H locs cells slots Q (F0 m pc ls (.int x :: .ref a :: rest)) := by
  obtain ⟨hx, hb, hml, hr, hown, hts, hlk⟩ := C
  refine va_put hx hb hts hin ty0 hty hnm hown G.1 hP (wMk_D G.2.1 _) hS q he hc k hk (hts _ hw) (fun _ h => h) hfin hd rfl rfl hl d (fun H1 locs1 h1 h2 h3 => ?_)
  rw [hset] at h1
  exact kk H1 locs1 h1 h3
theorem k_putl (C : Cx p s m args meth c cc nL ret own ws) (G : Gx D cs ad s) {F F' : Nat → va_E} (hP : va_P D vwCl (wMk ad F) H) (hS : va_S (Afr ad s.heap.size) s.heap H locs) {q a ci : Nat} {fs : List Value} (he : (wMk ad F)[q]? = some (a, .inr (ci, fs))) {Cn : String} {T : u_T} {N : Nat} (hc : vwCl[ci]? = some (Cn, T, N)) (k : Nat) (hk : k < N) (hin : ∀ x ∈ u_ws Cn T N, x ∈ ws) {index : Nat} (hw : Cond.fieldLink own index (T k).1 (T k).2.1 (T k).2.2.1 ∈ ws) {ty0 : Nat → FieldType} (hty : ∀ k, k < N → parseFieldDescriptor (T k).2.2.1 = some (ty0 k)) (hnm : ∀ a, a < N → ∀ b, b < N → a ≠ b → (T a).2.1 ≠ (T b).2.1) (hfin : (T k).2.2.2 = false) (hd : parseFieldDescriptor (T k).2.2.1 = some .long) (hl : k < fs.length) {x : Int64} (hset : (wMk ad F).set q (a, .inr (ci, fs.set k (.long x))) = wMk ad F') (d : decode cc pc = .ok (.putfield index, 3))
    (kk : ∀ (H1 : Heap) (locs1 : List Loc), va_P D vwCl (wMk ad F') H1 → va_S (Afr ad s.heap.size) s.heap H1 locs1 → W p l e R s m args below meth c H1 locs1 cells slots Q (F0 m (pc + 3) ls rest)) : W p l e R s m args below meth c H locs cells slots Q (F0 m pc ls (.long x :: .ref a :: rest)) := by
  obtain ⟨hx, hb, hml, hr, hown, hts, hlk⟩ := C
  refine va_put hx hb hts hin ty0 hty hnm hown G.1 hP (wMk_D G.2.1 _) hS q he hc k hk (hts _ hw) (fun _ h => h) hfin hd rfl rfl hl d (fun H1 locs1 h1 h2 h3 => ?_)
  rw [hset] at h1
  exact kk H1 locs1 h1 h3
theorem k_iald (C : Cx p s m args meth c cc nL ret own ws) (G : Gx D cs ad s) {w : va_W} (hP : va_P D vwCl w H) {q a n : Nat} {f : Nat → Int32} (he : w[q]? = some (a, .inl (cs 0, n, .inl f))) {i z : Int32} {j : Nat} (hin : vp_in i n) (hj : i.toNatClampNeg = j) (ez : z = f j) (d : decode cc pc = .ok (.iaload, 1))
    (kk : W p l e R s m args below meth c H locs cells slots Q (F0 m (pc + 1) ls (.int z :: rest))) : W p l e R s m args below meth c H locs cells slots Q (F0 m pc ls (.int i :: .ref a :: rest)) := by
  subst hj
  subst ez
  obtain ⟨hx, hb, hml, hr, hown, hts, hlk⟩ := C
  exact va_iald hx hb G.1 hP q 0 he rfl hin d kk
theorem k_iast (C : Cx p s m args meth c cc nL ret own ws) (G : Gx D cs ad s) {F F' : Nat → va_E} (hP : va_P D vwCl (wMk ad F) H) (hS : va_S (Afr ad s.heap.size) s.heap H locs) {q a n : Nat} {f : Nat → Int32} (he : (wMk ad F)[q]? = some (a, .inl (cs 0, n, .inl f))) {i x : Int32} {j : Nat} (hin : vp_in i n) (hj : i.toNatClampNeg = j) (hset : (wMk ad F).set q (a, .inl (cs 0, n, .inl (upd f j x))) = wMk ad F') (d : decode cc pc = .ok (.iastore, 1))
    (kk : ∀ (H1 : Heap) (locs1 : List Loc), va_P D vwCl (wMk ad F') H1 → va_S (Afr ad s.heap.size) s.heap H1 locs1 → W p l e R s m args below meth c H1 locs1 cells slots Q (F0 m (pc + 1) ls rest)) : W p l e R s m args below meth c H locs cells slots Q (F0 m pc ls (.int x :: .int i :: .ref a :: rest)) := by
  subst hj
  obtain ⟨hx, hb, hml, hr, hown, hts, hlk⟩ := C
  refine va_iast hx hb G.1 hP (wMk_D G.2.1 _) hS q 0 he rfl hin d (fun H1 locs1 h1 h2 h3 => ?_)
  rw [hset] at h1
  exact kk H1 locs1 h1 h3
theorem k_aaldL (C : Cx p s m args meth c cc nL ret own ws) (G : Gx D cs ad s) {w : va_W} (hP : va_P D vwCl w H) {q a b n : Nat} {f : Nat → Option Nat} (he : w[q]? = some (a, .inl (cs 1, n, .inr (.inr (.inr (.inr f)))))) {i : Int32} (hin : vp_in i n) (hv : f i.toNatClampNeg = some b) (d : decode cc pc = .ok (.aaload, 1))
    (kk : W p l e R s m args below meth c H locs cells slots Q (F0 m (pc + 1) ls (.ref b :: rest))) : W p l e R s m args below meth c H locs cells slots Q (F0 m pc ls (.int i :: .ref a :: rest)) := by
  obtain ⟨hx, hb, hml, hr, hown, hts, hlk⟩ := C
  refine va_aldq hx hb G.1 hP q 1 he rfl hin d ?_
  rw [hv]
  exact kk
theorem k_aaldR (C : Cx p s m args meth c cc nL ret own ws) (G : Gx D cs ad s) {w : va_W} (hP : va_P D vwCl w H) {q a b n : Nat} {f : Nat → Option Nat} (he : w[q]? = some (a, .inl (cs 2, n, .inr (.inr (.inr (.inr f)))))) {i : Int32} (hin : vp_in i n) (hv : f i.toNatClampNeg = some b) (d : decode cc pc = .ok (.aaload, 1))
    (kk : W p l e R s m args below meth c H locs cells slots Q (F0 m (pc + 1) ls (.ref b :: rest))) : W p l e R s m args below meth c H locs cells slots Q (F0 m pc ls (.int i :: .ref a :: rest)) := by
  obtain ⟨hx, hb, hml, hr, hown, hts, hlk⟩ := C
  have hlt : i.toNatClampNeg < n := Nat.not_le.mp fun q => hin (Or.inr q)
  refine W.aald (v := va_rf (f i.toNatClampNeg)) (ty := .array .int) hx hb (hP q _ he) ((G.1.2 2 _ rfl).1 n (fun j => va_rf (f j))) rfl (fun q => by cases q) (by show ¬ (i < 0 ∨ (arrV _ _ _).slots.size ≤ _); rw [arrV_size]; exact hin) (by show (arrV _ _ _).slots[_]? = _; rw [arrV_read _ _ hlt]) rfl rfl d ?_
  rw [hv]
  exact kk
theorem k_copy (C : Cx p s m args meth c cc nL ret own ws) (G : Gx D cs ad s) {F F' : Nat → va_E} (hP : va_P D vwCl (wMk ad F) H) (hS : va_S (Afr ad s.heap.size) s.heap H locs) (hsz : ls.size = nL) {index : Nat} (hw1 : Cond.methodLink own index arraycopyName ∈ ws) (hw2 : Cond.native arraycopyName ∈ ws) (hw3 : Cond.static arraycopyName ∈ ws) (hw4 : Cond.initialized "java/lang/System" ∈ ws) {q0 q1 a0 a1 n0 n1 : Nat} {f g : Nat → Int32} (he0 : (wMk ad F)[q0]? = some (a0, .inl (cs 0, n0, .inl f))) (he1 : (wMk ad F)[q1]? = some (a1, .inl (cs 0, n1, .inl g))) {n : Int32} (h3 : ¬ n < 0) (h4 : n.toNatClampNeg ≤ n0) (h5 : n.toNatClampNeg ≤ n1) {j : Nat} (hj : n.toNatClampNeg = j)
    (hframes : 1 ≤ R.frames) (hlocals : (rest.map fun v => v.category).sum + (nativeFrameWords "java/lang/System" "arraycopy" 5 + 11) ≤ R.locals) (hset : (wMk ad F).set q1 (a1, .inl (cs 0, n1, .inl (va_cpy f g 0 0 j))) = wMk ad F') (d : decode cc pc = .ok (.invokestatic index, 3))
    (kk : ∀ (H1 : Heap) (locs1 : List Loc), va_P D vwCl (wMk ad F') H1 → va_S (Afr ad s.heap.size) s.heap H1 locs1 → W p l e R s m args below meth c H1 locs1 cells slots Q (F0 m (pc + 3) ls rest)) : W p l e R s m args below meth c H locs cells slots Q (F0 m pc ls (.int n :: .int 0 :: .ref a1 :: .int 0 :: .ref a0 :: rest)) := by
  subst hj
  obtain ⟨hx, hb, hml, hr, hown, hts, hlk⟩ := C
  refine va_copyi hx hb (hml.trans hsz.symm) hown (hts _ hw1) (hts _ hw2) (hts _ hw3) (hts _ hw4) G.1 hP (wMk_D G.2.1 _) hS q0 q1 0 0 he0 he1 rfl rfl rfl (by decide) (by decide) h3 (by show 0 + _ ≤ _; omega) (by show 0 + _ ≤ _; omega) (fun _ _ => rfl) hframes hlocals d (fun H1 locs1 h1 h2 h3 => ?_)
  have e0 : (0 : Int32).toNatClampNeg = 0 := rfl
  rw [e0, hset] at h1
  exact kk H1 locs1 h1 h3
theorem k_min (C : Cx p s m args meth c cc nL ret own ws) (G : Gx D cs ad s) (hsz : ls.size = nL) {index : Nat} (hw1 : Cond.methodLink own index Lib.Math.min.name ∈ ws) (hw2 : Cond.static Lib.Math.min.name ∈ ws) (hw3 : Cond.initialized "java/lang/Math" ∈ ws) (hw4 : Cond.code Lib.Math.min.name Lib.Math.min.code 2 (some .int) ∈ ws) (hframes : 1 ≤ R.frames) (hlocals : (rest.map fun v => v.category).sum + 13 ≤ R.locals) (hc : cells ≤ R.cells) (hs : slots ≤ R.slots) {x y z : Int32} (ez : z = if y < x then y else x) (d : decode cc pc = .ok (.invokestatic index, 3))
    (kk : W p l e R s m args below meth c H locs cells slots Q (F0 m (pc + 3) ls (.int z :: rest))) : W p l e R s m args below meth c H locs cells slots Q (F0 m pc ls (.int y :: .int x :: rest)) := by
  subst ez
  obtain ⟨hx, hb, hml, hr, hown, hts, hlk⟩ := C
  exact va_mmin hx hb (hml.trans hsz.symm) hown (hts _ hw1) (hts _ hw2) (hts _ hw3) (hts _ hw4) hframes hlocals hc hs d kk
theorem k_ldci (C : Cx p s m args meth c cc nL ret own ws) (G : Gx D cs ad s) {index : Nat} {v : Int32} (hw : Cond.constant own index v ∈ ws) (d : decode cc pc = .ok (.ldc index, 2)) (kk : W p l e R s m args below meth c H locs cells slots Q (F0 m (pc + 2) ls (.int v :: rest))) : W p l e R s m args below meth c H locs cells slots Q (F0 m pc ls rest) := by
  obtain ⟨hx, hb, hml, hr, hown, hts, hlk⟩ := C
  exact lv_ldc hx hb hown (hts _ hw) d kk
theorem k_ldcl (C : Cx p s m args meth c cc nL ret own ws) (G : Gx D cs ad s) {index : Nat} {v : Int64} (hw : Cond.constantLong own index v ∈ ws) (d : decode cc pc = .ok (.ldc2_w index, 3)) (kk : W p l e R s m args below meth c H locs cells slots Q (F0 m (pc + 3) ls (.long v :: rest))) : W p l e R s m args below meth c H locs cells slots Q (F0 m pc ls rest) := by
  obtain ⟨hx, hb, hml, hr, hown, hts, hlk⟩ := C
  exact lv_ldc2 hx hb hown (hts _ hw) d kk
theorem k_getfN (C : Cx p s m args meth c cc nL ret own ws) (G : Gx D cs ad s) {w : va_W} (hP : va_P D vwCl w H) {q a ci : Nat} {fs : List Value} (he : w[q]? = some (a, .inr (ci, fs))) {Cn : String} {T : u_T} {N : Nat} (hc : vwCl[ci]? = some (Cn, T, N)) (k : Nat) (hk : k < N) (hin : ∀ x ∈ u_ws Cn T N, x ∈ ws) {index : Nat} (hw : (own, index, (T k).1, (T k).2.1, (T k).2.2.1) ∈ nwF) {v : Value} (hv : fs[k]? = some v) (d : decode cc pc = .ok (.getfield index, 3))
    (kk : W p l e R s m args below meth c H locs cells slots Q (F0 m (pc + 3) ls (v :: rest))) : W p l e R s m args below meth c H locs cells slots Q (F0 m pc ls (.ref a :: rest)) := by
  obtain ⟨hx, hb, hml, hr, hown, hts, hlk⟩ := C
  exact va_getN hx hb hts hin hown G.1 hP q he hc k hk (va_Nw.use rfl (G.2.2.1 _ hw)) (fun _ h => h) hv d kk
theorem k_getiN (C : Cx p s m args meth c cc nL ret own ws) (G : Gx D cs ad s) {w : va_W} (hP : va_P D vwCl w H) {q a ci : Nat} {fs : List Value} (he : w[q]? = some (a, .inr (ci, fs))) {Cn : String} {T : u_T} {N : Nat} (hc : vwCl[ci]? = some (Cn, T, N)) (k : Nat) (hk : k < N) (hin : ∀ x ∈ u_ws Cn T N, x ∈ ws) {index : Nat} (hw : (own, index, (T k).1, (T k).2.1, (T k).2.2.1) ∈ nwF) {x z : Int32} (hv : fs[k]? = some (.int x)) (ez : z = x) (d : decode cc pc = .ok (.getfield index, 3))
    (kk : W p l e R s m args below meth c H locs cells slots Q (F0 m (pc + 3) ls (.int z :: rest))) : W p l e R s m args below meth c H locs cells slots Q (F0 m pc ls (.ref a :: rest)) := by
  subst ez
  exact k_getfN C G hP he hc k hk hin hw hv d kk
theorem k_putiN (C : Cx p s m args meth c cc nL ret own ws) (G : Gx D cs ad s) {F F' : Nat → va_E} (hP : va_P D vwCl (wMk ad F) H) (hS : va_S (Afr ad s.heap.size) s.heap H locs) {q a ci : Nat} {fs : List Value} (he : (wMk ad F)[q]? = some (a, .inr (ci, fs))) {Cn : String} {T : u_T} {N : Nat} (hc : vwCl[ci]? = some (Cn, T, N)) (k : Nat) (hk : k < N) (hin : ∀ x ∈ u_ws Cn T N, x ∈ ws) {index : Nat} (hw : (own, index, (T k).1, (T k).2.1, (T k).2.2.1) ∈ nwF) {ty0 : Nat → FieldType} (hty : ∀ k, k < N → parseFieldDescriptor (T k).2.2.1 = some (ty0 k)) (hnm : ∀ a, a < N → ∀ b, b < N → a ≠ b → (T a).2.1 ≠ (T b).2.1) (hfin : (T k).2.2.2 = false) (hd : parseFieldDescriptor (T k).2.2.1 = some .int) (hl : k < fs.length) {x : Int32} (hset : (wMk ad F).set q (a, .inr (ci, fs.set k (.int x))) = wMk ad F') (d : decode cc pc = .ok (.putfield index, 3))
    (kk : ∀ (H1 : Heap) (locs1 : List Loc), va_P D vwCl (wMk ad F') H1 → va_S (Afr ad s.heap.size) s.heap H1 locs1 → W p l e R s m args below meth c H1 locs1 cells slots Q (F0 m (pc + 3) ls rest)) : W p l e R s m args below meth c H locs cells slots Q (F0 m pc ls (.int x :: .ref a :: rest)) := by
  obtain ⟨hx, hb, hml, hr, hown, hts, hlk⟩ := C
  refine va_putN hx hb hts hin ty0 hty hnm hown G.1 hP (wMk_D G.2.1 _) hS q he hc k hk (va_Nw.use rfl (G.2.2.1 _ hw)) (fun _ h => h) hfin hd rfl rfl hl d (fun H1 locs1 h1 h2 h3 => ?_)
  rw [hset] at h1
  exact kk H1 locs1 h1 h3
theorem k_iadd (C : Cx p s m args meth c cc nL ret own ws) {x y z : Int32} (ez : z = x + y) (d : decode cc pc = .ok (.iadd, 1)) (kk : W p l e R s m args below meth c H locs cells slots Q (F0 m (pc + 1) ls (.int z :: rest))) : W p l e R s m args below meth c H locs cells slots Q (F0 m pc ls (.int y :: .int x :: rest)) := by
  subst ez
  exact lv_iadd C.1 C.2.1 d kk
theorem k_isub (C : Cx p s m args meth c cc nL ret own ws) {x y z : Int32} (ez : z = x - y) (d : decode cc pc = .ok (.isub, 1)) (kk : W p l e R s m args below meth c H locs cells slots Q (F0 m (pc + 1) ls (.int z :: rest))) : W p l e R s m args below meth c H locs cells slots Q (F0 m pc ls (.int y :: .int x :: rest)) := by
  subst ez
  exact lv_isub C.1 C.2.1 d kk
theorem k_imul (C : Cx p s m args meth c cc nL ret own ws) {x y z : Int32} (ez : z = x * y) (d : decode cc pc = .ok (.imul, 1)) (kk : W p l e R s m args below meth c H locs cells slots Q (F0 m (pc + 1) ls (.int z :: rest))) : W p l e R s m args below meth c H locs cells slots Q (F0 m pc ls (.int y :: .int x :: rest)) := by
  subst ez
  exact lv_imul C.1 C.2.1 d kk
theorem k_iand (C : Cx p s m args meth c cc nL ret own ws) {x y z : Int32} (ez : z = x &&& y) (d : decode cc pc = .ok (.iand, 1)) (kk : W p l e R s m args below meth c H locs cells slots Q (F0 m (pc + 1) ls (.int z :: rest))) : W p l e R s m args below meth c H locs cells slots Q (F0 m pc ls (.int y :: .int x :: rest)) := by
  subst ez
  exact lv_iand C.1 C.2.1 d kk
theorem k_ior (C : Cx p s m args meth c cc nL ret own ws) {x y z : Int32} (ez : z = x ||| y) (d : decode cc pc = .ok (.ior, 1)) (kk : W p l e R s m args below meth c H locs cells slots Q (F0 m (pc + 1) ls (.int z :: rest))) : W p l e R s m args below meth c H locs cells slots Q (F0 m pc ls (.int y :: .int x :: rest)) := by
  subst ez
  exact lv_ior C.1 C.2.1 d kk
theorem k_ishl (C : Cx p s m args meth c cc nL ret own ws) {x y z : Int32} (ez : z = x <<< (y &&& 31)) (d : decode cc pc = .ok (.ishl, 1)) (kk : W p l e R s m args below meth c H locs cells slots Q (F0 m (pc + 1) ls (.int z :: rest))) : W p l e R s m args below meth c H locs cells slots Q (F0 m pc ls (.int y :: .int x :: rest)) := by
  subst ez
  exact lv_ishl C.1 C.2.1 d kk
theorem k_ishr (C : Cx p s m args meth c cc nL ret own ws) {x y z : Int32} (ez : z = x >>> (y &&& 31)) (d : decode cc pc = .ok (.ishr, 1)) (kk : W p l e R s m args below meth c H locs cells slots Q (F0 m (pc + 1) ls (.int z :: rest))) : W p l e R s m args below meth c H locs cells slots Q (F0 m pc ls (.int y :: .int x :: rest)) := by
  subst ez
  exact lv_ishr C.1 C.2.1 d kk
theorem k_ladd (C : Cx p s m args meth c cc nL ret own ws) {x y z : Int64} (ez : z = x + y) (d : decode cc pc = .ok (.ladd, 1)) (kk : W p l e R s m args below meth c H locs cells slots Q (F0 m (pc + 1) ls (.long z :: rest))) : W p l e R s m args below meth c H locs cells slots Q (F0 m pc ls (.long y :: .long x :: rest)) := by
  subst ez
  exact lv_ladd C.1 C.2.1 d kk
theorem k_lmul (C : Cx p s m args meth c cc nL ret own ws) {x y z : Int64} (ez : z = x * y) (d : decode cc pc = .ok (.lmul, 1)) (kk : W p l e R s m args below meth c H locs cells slots Q (F0 m (pc + 1) ls (.long z :: rest))) : W p l e R s m args below meth c H locs cells slots Q (F0 m pc ls (.long y :: .long x :: rest)) := by
  subst ez
  exact lv_lmul C.1 C.2.1 d kk
theorem k_lsub (C : Cx p s m args meth c cc nL ret own ws) {x y z : Int64} (ez : z = x - y) (d : decode cc pc = .ok (.lsub, 1)) (kk : W p l e R s m args below meth c H locs cells slots Q (F0 m (pc + 1) ls (.long z :: rest))) : W p l e R s m args below meth c H locs cells slots Q (F0 m pc ls (.long y :: .long x :: rest)) := by
  subst ez
  exact lv_lsub C.1 C.2.1 d kk
theorem k_idiv (C : Cx p s m args meth c cc nL ret own ws) {x y z : Int32} (h0 : ¬ y = 0) (ez : z = x / y) (d : decode cc pc = .ok (.idiv, 1)) (kk : W p l e R s m args below meth c H locs cells slots Q (F0 m (pc + 1) ls (.int z :: rest))) : W p l e R s m args below meth c H locs cells slots Q (F0 m pc ls (.int y :: .int x :: rest)) := by
  subst ez
  exact lv_idiv C.1 C.2.1 d h0 kk
theorem k_irem (C : Cx p s m args meth c cc nL ret own ws) {x y z : Int32} (h0 : ¬ y = 0) (ez : z = x - x / y * y) (d : decode cc pc = .ok (.irem, 1)) (kk : W p l e R s m args below meth c H locs cells slots Q (F0 m (pc + 1) ls (.int z :: rest))) : W p l e R s m args below meth c H locs cells slots Q (F0 m pc ls (.int y :: .int x :: rest)) := by
  subst ez
  exact lv_irem C.1 C.2.1 d h0 kk
theorem k_ldiv (C : Cx p s m args meth c cc nL ret own ws) {x y z : Int64} (h0 : ¬ y = 0) (ez : z = x / y) (d : decode cc pc = .ok (.ldiv, 1)) (kk : W p l e R s m args below meth c H locs cells slots Q (F0 m (pc + 1) ls (.long z :: rest))) : W p l e R s m args below meth c H locs cells slots Q (F0 m pc ls (.long y :: .long x :: rest)) := by
  subst ez
  exact lv_ldiv C.1 C.2.1 d h0 kk
theorem k_lrem (C : Cx p s m args meth c cc nL ret own ws) {x y z : Int64} (h0 : ¬ y = 0) (ez : z = x - x / y * y) (d : decode cc pc = .ok (.lrem, 1)) (kk : W p l e R s m args below meth c H locs cells slots Q (F0 m (pc + 1) ls (.long z :: rest))) : W p l e R s m args below meth c H locs cells slots Q (F0 m pc ls (.long y :: .long x :: rest)) := by
  subst ez
  exact lv_lrem C.1 C.2.1 d h0 kk
theorem k_i2l (C : Cx p s m args meth c cc nL ret own ws) {x : Int32} {z : Int64} (ez : z = x.toInt64) (d : decode cc pc = .ok (.i2l, 1)) (kk : W p l e R s m args below meth c H locs cells slots Q (F0 m (pc + 1) ls (.long z :: rest))) : W p l e R s m args below meth c H locs cells slots Q (F0 m pc ls (.int x :: rest)) := lv_i2l C.1 C.2.1 d ez.symm kk
theorem k_l2i (C : Cx p s m args meth c cc nL ret own ws) {x : Int64} {z : Int32} (ez : z = x.toInt32) (d : decode cc pc = .ok (.l2i, 1)) (kk : W p l e R s m args below meth c H locs cells slots Q (F0 m (pc + 1) ls (.int z :: rest))) : W p l e R s m args below meth c H locs cells slots Q (F0 m pc ls (.long x :: rest)) := lv_l2i C.1 C.2.1 d ez.symm kk
theorem k_iret (C : Cx p s m args meth c cc nL (some .int) own ws) {w : va_W} (hP : va_P D vwCl w H) (hS : va_S (Afr ad s.heap.size) s.heap H locs) {v : Int32} (d : decode cc pc = .ok (.ireturn, 1)) : W p l e R s m args below meth c H locs cells slots (MQ below (va_Qi (fun r' (_ : Unit) => r' = v) (fun _ t => va_P D vwCl w t.heap) (Afr ad s.heap.size)) args s cells slots (Afr ad s.heap.size)) (F0 m pc ls [.int v]) := by
  obtain ⟨hx, hb, hml, hr, hown, hts, hlk⟩ := C
  exact W.iret hx hb hr (fun t ht hW => ⟨⟨v, (), rfl, rfl, by show va_P D vwCl w t.heap; rw [ht]; exact hP⟩, hS.F ht⟩) hS.2.2 d hlk
theorem k_zret (C : Cx p s m args meth c cc nL (some .boolean) own ws) {w : va_W} (hP : va_P D vwCl w H) (hS : va_S (Afr ad s.heap.size) s.heap H locs) {v : Int32} (hn : narrow .boolean (.int v) = .int v) (d : decode cc pc = .ok (.ireturn, 1)) : W p l e R s m args below meth c H locs cells slots (MQ below (va_Qi (fun r' (_ : Unit) => r' = v) (fun _ t => va_P D vwCl w t.heap) (Afr ad s.heap.size)) args s cells slots (Afr ad s.heap.size)) (F0 m pc ls [.int v]) := by
  obtain ⟨hx, hb, hml, hr, hown, hts, hlk⟩ := C
  exact W.zret hx hb hr hn (fun t ht hW => ⟨⟨v, (), rfl, rfl, by show va_P D vwCl w t.heap; rw [ht]; exact hP⟩, hS.F ht⟩) hS.2.2 d hlk
theorem k_lret (C : Cx p s m args meth c cc nL (some .long) own ws) {w : va_W} (hP : va_P D vwCl w H) (hS : va_S (Afr ad s.heap.size) s.heap H locs) {v : Int64} (d : decode cc pc = .ok (.lreturn, 1)) : W p l e R s m args below meth c H locs cells slots (MQ below (va_Ql (fun r' (_ : Unit) => r' = v) (fun _ t => va_P D vwCl w t.heap) (Afr ad s.heap.size)) args s cells slots (Afr ad s.heap.size)) (F0 m pc ls [.long v]) := by
  obtain ⟨hx, hb, hml, hr, hown, hts, hlk⟩ := C
  exact W.lret hx hb hr (fun t ht hW => ⟨⟨v, (), rfl, rfl, by show va_P D vwCl w t.heap; rw [ht]; exact hP⟩, hS.F ht⟩) hS.2.2 d hlk
theorem k_vret (C : Cx p s m args meth c cc nL none own ws) {w : va_W} (hP : va_P D vwCl w H) (hS : va_S (Afr ad s.heap.size) s.heap H locs) (d : decode cc pc = .ok (.return_, 1)) : W p l e R s m args below meth c H locs cells slots (MQ below (va_Qv (fun (_ : Unit) => True) (fun _ t => va_P D vwCl w t.heap) (Afr ad s.heap.size)) args s cells slots (Afr ad s.heap.size)) (F0 m pc ls []) := by
  obtain ⟨hx, hb, hml, hr, hown, hts, hlk⟩ := C
  exact W.vret hx hb hr (fun t ht hW => ⟨⟨(), rfl, trivial, by show va_P D vwCl w t.heap; rw [ht]; exact hP⟩, hS.F ht⟩) hS.2.2 d hlk
/-- a contract out of a walk from pc 0 -/
theorem k_met {y : MethodName} {wsy ws' : List Cond} {rm : Room} {w : va_W} {av : List Value} {sz mc ms : Nat} {Qc : Array Value → State → Outcome → State → Prop} (hy : plainName y.cls = true) (hw : wsy = Cond.code y cc nL ret :: ws') (hlen : (lg_sl av).length ≤ nL) (hAd : adOK ad)
    (body : ∀ (p : Program) (e : Env) (s : State) (m : MethodId) (below : List Frame) (meth : Method) (c : Code) (ls : Array Slot), Cx p s m av.toArray meth c cc nL ret y.cls wsy → Gx D cs ad s → va_P D vwCl w s.heap → s.heap.size = sz → lv_has ls nL (lv_args 0 av) → va_S (Afr ad s.heap.size) s.heap s.heap [] → W p l e rm s m av.toArray below meth c s.heap [] 0 0 (MQ below Qc av.toArray s mc ms (Afr ad sz)) (F0 m 0 ls [])) : Met l y wsy rm (PA D cs sz w av) Qc mc ms (Afr ad sz) := by
  refine Met.ofW (cc := cc) (maxL := nL) (ret := ret) hy hw ?_
  intro p e s m args below meth c s₁ B hml hv
  obtain ⟨rfl, hsz, hP, hK, hN⟩ := hv
  have hl := lv_entry av (n := nL) hlen
  rw [lg_entry_eq]
  generalize (lg_sl av ++ List.replicate (nL - (lg_sl av).length) Slot.unset).toArray = ls at hl ⊢
  exact body p e s m below meth c ls ⟨B.exec, B.bytes, hml, B.returns, findClass_of_methodNamed B.named, atoms_spec (ws := wsy) B.pre, B.notSynchronized⟩ ⟨hK, hAd, hN⟩ hP hsz hl va_S.rf
theorem k_callVi (C : Cx p s m args meth c cc nL ret own ws) (G : Gx D cs ad s) {w w' : va_W} (hP : va_P D vwCl w H) (hS : va_S (Afr ad s.heap.size) s.heap H locs) {y : MethodName} {wsy : List Cond} {rm : Room} {b : Nat} {As : List Value} {r : Int32} {mc ms : Nat} (hM : Met l y wsy rm (PA D cs H.size w (.ref b :: As)) (va_Qi (fun r' (_ : Unit) => r' = r) (fun _ t => va_P D vwCl w' t.heap) (Afr ad H.size)) mc ms (Afr ad H.size)) {q ci : Nat} {fs : List Value} {Cn : String} {T : u_T} {N : Nat} (he : w[q]? = some (b, .inr (ci, fs))) (hc : vwCl[ci]? = some (Cn, T, N)) {index : Nat} {bytes : ByteArray} {maxL n : Nat} {retY : Option FieldType} (cw : CallW R s args own Cn index y bytes maxL retY wsy rm mc ms n) {st0 : List Value} (hn : As.length = n) (hsz : ls.size = nL) (hst : st0 = As.reverse ++ .ref b :: rest) (hroom : (rest.map fun v => v.category).sum ≤ 8) (d : decode cc pc = .ok (.invokevirtual index, 3)) (hf : cells + mc ≤ R.cells ∧ slots + ms ≤ R.slots)
    (kk : ∀ (H1 : Heap) (locs1 : List Loc), va_P D vwCl w' H1 → va_S (Afr ad s.heap.size) s.heap H1 locs1 → W p l e R s m args below meth c H1 locs1 (cells + mc) (slots + ms) Q (F0 m (pc + 3) ls (.int r :: rest))) : W p l e R s m args below meth c H locs cells slots Q (F0 m pc ls st0) := by
  obtain ⟨hx, hb, hml, hr, hown, hts, hlk⟩ := C
  refine va_calli (va_runV ⟨hx, hb, hml, hown, hts⟩ hM cw ⟨PA_blind, va_recv G.1 hP hc he, fun U hU hW => ⟨rfl, by rw [hU], by rw [hU]; exact hP, va_K.moved hW.alike G.1, NW.warm hW G.2.2⟩⟩ rfl hn hsz hst (lv_room hroom) d hf) hS (fun q _ h => Afr.mono hS.1 h) (fun q h => Afr.mono hS.1 h) (fun r1 u t H1 locs1 ht hvm hw hB hz1 hk1 hS1 => ?_)
  rw [ht] at hB
  rw [hw]
  exact kk H1 locs1 hB hS1
theorem k_callVv (C : Cx p s m args meth c cc nL ret own ws) (G : Gx D cs ad s) {w w' : va_W} (hP : va_P D vwCl w H) (hS : va_S (Afr ad s.heap.size) s.heap H locs) {y : MethodName} {wsy : List Cond} {rm : Room} {b : Nat} {As : List Value} {mc ms : Nat} (hM : Met l y wsy rm (PA D cs H.size w (.ref b :: As)) (va_Qv (fun (_ : Unit) => True) (fun _ t => va_P D vwCl w' t.heap) (Afr ad H.size)) mc ms (Afr ad H.size)) {q ci : Nat} {fs : List Value} {Cn : String} {T : u_T} {N : Nat} (he : w[q]? = some (b, .inr (ci, fs))) (hc : vwCl[ci]? = some (Cn, T, N)) {index : Nat} {bytes : ByteArray} {maxL n : Nat} {retY : Option FieldType} (cw : CallW R s args own Cn index y bytes maxL retY wsy rm mc ms n) {st0 : List Value} (hn : As.length = n) (hsz : ls.size = nL) (hst : st0 = As.reverse ++ .ref b :: rest) (hroom : (rest.map fun v => v.category).sum ≤ 8) (d : decode cc pc = .ok (.invokevirtual index, 3)) (hf : cells + mc ≤ R.cells ∧ slots + ms ≤ R.slots)
    (kk : ∀ (H1 : Heap) (locs1 : List Loc), va_P D vwCl w' H1 → va_S (Afr ad s.heap.size) s.heap H1 locs1 → W p l e R s m args below meth c H1 locs1 (cells + mc) (slots + ms) Q (F0 m (pc + 3) ls rest)) : W p l e R s m args below meth c H locs cells slots Q (F0 m pc ls st0) := by
  obtain ⟨hx, hb, hml, hr, hown, hts, hlk⟩ := C
  refine va_callv (va_runV ⟨hx, hb, hml, hown, hts⟩ hM cw ⟨PA_blind, va_recv G.1 hP hc he, fun U hU hW => ⟨rfl, by rw [hU], by rw [hU]; exact hP, va_K.moved hW.alike G.1, NW.warm hW G.2.2⟩⟩ rfl hn hsz hst (lv_room hroom) d hf) hS (fun q _ h => Afr.mono hS.1 h) (fun q h => Afr.mono hS.1 h) (fun u t H1 locs1 ht hvm hw hB hz1 hk1 hS1 => ?_)
  rw [ht] at hB
  exact kk H1 locs1 hB hS1
theorem k_callVl (C : Cx p s m args meth c cc nL ret own ws) (G : Gx D cs ad s) {w w' : va_W} (hP : va_P D vwCl w H) (hS : va_S (Afr ad s.heap.size) s.heap H locs) {y : MethodName} {wsy : List Cond} {rm : Room} {b : Nat} {As : List Value} {r : Int64} {mc ms : Nat} (hM : Met l y wsy rm (PA D cs H.size w (.ref b :: As)) (va_Ql (fun r' (_ : Unit) => r' = r) (fun _ t => va_P D vwCl w' t.heap) (Afr ad H.size)) mc ms (Afr ad H.size)) {q ci : Nat} {fs : List Value} {Cn : String} {T : u_T} {N : Nat} (he : w[q]? = some (b, .inr (ci, fs))) (hc : vwCl[ci]? = some (Cn, T, N)) {index : Nat} {bytes : ByteArray} {maxL n : Nat} {retY : Option FieldType} (cw : CallW R s args own Cn index y bytes maxL retY wsy rm mc ms n) {st0 : List Value} (hn : As.length = n) (hsz : ls.size = nL) (hst : st0 = As.reverse ++ .ref b :: rest) (hroom : (rest.map fun v => v.category).sum ≤ 8) (d : decode cc pc = .ok (.invokevirtual index, 3)) (hf : cells + mc ≤ R.cells ∧ slots + ms ≤ R.slots)
    (kk : ∀ (H1 : Heap) (locs1 : List Loc), va_P D vwCl w' H1 → va_S (Afr ad s.heap.size) s.heap H1 locs1 → W p l e R s m args below meth c H1 locs1 (cells + mc) (slots + ms) Q (F0 m (pc + 3) ls (.long r :: rest))) : W p l e R s m args below meth c H locs cells slots Q (F0 m pc ls st0) := by
  obtain ⟨hx, hb, hml, hr, hown, hts, hlk⟩ := C
  refine va_calll (va_runV ⟨hx, hb, hml, hown, hts⟩ hM cw ⟨PA_blind, va_recv G.1 hP hc he, fun U hU hW => ⟨rfl, by rw [hU], by rw [hU]; exact hP, va_K.moved hW.alike G.1, NW.warm hW G.2.2⟩⟩ rfl hn hsz hst (lv_room hroom) d hf) hS (fun q _ h => Afr.mono hS.1 h) (fun q h => Afr.mono hS.1 h) (fun r1 u t H1 locs1 ht hvm hw hB hz1 hk1 hS1 => ?_)
  rw [ht] at hB
  rw [hw]
  exact kk H1 locs1 hB hS1
theorem k_callSi (C : Cx p s m args meth c cc nL ret own ws) (G : Gx D cs ad s) {w w' : va_W} (hP : va_P D vwCl w H) (hS : va_S (Afr ad s.heap.size) s.heap H locs) {y : MethodName} {wsy : List Cond} {rm : Room} {As : List Value} {r : Int32} {mc ms : Nat} (hM : Met l y wsy rm (PA D cs H.size w (As)) (va_Qi (fun r' (_ : Unit) => r' = r) (fun _ t => va_P D vwCl w' t.heap) (Afr ad H.size)) mc ms (Afr ad H.size)) {index : Nat} {bytes : ByteArray} {maxL n : Nat} {retY : Option FieldType} (cw : CallB R s args own index y bytes maxL retY wsy rm mc ms n ∧ (Cond.static y).before args s = true) {st0 : List Value} (hn : As.length = n) (hsz : ls.size = nL) (hst : st0 = As.reverse ++ rest) (hroom : (rest.map fun v => v.category).sum ≤ 8) (d : decode cc pc = .ok (.invokestatic index, 3)) (hf : cells + mc ≤ R.cells ∧ slots + ms ≤ R.slots)
    (kk : ∀ (H1 : Heap) (locs1 : List Loc), va_P D vwCl w' H1 → va_S (Afr ad s.heap.size) s.heap H1 locs1 → W p l e R s m args below meth c H1 locs1 (cells + mc) (slots + ms) Q (F0 m (pc + 3) ls (.int r :: rest))) : W p l e R s m args below meth c H locs cells slots Q (F0 m pc ls st0) := by
  obtain ⟨hx, hb, hml, hr, hown, hts, hlk⟩ := C
  refine va_calli (va_runS ⟨hx, hb, hml, hown, hts⟩ hM cw ⟨PA_blind, fun U hU hW => ⟨rfl, by rw [hU], by rw [hU]; exact hP, va_K.moved hW.alike G.1, NW.warm hW G.2.2⟩⟩ rfl hn hsz hst (lv_room hroom) d hf) hS (fun q _ h => Afr.mono hS.1 h) (fun q h => Afr.mono hS.1 h) (fun r1 u t H1 locs1 ht hvm hw hB hz1 hk1 hS1 => ?_)
  rw [ht] at hB
  rw [hw]
  exact kk H1 locs1 hB hS1
theorem k_callSv (C : Cx p s m args meth c cc nL ret own ws) (G : Gx D cs ad s) {w w' : va_W} (hP : va_P D vwCl w H) (hS : va_S (Afr ad s.heap.size) s.heap H locs) {y : MethodName} {wsy : List Cond} {rm : Room} {As : List Value} {mc ms : Nat} (hM : Met l y wsy rm (PA D cs H.size w (As)) (va_Qv (fun (_ : Unit) => True) (fun _ t => va_P D vwCl w' t.heap) (Afr ad H.size)) mc ms (Afr ad H.size)) {index : Nat} {bytes : ByteArray} {maxL n : Nat} {retY : Option FieldType} (cw : CallB R s args own index y bytes maxL retY wsy rm mc ms n ∧ (Cond.static y).before args s = true) {st0 : List Value} (hn : As.length = n) (hsz : ls.size = nL) (hst : st0 = As.reverse ++ rest) (hroom : (rest.map fun v => v.category).sum ≤ 8) (d : decode cc pc = .ok (.invokestatic index, 3)) (hf : cells + mc ≤ R.cells ∧ slots + ms ≤ R.slots)
    (kk : ∀ (H1 : Heap) (locs1 : List Loc), va_P D vwCl w' H1 → va_S (Afr ad s.heap.size) s.heap H1 locs1 → W p l e R s m args below meth c H1 locs1 (cells + mc) (slots + ms) Q (F0 m (pc + 3) ls rest)) : W p l e R s m args below meth c H locs cells slots Q (F0 m pc ls st0) := by
  obtain ⟨hx, hb, hml, hr, hown, hts, hlk⟩ := C
  refine va_callv (va_runS ⟨hx, hb, hml, hown, hts⟩ hM cw ⟨PA_blind, fun U hU hW => ⟨rfl, by rw [hU], by rw [hU]; exact hP, va_K.moved hW.alike G.1, NW.warm hW G.2.2⟩⟩ rfl hn hsz hst (lv_room hroom) d hf) hS (fun q _ h => Afr.mono hS.1 h) (fun q h => Afr.mono hS.1 h) (fun u t H1 locs1 ht hvm hw hB hz1 hk1 hS1 => ?_)
  rw [ht] at hB
  exact kk H1 locs1 hB hS1
theorem k_callSl (C : Cx p s m args meth c cc nL ret own ws) (G : Gx D cs ad s) {w w' : va_W} (hP : va_P D vwCl w H) (hS : va_S (Afr ad s.heap.size) s.heap H locs) {y : MethodName} {wsy : List Cond} {rm : Room} {As : List Value} {r : Int64} {mc ms : Nat} (hM : Met l y wsy rm (PA D cs H.size w (As)) (va_Ql (fun r' (_ : Unit) => r' = r) (fun _ t => va_P D vwCl w' t.heap) (Afr ad H.size)) mc ms (Afr ad H.size)) {index : Nat} {bytes : ByteArray} {maxL n : Nat} {retY : Option FieldType} (cw : CallB R s args own index y bytes maxL retY wsy rm mc ms n ∧ (Cond.static y).before args s = true) {st0 : List Value} (hn : As.length = n) (hsz : ls.size = nL) (hst : st0 = As.reverse ++ rest) (hroom : (rest.map fun v => v.category).sum ≤ 8) (d : decode cc pc = .ok (.invokestatic index, 3)) (hf : cells + mc ≤ R.cells ∧ slots + ms ≤ R.slots)
    (kk : ∀ (H1 : Heap) (locs1 : List Loc), va_P D vwCl w' H1 → va_S (Afr ad s.heap.size) s.heap H1 locs1 → W p l e R s m args below meth c H1 locs1 (cells + mc) (slots + ms) Q (F0 m (pc + 3) ls (.long r :: rest))) : W p l e R s m args below meth c H locs cells slots Q (F0 m pc ls st0) := by
  obtain ⟨hx, hb, hml, hr, hown, hts, hlk⟩ := C
  refine va_calll (va_runS ⟨hx, hb, hml, hown, hts⟩ hM cw ⟨PA_blind, fun U hU hW => ⟨rfl, by rw [hU], by rw [hU]; exact hP, va_K.moved hW.alike G.1, NW.warm hW G.2.2⟩⟩ rfl hn hsz hst (lv_room hroom) d hf) hS (fun q _ h => Afr.mono hS.1 h) (fun q h => Afr.mono hS.1 h) (fun r1 u t H1 locs1 ht hvm hw hB hz1 hk1 hS1 => ?_)
  rw [ht] at hB
  rw [hw]
  exact kk H1 locs1 hB hS1
theorem k_callSNi (C : Cx p s m args meth c cc nL ret own ws) (G : Gx D cs ad s) {w w' : va_W} (hP : va_P D vwCl w H) (hS : va_S (Afr ad s.heap.size) s.heap H locs) {y : MethodName} {wsy : List Cond} {rm : Room} {As : List Value} {r : Int32} {mc ms : Nat} (hM : Met l y wsy rm (PA D cs H.size w As) (va_Qi (fun r' (_ : Unit) => r' = r) (fun _ t => va_P D vwCl w' t.heap) (Afr ad H.size)) mc ms (Afr ad H.size)) {index : Nat} {bytes : ByteArray} {maxL n : Nat} {retY : Option FieldType} (cw : va_CN R s args own index y "LineBuffers" bytes maxL retY wsy rm mc ms n ∧ (Cond.static y).before args s = true ∧ True) {st0 : List Value} (hn : As.length = n) (hsz : ls.size = nL) (hst : st0 = As.reverse ++ rest) (hroom : (rest.map fun v => v.category).sum ≤ 8) (d : decode cc pc = .ok (.invokestatic index, 3)) (hf : cells + mc ≤ R.cells ∧ slots + ms ≤ R.slots)
    (kk : ∀ (H1 : Heap) (locs1 : List Loc), va_P D vwCl w' H1 → va_S (Afr ad s.heap.size) s.heap H1 locs1 → W p l e R s m args below meth c H1 locs1 (cells + mc) (slots + ms) Q (F0 m (pc + 3) ls (.int r :: rest))) : W p l e R s m args below meth c H locs cells slots Q (F0 m pc ls st0) := by
  obtain ⟨hx, hb, hml, hr, hown, hts, hlk⟩ := C
  refine va_calli (va_runSN ⟨hx, hb, hml, hown, hts⟩ hM cw ⟨PA_blind, fun U hU hW => ⟨rfl, by rw [hU], by rw [hU]; exact hP, va_K.moved hW.alike G.1, NW.warm hW G.2.2⟩⟩ rfl hn hsz hst (lv_room hroom) d hf) hS (fun q _ h => Afr.mono hS.1 h) (fun q h => Afr.mono hS.1 h) (fun r1 u t H1 locs1 ht hvm hw hB hz1 hk1 hS1 => ?_)
  rw [ht] at hB
  rw [hw]
  exact kk H1 locs1 hB hS1
end ROWS
end
section
theorem dJ9_min_7cf53_0 : decode cJ9_min_7cf53 0 = .ok (.iload_n 0, 1) := by decide +kernel
theorem dJ9_min_7cf53_1 : decode cJ9_min_7cf53 1 = .ok (.iload_n 1, 1) := by decide +kernel
theorem dJ9_min_7cf53_2 : decode cJ9_min_7cf53 2 = .ok (.if_icmp .gt 7, 3) := by decide +kernel
theorem dJ9_min_7cf53_5 : decode cJ9_min_7cf53 5 = .ok (.iload_n 0, 1) := by decide +kernel
theorem dJ9_min_7cf53_6 : decode cJ9_min_7cf53 6 = .ok (.goto 4, 3) := by decide +kernel
theorem dJ9_min_7cf53_9 : decode cJ9_min_7cf53 9 = .ok (.iload_n 1, 1) := by decide +kernel
theorem dJ9_min_7cf53_10 : decode cJ9_min_7cf53 10 = .ok (.ireturn, 1) := by decide +kernel
end
section
theorem dX4_init_0 : decode cX4_init 0 = .ok (.aload_n 0, 1) := by decide +kernel
theorem dX4_init_1 : decode cX4_init 1 = .ok (.invokespecial 3, 3) := by decide +kernel
theorem dX4_init_4 : decode cX4_init 4 = .ok (.aload_n 0, 1) := by decide +kernel
theorem dX4_init_5 : decode cX4_init 5 = .ok (.bipush 40, 2) := by decide +kernel
theorem dX4_init_7 : decode cX4_init 7 = .ok (.newarray .int, 2) := by decide +kernel
theorem dX4_init_9 : decode cX4_init 9 = .ok (.putfield 9, 3) := by decide +kernel
theorem dX4_init_12 : decode cX4_init 12 = .ok (.aload_n 0, 1) := by decide +kernel
theorem dX4_init_13 : decode cX4_init 13 = .ok (.bipush 40, 2) := by decide +kernel
theorem dX4_init_15 : decode cX4_init 15 = .ok (.newarray .int, 2) := by decide +kernel
theorem dX4_init_17 : decode cX4_init 17 = .ok (.putfield 15, 3) := by decide +kernel
theorem dX4_init_20 : decode cX4_init 20 = .ok (.aload_n 0, 1) := by decide +kernel
theorem dX4_init_21 : decode cX4_init 21 = .ok (.bipush 40, 2) := by decide +kernel
theorem dX4_init_23 : decode cX4_init 23 = .ok (.newarray .int, 2) := by decide +kernel
theorem dX4_init_25 : decode cX4_init 25 = .ok (.putfield 18, 3) := by decide +kernel
theorem dX4_init_28 : decode cX4_init 28 = .ok (.return_, 1) := by decide +kernel
theorem dX4_copy_0 : decode cX4_copy 0 = .ok (.aload_n 0, 1) := by decide +kernel
theorem dX4_copy_1 : decode cX4_copy 1 = .ok (.getfield 21, 3) := by decide +kernel
theorem dX4_copy_4 : decode cX4_copy 4 = .ok (.istore_n 2, 1) := by decide +kernel
theorem dX4_copy_5 : decode cX4_copy 5 = .ok (.aload_n 0, 1) := by decide +kernel
theorem dX4_copy_6 : decode cX4_copy 6 = .ok (.getfield 9, 3) := by decide +kernel
theorem dX4_copy_9 : decode cX4_copy 9 = .ok (.iconst 0, 1) := by decide +kernel
theorem dX4_copy_10 : decode cX4_copy 10 = .ok (.aload_n 1, 1) := by decide +kernel
theorem dX4_copy_11 : decode cX4_copy 11 = .ok (.getfield 9, 3) := by decide +kernel
theorem dX4_copy_14 : decode cX4_copy 14 = .ok (.iconst 0, 1) := by decide +kernel
theorem dX4_copy_15 : decode cX4_copy 15 = .ok (.iload_n 2, 1) := by decide +kernel
theorem dX4_copy_16 : decode cX4_copy 16 = .ok (.invokestatic 25, 3) := by decide +kernel
theorem dX4_copy_19 : decode cX4_copy 19 = .ok (.aload_n 0, 1) := by decide +kernel
theorem dX4_copy_20 : decode cX4_copy 20 = .ok (.getfield 15, 3) := by decide +kernel
theorem dX4_copy_23 : decode cX4_copy 23 = .ok (.iconst 0, 1) := by decide +kernel
theorem dX4_copy_24 : decode cX4_copy 24 = .ok (.aload_n 1, 1) := by decide +kernel
theorem dX4_copy_25 : decode cX4_copy 25 = .ok (.getfield 15, 3) := by decide +kernel
theorem dX4_copy_28 : decode cX4_copy 28 = .ok (.iconst 0, 1) := by decide +kernel
theorem dX4_copy_29 : decode cX4_copy 29 = .ok (.iload_n 2, 1) := by decide +kernel
theorem dX4_copy_30 : decode cX4_copy 30 = .ok (.invokestatic 25, 3) := by decide +kernel
theorem dX4_copy_33 : decode cX4_copy 33 = .ok (.aload_n 0, 1) := by decide +kernel
theorem dX4_copy_34 : decode cX4_copy 34 = .ok (.getfield 18, 3) := by decide +kernel
theorem dX4_copy_37 : decode cX4_copy 37 = .ok (.iconst 0, 1) := by decide +kernel
theorem dX4_copy_38 : decode cX4_copy 38 = .ok (.aload_n 1, 1) := by decide +kernel
theorem dX4_copy_39 : decode cX4_copy 39 = .ok (.getfield 18, 3) := by decide +kernel
theorem dX4_copy_42 : decode cX4_copy 42 = .ok (.iconst 0, 1) := by decide +kernel
theorem dX4_copy_43 : decode cX4_copy 43 = .ok (.iload_n 2, 1) := by decide +kernel
theorem dX4_copy_44 : decode cX4_copy 44 = .ok (.invokestatic 25, 3) := by decide +kernel
theorem dX4_copy_47 : decode cX4_copy 47 = .ok (.aload_n 1, 1) := by decide +kernel
theorem dX4_copy_48 : decode cX4_copy 48 = .ok (.iload_n 2, 1) := by decide +kernel
theorem dX4_copy_49 : decode cX4_copy 49 = .ok (.putfield 21, 3) := by decide +kernel
theorem dX4_copy_52 : decode cX4_copy 52 = .ok (.return_, 1) := by decide +kernel
theorem dX4_plan_0 : decode cX4_plan 0 = .ok (.aload_n 0, 1) := by decide +kernel
theorem dX4_plan_1 : decode cX4_plan 1 = .ok (.getfield 21, 3) := by decide +kernel
theorem dX4_plan_4 : decode cX4_plan 4 = .ok (.bipush 40, 2) := by decide +kernel
theorem dX4_plan_6 : decode cX4_plan 6 = .ok (.if_icmp .ge 43, 3) := by decide +kernel
theorem dX4_plan_9 : decode cX4_plan 9 = .ok (.aload_n 0, 1) := by decide +kernel
theorem dX4_plan_10 : decode cX4_plan 10 = .ok (.getfield 9, 3) := by decide +kernel
theorem dX4_plan_13 : decode cX4_plan 13 = .ok (.aload_n 0, 1) := by decide +kernel
theorem dX4_plan_14 : decode cX4_plan 14 = .ok (.getfield 21, 3) := by decide +kernel
theorem dX4_plan_17 : decode cX4_plan 17 = .ok (.iload_n 1, 1) := by decide +kernel
theorem dX4_plan_18 : decode cX4_plan 18 = .ok (.iastore, 1) := by decide +kernel
theorem dX4_plan_19 : decode cX4_plan 19 = .ok (.aload_n 0, 1) := by decide +kernel
theorem dX4_plan_20 : decode cX4_plan 20 = .ok (.getfield 15, 3) := by decide +kernel
theorem dX4_plan_23 : decode cX4_plan 23 = .ok (.aload_n 0, 1) := by decide +kernel
theorem dX4_plan_24 : decode cX4_plan 24 = .ok (.getfield 21, 3) := by decide +kernel
theorem dX4_plan_27 : decode cX4_plan 27 = .ok (.iload_n 2, 1) := by decide +kernel
theorem dX4_plan_28 : decode cX4_plan 28 = .ok (.iastore, 1) := by decide +kernel
theorem dX4_plan_29 : decode cX4_plan 29 = .ok (.aload_n 0, 1) := by decide +kernel
theorem dX4_plan_30 : decode cX4_plan 30 = .ok (.getfield 18, 3) := by decide +kernel
theorem dX4_plan_33 : decode cX4_plan 33 = .ok (.aload_n 0, 1) := by decide +kernel
theorem dX4_plan_34 : decode cX4_plan 34 = .ok (.getfield 21, 3) := by decide +kernel
theorem dX4_plan_37 : decode cX4_plan 37 = .ok (.iload_n 3, 1) := by decide +kernel
theorem dX4_plan_38 : decode cX4_plan 38 = .ok (.iastore, 1) := by decide +kernel
theorem dX4_plan_39 : decode cX4_plan 39 = .ok (.aload_n 0, 1) := by decide +kernel
theorem dX4_plan_40 : decode cX4_plan 40 = .ok (.dup, 1) := by decide +kernel
theorem dX4_plan_41 : decode cX4_plan 41 = .ok (.getfield 21, 3) := by decide +kernel
theorem dX4_plan_44 : decode cX4_plan 44 = .ok (.iconst 1, 1) := by decide +kernel
theorem dX4_plan_45 : decode cX4_plan 45 = .ok (.iadd, 1) := by decide +kernel
theorem dX4_plan_46 : decode cX4_plan 46 = .ok (.putfield 21, 3) := by decide +kernel
theorem dX4_plan_49 : decode cX4_plan 49 = .ok (.return_, 1) := by decide +kernel
set_option maxRecDepth 20000 in
theorem ggX4_dropAfter_X4_plan : GoodIn wsX4_dropAfter wsX4_plan := goodIn_r _ [9, 1, 3, 2, 4, 10, 11, 12, 13, 14] (by decide +kernel) (by decide +kernel)
set_option maxRecDepth 20000 in
theorem gX4_dropAfter_X4_plan : GoodIn wsX4_dropAfter (wsV RX4 31 RX4 yX4_plan wsX4_plan) := goodIn_app (goodIn_of _ (by decide +kernel)) ggX4_dropAfter_X4_plan
theorem dX4_dropAfter_0 : decode cX4_dropAfter 0 = .ok (.aload_n 0, 1) := by decide +kernel
theorem dX4_dropAfter_1 : decode cX4_dropAfter 1 = .ok (.getfield 21, 3) := by decide +kernel
theorem dX4_dropAfter_4 : decode cX4_dropAfter 4 = .ok (.istore_n 2, 1) := by decide +kernel
theorem dX4_dropAfter_5 : decode cX4_dropAfter 5 = .ok (.aload_n 0, 1) := by decide +kernel
theorem dX4_dropAfter_6 : decode cX4_dropAfter 6 = .ok (.iconst 0, 1) := by decide +kernel
theorem dX4_dropAfter_7 : decode cX4_dropAfter 7 = .ok (.putfield 21, 3) := by decide +kernel
theorem dX4_dropAfter_10 : decode cX4_dropAfter 10 = .ok (.iconst 0, 1) := by decide +kernel
theorem dX4_dropAfter_11 : decode cX4_dropAfter 11 = .ok (.istore_n 3, 1) := by decide +kernel
theorem dX4_dropAfter_12 : decode cX4_dropAfter 12 = .ok (.iload_n 3, 1) := by decide +kernel
theorem dX4_dropAfter_13 : decode cX4_dropAfter 13 = .ok (.iload_n 2, 1) := by decide +kernel
theorem dX4_dropAfter_14 : decode cX4_dropAfter 14 = .ok (.if_icmp .ge 41, 3) := by decide +kernel
theorem dX4_dropAfter_17 : decode cX4_dropAfter 17 = .ok (.aload_n 0, 1) := by decide +kernel
theorem dX4_dropAfter_18 : decode cX4_dropAfter 18 = .ok (.getfield 15, 3) := by decide +kernel
theorem dX4_dropAfter_21 : decode cX4_dropAfter 21 = .ok (.iload_n 3, 1) := by decide +kernel
theorem dX4_dropAfter_22 : decode cX4_dropAfter 22 = .ok (.iaload, 1) := by decide +kernel
theorem dX4_dropAfter_23 : decode cX4_dropAfter 23 = .ok (.iload_n 1, 1) := by decide +kernel
theorem dX4_dropAfter_24 : decode cX4_dropAfter 24 = .ok (.if_icmp .gt 25, 3) := by decide +kernel
theorem dX4_dropAfter_27 : decode cX4_dropAfter 27 = .ok (.aload_n 0, 1) := by decide +kernel
theorem dX4_dropAfter_28 : decode cX4_dropAfter 28 = .ok (.aload_n 0, 1) := by decide +kernel
theorem dX4_dropAfter_29 : decode cX4_dropAfter 29 = .ok (.getfield 9, 3) := by decide +kernel
theorem dX4_dropAfter_32 : decode cX4_dropAfter 32 = .ok (.iload_n 3, 1) := by decide +kernel
theorem dX4_dropAfter_33 : decode cX4_dropAfter 33 = .ok (.iaload, 1) := by decide +kernel
theorem dX4_dropAfter_34 : decode cX4_dropAfter 34 = .ok (.aload_n 0, 1) := by decide +kernel
theorem dX4_dropAfter_35 : decode cX4_dropAfter 35 = .ok (.getfield 15, 3) := by decide +kernel
theorem dX4_dropAfter_38 : decode cX4_dropAfter 38 = .ok (.iload_n 3, 1) := by decide +kernel
theorem dX4_dropAfter_39 : decode cX4_dropAfter 39 = .ok (.iaload, 1) := by decide +kernel
theorem dX4_dropAfter_40 : decode cX4_dropAfter 40 = .ok (.aload_n 0, 1) := by decide +kernel
theorem dX4_dropAfter_41 : decode cX4_dropAfter 41 = .ok (.getfield 18, 3) := by decide +kernel
theorem dX4_dropAfter_44 : decode cX4_dropAfter 44 = .ok (.iload_n 3, 1) := by decide +kernel
theorem dX4_dropAfter_45 : decode cX4_dropAfter 45 = .ok (.iaload, 1) := by decide +kernel
theorem dX4_dropAfter_46 : decode cX4_dropAfter 46 = .ok (.invokevirtual 31, 3) := by decide +kernel
theorem dX4_dropAfter_49 : decode cX4_dropAfter 49 = .ok (.iinc 3 1, 3) := by decide +kernel
theorem dX4_dropAfter_52 : decode cX4_dropAfter 52 = .ok (.goto (-40), 3) := by decide +kernel
theorem dX4_dropAfter_55 : decode cX4_dropAfter 55 = .ok (.iload_n 2, 1) := by decide +kernel
theorem dX4_dropAfter_56 : decode cX4_dropAfter 56 = .ok (.aload_n 0, 1) := by decide +kernel
theorem dX4_dropAfter_57 : decode cX4_dropAfter 57 = .ok (.getfield 21, 3) := by decide +kernel
theorem dX4_dropAfter_60 : decode cX4_dropAfter 60 = .ok (.isub, 1) := by decide +kernel
theorem dX4_dropAfter_61 : decode cX4_dropAfter 61 = .ok (.ireturn, 1) := by decide +kernel
theorem dX4_value_0 : decode cX4_value 0 = .ok (.iload_n 2, 1) := by decide +kernel
theorem dX4_value_1 : decode cX4_value 1 = .ok (.ifCond .ne 10, 3) := by decide +kernel
theorem dX4_value_4 : decode cX4_value 4 = .ok (.aload_n 0, 1) := by decide +kernel
theorem dX4_value_5 : decode cX4_value 5 = .ok (.getfield 9, 3) := by decide +kernel
theorem dX4_value_8 : decode cX4_value 8 = .ok (.iload_n 1, 1) := by decide +kernel
theorem dX4_value_9 : decode cX4_value 9 = .ok (.iaload, 1) := by decide +kernel
theorem dX4_value_10 : decode cX4_value 10 = .ok (.ireturn, 1) := by decide +kernel
theorem dX4_value_11 : decode cX4_value 11 = .ok (.iload_n 2, 1) := by decide +kernel
theorem dX4_value_12 : decode cX4_value 12 = .ok (.iconst 1, 1) := by decide +kernel
theorem dX4_value_13 : decode cX4_value 13 = .ok (.if_icmp .ne 12, 3) := by decide +kernel
theorem dX4_value_16 : decode cX4_value 16 = .ok (.aload_n 0, 1) := by decide +kernel
theorem dX4_value_17 : decode cX4_value 17 = .ok (.getfield 15, 3) := by decide +kernel
theorem dX4_value_20 : decode cX4_value 20 = .ok (.iload_n 1, 1) := by decide +kernel
theorem dX4_value_21 : decode cX4_value 21 = .ok (.iaload, 1) := by decide +kernel
theorem dX4_value_22 : decode cX4_value 22 = .ok (.goto 9, 3) := by decide +kernel
theorem dX4_value_25 : decode cX4_value 25 = .ok (.aload_n 0, 1) := by decide +kernel
theorem dX4_value_26 : decode cX4_value 26 = .ok (.getfield 18, 3) := by decide +kernel
theorem dX4_value_29 : decode cX4_value 29 = .ok (.iload_n 1, 1) := by decide +kernel
theorem dX4_value_30 : decode cX4_value 30 = .ok (.iaload, 1) := by decide +kernel
theorem dX4_value_31 : decode cX4_value 31 = .ok (.ireturn, 1) := by decide +kernel
theorem dX4_lookAt_0 : decode cX4_lookAt 0 = .ok (.ldc 37, 2) := by decide +kernel
theorem dX4_lookAt_2 : decode cX4_lookAt 2 = .ok (.istore_n 2, 1) := by decide +kernel
theorem dX4_lookAt_3 : decode cX4_lookAt 3 = .ok (.aload_n 0, 1) := by decide +kernel
theorem dX4_lookAt_4 : decode cX4_lookAt 4 = .ok (.iconst 0, 1) := by decide +kernel
theorem dX4_lookAt_5 : decode cX4_lookAt 5 = .ok (.putfield 38, 3) := by decide +kernel
theorem dX4_lookAt_8 : decode cX4_lookAt 8 = .ok (.iconst 0, 1) := by decide +kernel
theorem dX4_lookAt_9 : decode cX4_lookAt 9 = .ok (.istore_n 3, 1) := by decide +kernel
theorem dX4_lookAt_10 : decode cX4_lookAt 10 = .ok (.iload_n 3, 1) := by decide +kernel
theorem dX4_lookAt_11 : decode cX4_lookAt 11 = .ok (.aload_n 0, 1) := by decide +kernel
theorem dX4_lookAt_12 : decode cX4_lookAt 12 = .ok (.getfield 21, 3) := by decide +kernel
theorem dX4_lookAt_15 : decode cX4_lookAt 15 = .ok (.if_icmp .ge 74, 3) := by decide +kernel
theorem dX4_lookAt_18 : decode cX4_lookAt 18 = .ok (.aload_n 0, 1) := by decide +kernel
theorem dX4_lookAt_19 : decode cX4_lookAt 19 = .ok (.getfield 15, 3) := by decide +kernel
theorem dX4_lookAt_22 : decode cX4_lookAt 22 = .ok (.iload_n 3, 1) := by decide +kernel
theorem dX4_lookAt_23 : decode cX4_lookAt 23 = .ok (.iaload, 1) := by decide +kernel
theorem dX4_lookAt_24 : decode cX4_lookAt 24 = .ok (.istore 4, 2) := by decide +kernel
theorem dX4_lookAt_26 : decode cX4_lookAt 26 = .ok (.iload 4, 2) := by decide +kernel
theorem dX4_lookAt_28 : decode cX4_lookAt 28 = .ok (.aload_n 0, 1) := by decide +kernel
theorem dX4_lookAt_29 : decode cX4_lookAt 29 = .ok (.getfield 18, 3) := by decide +kernel
theorem dX4_lookAt_32 : decode cX4_lookAt 32 = .ok (.iload_n 3, 1) := by decide +kernel
theorem dX4_lookAt_33 : decode cX4_lookAt 33 = .ok (.iaload, 1) := by decide +kernel
theorem dX4_lookAt_34 : decode cX4_lookAt 34 = .ok (.iadd, 1) := by decide +kernel
theorem dX4_lookAt_35 : decode cX4_lookAt 35 = .ok (.istore 5, 2) := by decide +kernel
theorem dX4_lookAt_37 : decode cX4_lookAt 37 = .ok (.iload 4, 2) := by decide +kernel
theorem dX4_lookAt_39 : decode cX4_lookAt 39 = .ok (.iload_n 1, 1) := by decide +kernel
theorem dX4_lookAt_40 : decode cX4_lookAt 40 = .ok (.if_icmp .le 13, 3) := by decide +kernel
theorem dX4_lookAt_43 : decode cX4_lookAt 43 = .ok (.iload_n 2, 1) := by decide +kernel
theorem dX4_lookAt_44 : decode cX4_lookAt 44 = .ok (.iload 4, 2) := by decide +kernel
theorem dX4_lookAt_46 : decode cX4_lookAt 46 = .ok (.invokestatic 41, 3) := by decide +kernel
theorem dX4_lookAt_49 : decode cX4_lookAt 49 = .ok (.istore_n 2, 1) := by decide +kernel
theorem dX4_lookAt_50 : decode cX4_lookAt 50 = .ok (.goto 33, 3) := by decide +kernel
theorem dX4_lookAt_53 : decode cX4_lookAt 53 = .ok (.iload 5, 2) := by decide +kernel
theorem dX4_lookAt_55 : decode cX4_lookAt 55 = .ok (.iload_n 1, 1) := by decide +kernel
theorem dX4_lookAt_56 : decode cX4_lookAt 56 = .ok (.if_icmp .le 27, 3) := by decide +kernel
theorem dX4_lookAt_59 : decode cX4_lookAt 59 = .ok (.aload_n 0, 1) := by decide +kernel
theorem dX4_lookAt_60 : decode cX4_lookAt 60 = .ok (.dup, 1) := by decide +kernel
theorem dX4_lookAt_61 : decode cX4_lookAt 61 = .ok (.getfield 38, 3) := by decide +kernel
theorem dX4_lookAt_64 : decode cX4_lookAt 64 = .ok (.iconst 1, 1) := by decide +kernel
theorem dX4_lookAt_65 : decode cX4_lookAt 65 = .ok (.aload_n 0, 1) := by decide +kernel
theorem dX4_lookAt_66 : decode cX4_lookAt 66 = .ok (.getfield 9, 3) := by decide +kernel
theorem dX4_lookAt_69 : decode cX4_lookAt 69 = .ok (.iload_n 3, 1) := by decide +kernel
theorem dX4_lookAt_70 : decode cX4_lookAt 70 = .ok (.iaload, 1) := by decide +kernel
theorem dX4_lookAt_71 : decode cX4_lookAt 71 = .ok (.ishl, 1) := by decide +kernel
theorem dX4_lookAt_72 : decode cX4_lookAt 72 = .ok (.ior, 1) := by decide +kernel
theorem dX4_lookAt_73 : decode cX4_lookAt 73 = .ok (.putfield 38, 3) := by decide +kernel
theorem dX4_lookAt_76 : decode cX4_lookAt 76 = .ok (.iload_n 2, 1) := by decide +kernel
theorem dX4_lookAt_77 : decode cX4_lookAt 77 = .ok (.iload 5, 2) := by decide +kernel
theorem dX4_lookAt_79 : decode cX4_lookAt 79 = .ok (.invokestatic 41, 3) := by decide +kernel
theorem dX4_lookAt_82 : decode cX4_lookAt 82 = .ok (.istore_n 2, 1) := by decide +kernel
theorem dX4_lookAt_83 : decode cX4_lookAt 83 = .ok (.iinc 3 1, 3) := by decide +kernel
theorem dX4_lookAt_86 : decode cX4_lookAt 86 = .ok (.goto (-76), 3) := by decide +kernel
theorem dX4_lookAt_89 : decode cX4_lookAt 89 = .ok (.iload_n 2, 1) := by decide +kernel
theorem dX4_lookAt_90 : decode cX4_lookAt 90 = .ok (.ireturn, 1) := by decide +kernel
theorem dX4_isDown_0 : decode cX4_isDown 0 = .ok (.aload_n 0, 1) := by decide +kernel
theorem dX4_isDown_1 : decode cX4_isDown 1 = .ok (.getfield 38, 3) := by decide +kernel
theorem dX4_isDown_4 : decode cX4_isDown 4 = .ok (.iload_n 1, 1) := by decide +kernel
theorem dX4_isDown_5 : decode cX4_isDown 5 = .ok (.ishr, 1) := by decide +kernel
theorem dX4_isDown_6 : decode cX4_isDown 6 = .ok (.iconst 1, 1) := by decide +kernel
theorem dX4_isDown_7 : decode cX4_isDown 7 = .ok (.iand, 1) := by decide +kernel
theorem dX4_isDown_8 : decode cX4_isDown 8 = .ok (.iconst 1, 1) := by decide +kernel
theorem dX4_isDown_9 : decode cX4_isDown 9 = .ok (.if_icmp .ne 7, 3) := by decide +kernel
theorem dX4_isDown_12 : decode cX4_isDown 12 = .ok (.iconst 1, 1) := by decide +kernel
theorem dX4_isDown_13 : decode cX4_isDown 13 = .ok (.goto 4, 3) := by decide +kernel
theorem dX4_isDown_16 : decode cX4_isDown 16 = .ok (.iconst 0, 1) := by decide +kernel
theorem dX4_isDown_17 : decode cX4_isDown 17 = .ok (.ireturn, 1) := by decide +kernel
set_option maxRecDepth 20000 in
theorem ggX4_mixInto_X4_value : GoodIn wsX4_mixInto wsX4_value := goodIn_r _ [7, 8, 9, 10, 11, 12, 13, 14, 15] (by decide +kernel) (by decide +kernel)
set_option maxRecDepth 20000 in
theorem gX4_mixInto_X4_value : GoodIn wsX4_mixInto (wsV RX4 49 RX4 yX4_value wsX4_value) := goodIn_app (goodIn_of _ (by decide +kernel)) ggX4_mixInto_X4_value
theorem dX4_mixInto_0 : decode cX4_mixInto 0 = .ok (.ldc2_w 47, 3) := by decide +kernel
theorem dX4_mixInto_3 : decode cX4_mixInto 3 = .ok (.lload_n 1, 1) := by decide +kernel
theorem dX4_mixInto_4 : decode cX4_mixInto 4 = .ok (.lmul, 1) := by decide +kernel
theorem dX4_mixInto_5 : decode cX4_mixInto 5 = .ok (.aload_n 0, 1) := by decide +kernel
theorem dX4_mixInto_6 : decode cX4_mixInto 6 = .ok (.getfield 21, 3) := by decide +kernel
theorem dX4_mixInto_9 : decode cX4_mixInto 9 = .ok (.i2l, 1) := by decide +kernel
theorem dX4_mixInto_10 : decode cX4_mixInto 10 = .ok (.ladd, 1) := by decide +kernel
theorem dX4_mixInto_11 : decode cX4_mixInto 11 = .ok (.lstore_n 3, 1) := by decide +kernel
theorem dX4_mixInto_12 : decode cX4_mixInto 12 = .ok (.iconst 0, 1) := by decide +kernel
theorem dX4_mixInto_13 : decode cX4_mixInto 13 = .ok (.istore 5, 2) := by decide +kernel
theorem dX4_mixInto_15 : decode cX4_mixInto 15 = .ok (.iload 5, 2) := by decide +kernel
theorem dX4_mixInto_17 : decode cX4_mixInto 17 = .ok (.aload_n 0, 1) := by decide +kernel
theorem dX4_mixInto_18 : decode cX4_mixInto 18 = .ok (.getfield 21, 3) := by decide +kernel
theorem dX4_mixInto_21 : decode cX4_mixInto 21 = .ok (.if_icmp .ge 40, 3) := by decide +kernel
theorem dX4_mixInto_24 : decode cX4_mixInto 24 = .ok (.iconst 0, 1) := by decide +kernel
theorem dX4_mixInto_25 : decode cX4_mixInto 25 = .ok (.istore 6, 2) := by decide +kernel
theorem dX4_mixInto_27 : decode cX4_mixInto 27 = .ok (.iload 6, 2) := by decide +kernel
theorem dX4_mixInto_29 : decode cX4_mixInto 29 = .ok (.iconst 3, 1) := by decide +kernel
theorem dX4_mixInto_30 : decode cX4_mixInto 30 = .ok (.if_icmp .ge 25, 3) := by decide +kernel
theorem dX4_mixInto_33 : decode cX4_mixInto 33 = .ok (.ldc2_w 47, 3) := by decide +kernel
theorem dX4_mixInto_36 : decode cX4_mixInto 36 = .ok (.lload_n 3, 1) := by decide +kernel
theorem dX4_mixInto_37 : decode cX4_mixInto 37 = .ok (.lmul, 1) := by decide +kernel
theorem dX4_mixInto_38 : decode cX4_mixInto 38 = .ok (.aload_n 0, 1) := by decide +kernel
theorem dX4_mixInto_39 : decode cX4_mixInto 39 = .ok (.iload 5, 2) := by decide +kernel
theorem dX4_mixInto_41 : decode cX4_mixInto 41 = .ok (.iload 6, 2) := by decide +kernel
theorem dX4_mixInto_43 : decode cX4_mixInto 43 = .ok (.invokevirtual 49, 3) := by decide +kernel
theorem dX4_mixInto_46 : decode cX4_mixInto 46 = .ok (.i2l, 1) := by decide +kernel
theorem dX4_mixInto_47 : decode cX4_mixInto 47 = .ok (.ladd, 1) := by decide +kernel
theorem dX4_mixInto_48 : decode cX4_mixInto 48 = .ok (.lstore_n 3, 1) := by decide +kernel
theorem dX4_mixInto_49 : decode cX4_mixInto 49 = .ok (.iinc 6 1, 3) := by decide +kernel
theorem dX4_mixInto_52 : decode cX4_mixInto 52 = .ok (.goto (-25), 3) := by decide +kernel
theorem dX4_mixInto_55 : decode cX4_mixInto 55 = .ok (.iinc 5 1, 3) := by decide +kernel
theorem dX4_mixInto_58 : decode cX4_mixInto 58 = .ok (.goto (-43), 3) := by decide +kernel
theorem dX4_mixInto_61 : decode cX4_mixInto 61 = .ok (.lload_n 3, 1) := by decide +kernel
theorem dX4_mixInto_62 : decode cX4_mixInto 62 = .ok (.lreturn, 1) := by decide +kernel
end
section
set_option maxRecDepth 20000 in
theorem ggX2_init_X4_init : GoodIn wsX2_init wsX4_init := goodIn_r _ [12, 13, 2, 3, 5, 14, 15, 16, 21, 22, 23, 24, 25] (by decide +kernel) (by decide +kernel)
set_option maxRecDepth 20000 in
theorem gX2_init_X4_init_n18 : GoodIn wsX2_init (wsX4_init) := ggX2_init_X4_init
theorem dX2_init_0 : decode cX2_init 0 = .ok (.aload_n 0, 1) := by decide +kernel
theorem dX2_init_1 : decode cX2_init 1 = .ok (.invokespecial 3, 3) := by decide +kernel
theorem dX2_init_4 : decode cX2_init 4 = .ok (.aload_n 0, 1) := by decide +kernel
theorem dX2_init_5 : decode cX2_init 5 = .ok (.bipush 8, 2) := by decide +kernel
theorem dX2_init_7 : decode cX2_init 7 = .ok (.bipush 16, 2) := by decide +kernel
theorem dX2_init_9 : decode cX2_init 9 = .ok (.multianewarray 9 2, 4) := by decide +kernel
theorem dX2_init_13 : decode cX2_init 13 = .ok (.putfield 11, 3) := by decide +kernel
theorem dX2_init_16 : decode cX2_init 16 = .ok (.aload_n 0, 1) := by decide +kernel
theorem dX2_init_17 : decode cX2_init 17 = .ok (.new 16, 3) := by decide +kernel
theorem dX2_init_20 : decode cX2_init 20 = .ok (.dup, 1) := by decide +kernel
theorem dX2_init_21 : decode cX2_init 21 = .ok (.invokespecial 18, 3) := by decide +kernel
theorem dX2_init_24 : decode cX2_init 24 = .ok (.putfield 19, 3) := by decide +kernel
theorem dX2_init_27 : decode cX2_init 27 = .ok (.return_, 1) := by decide +kernel
set_option maxRecDepth 20000 in
theorem ggX2_copy_X4_copy : GoodIn wsX2_copy wsX4_copy := goodIn_r _ [12, 13, 14, 15, 4, 5, 6, 16, 17, 22, 23, 24, 25, 26] (by decide +kernel) (by decide +kernel)
set_option maxRecDepth 20000 in
theorem gX2_copy_X4_copy : GoodIn wsX2_copy (va_wsS RX2 33 yX4_copy wsX4_copy) := goodIn_app (goodIn_of _ (by decide +kernel)) ggX2_copy_X4_copy
theorem dX2_copy_0 : decode cX2_copy 0 = .ok (.aload_n 0, 1) := by decide +kernel
theorem dX2_copy_1 : decode cX2_copy 1 = .ok (.ifnull 7, 3) := by decide +kernel
theorem dX2_copy_4 : decode cX2_copy 4 = .ok (.aload_n 1, 1) := by decide +kernel
theorem dX2_copy_5 : decode cX2_copy 5 = .ok (.ifnonnull 4, 3) := by decide +kernel
theorem dX2_copy_8 : decode cX2_copy 8 = .ok (.return_, 1) := by decide +kernel
theorem dX2_copy_9 : decode cX2_copy 9 = .ok (.iconst 0, 1) := by decide +kernel
theorem dX2_copy_10 : decode cX2_copy 10 = .ok (.istore_n 2, 1) := by decide +kernel
theorem dX2_copy_11 : decode cX2_copy 11 = .ok (.iload_n 2, 1) := by decide +kernel
theorem dX2_copy_12 : decode cX2_copy 12 = .ok (.aload_n 0, 1) := by decide +kernel
theorem dX2_copy_13 : decode cX2_copy 13 = .ok (.getfield 23, 3) := by decide +kernel
theorem dX2_copy_16 : decode cX2_copy 16 = .ok (.if_icmp .ge 28, 3) := by decide +kernel
theorem dX2_copy_19 : decode cX2_copy 19 = .ok (.aload_n 0, 1) := by decide +kernel
theorem dX2_copy_20 : decode cX2_copy 20 = .ok (.getfield 11, 3) := by decide +kernel
theorem dX2_copy_23 : decode cX2_copy 23 = .ok (.iload_n 2, 1) := by decide +kernel
theorem dX2_copy_24 : decode cX2_copy 24 = .ok (.aaload, 1) := by decide +kernel
theorem dX2_copy_25 : decode cX2_copy 25 = .ok (.iconst 0, 1) := by decide +kernel
theorem dX2_copy_26 : decode cX2_copy 26 = .ok (.aload_n 1, 1) := by decide +kernel
theorem dX2_copy_27 : decode cX2_copy 27 = .ok (.getfield 11, 3) := by decide +kernel
theorem dX2_copy_30 : decode cX2_copy 30 = .ok (.iload_n 2, 1) := by decide +kernel
theorem dX2_copy_31 : decode cX2_copy 31 = .ok (.aaload, 1) := by decide +kernel
theorem dX2_copy_32 : decode cX2_copy 32 = .ok (.iconst 0, 1) := by decide +kernel
theorem dX2_copy_33 : decode cX2_copy 33 = .ok (.bipush 16, 2) := by decide +kernel
theorem dX2_copy_35 : decode cX2_copy 35 = .ok (.invokestatic 27, 3) := by decide +kernel
theorem dX2_copy_38 : decode cX2_copy 38 = .ok (.iinc 2 1, 3) := by decide +kernel
theorem dX2_copy_41 : decode cX2_copy 41 = .ok (.goto (-30), 3) := by decide +kernel
theorem dX2_copy_44 : decode cX2_copy 44 = .ok (.aload_n 0, 1) := by decide +kernel
theorem dX2_copy_45 : decode cX2_copy 45 = .ok (.getfield 19, 3) := by decide +kernel
theorem dX2_copy_48 : decode cX2_copy 48 = .ok (.aload_n 1, 1) := by decide +kernel
theorem dX2_copy_49 : decode cX2_copy 49 = .ok (.getfield 19, 3) := by decide +kernel
theorem dX2_copy_52 : decode cX2_copy 52 = .ok (.invokestatic 33, 3) := by decide +kernel
theorem dX2_copy_55 : decode cX2_copy 55 = .ok (.aload_n 1, 1) := by decide +kernel
theorem dX2_copy_56 : decode cX2_copy 56 = .ok (.aload_n 0, 1) := by decide +kernel
theorem dX2_copy_57 : decode cX2_copy 57 = .ok (.getfield 23, 3) := by decide +kernel
theorem dX2_copy_60 : decode cX2_copy 60 = .ok (.putfield 23, 3) := by decide +kernel
theorem dX2_copy_63 : decode cX2_copy 63 = .ok (.aload_n 1, 1) := by decide +kernel
theorem dX2_copy_64 : decode cX2_copy 64 = .ok (.aload_n 0, 1) := by decide +kernel
theorem dX2_copy_65 : decode cX2_copy 65 = .ok (.getfield 37, 3) := by decide +kernel
theorem dX2_copy_68 : decode cX2_copy 68 = .ok (.putfield 37, 3) := by decide +kernel
theorem dX2_copy_71 : decode cX2_copy 71 = .ok (.return_, 1) := by decide +kernel
theorem dX2_takeApart_0 : decode cX2_takeApart 0 = .ok (.aload_n 0, 1) := by decide +kernel
theorem dX2_takeApart_1 : decode cX2_takeApart 1 = .ok (.iconst 0, 1) := by decide +kernel
theorem dX2_takeApart_2 : decode cX2_takeApart 2 = .ok (.putfield 23, 3) := by decide +kernel
theorem dX2_takeApart_5 : decode cX2_takeApart 5 = .ok (.aload_n 0, 1) := by decide +kernel
theorem dX2_takeApart_6 : decode cX2_takeApart 6 = .ok (.iconst 0, 1) := by decide +kernel
theorem dX2_takeApart_7 : decode cX2_takeApart 7 = .ok (.putfield 37, 3) := by decide +kernel
theorem dX2_takeApart_10 : decode cX2_takeApart 10 = .ok (.aload_n 0, 1) := by decide +kernel
theorem dX2_takeApart_11 : decode cX2_takeApart 11 = .ok (.getfield 19, 3) := by decide +kernel
theorem dX2_takeApart_14 : decode cX2_takeApart 14 = .ok (.iconst 0, 1) := by decide +kernel
theorem dX2_takeApart_15 : decode cX2_takeApart 15 = .ok (.putfield 40, 3) := by decide +kernel
theorem dX2_takeApart_18 : decode cX2_takeApart 18 = .ok (.return_, 1) := by decide +kernel
set_option maxRecDepth 20000 in
theorem ggX2_join_X2_empty : GoodIn wsX2_join wsX2_empty := goodIn_r _ [6] (by decide +kernel) (by decide +kernel)
set_option maxRecDepth 20000 in
theorem gX2_join_X2_empty : GoodIn wsX2_join (va_wsS RX2 43 yX2_empty wsX2_empty) := goodIn_app (goodIn_of _ (by decide +kernel)) ggX2_join_X2_empty
theorem dX2_join_0 : decode cX2_join 0 = .ok (.aload_n 0, 1) := by decide +kernel
theorem dX2_join_1 : decode cX2_join 1 = .ok (.getfield 23, 3) := by decide +kernel
theorem dX2_join_4 : decode cX2_join 4 = .ok (.bipush 8, 2) := by decide +kernel
theorem dX2_join_6 : decode cX2_join 6 = .ok (.if_icmp .lt 5, 3) := by decide +kernel
theorem dX2_join_9 : decode cX2_join 9 = .ok (.iconst (-1), 1) := by decide +kernel
theorem dX2_join_10 : decode cX2_join 10 = .ok (.ireturn, 1) := by decide +kernel
theorem dX2_join_11 : decode cX2_join 11 = .ok (.aload_n 0, 1) := by decide +kernel
theorem dX2_join_12 : decode cX2_join 12 = .ok (.getfield 11, 3) := by decide +kernel
theorem dX2_join_15 : decode cX2_join 15 = .ok (.aload_n 0, 1) := by decide +kernel
theorem dX2_join_16 : decode cX2_join 16 = .ok (.getfield 23, 3) := by decide +kernel
theorem dX2_join_19 : decode cX2_join 19 = .ok (.aaload, 1) := by decide +kernel
theorem dX2_join_20 : decode cX2_join 20 = .ok (.astore 4, 2) := by decide +kernel
theorem dX2_join_22 : decode cX2_join 22 = .ok (.aload 4, 2) := by decide +kernel
theorem dX2_join_24 : decode cX2_join 24 = .ok (.iconst 0, 1) := by decide +kernel
theorem dX2_join_25 : decode cX2_join 25 = .ok (.iload_n 1, 1) := by decide +kernel
theorem dX2_join_26 : decode cX2_join 26 = .ok (.iastore, 1) := by decide +kernel
theorem dX2_join_27 : decode cX2_join 27 = .ok (.aload 4, 2) := by decide +kernel
theorem dX2_join_29 : decode cX2_join 29 = .ok (.iconst 1, 1) := by decide +kernel
theorem dX2_join_30 : decode cX2_join 30 = .ok (.iload_n 2, 1) := by decide +kernel
theorem dX2_join_31 : decode cX2_join 31 = .ok (.iastore, 1) := by decide +kernel
theorem dX2_join_32 : decode cX2_join 32 = .ok (.aload 4, 2) := by decide +kernel
theorem dX2_join_34 : decode cX2_join 34 = .ok (.iconst 2, 1) := by decide +kernel
theorem dX2_join_35 : decode cX2_join 35 = .ok (.iconst 0, 1) := by decide +kernel
theorem dX2_join_36 : decode cX2_join 36 = .ok (.iastore, 1) := by decide +kernel
theorem dX2_join_37 : decode cX2_join 37 = .ok (.aload 4, 2) := by decide +kernel
theorem dX2_join_39 : decode cX2_join 39 = .ok (.iconst 3, 1) := by decide +kernel
theorem dX2_join_40 : decode cX2_join 40 = .ok (.bipush 40, 2) := by decide +kernel
theorem dX2_join_42 : decode cX2_join 42 = .ok (.iastore, 1) := by decide +kernel
theorem dX2_join_43 : decode cX2_join 43 = .ok (.aload 4, 2) := by decide +kernel
theorem dX2_join_45 : decode cX2_join 45 = .ok (.iconst 4, 1) := by decide +kernel
theorem dX2_join_46 : decode cX2_join 46 = .ok (.iload_n 3, 1) := by decide +kernel
theorem dX2_join_47 : decode cX2_join 47 = .ok (.iastore, 1) := by decide +kernel
theorem dX2_join_48 : decode cX2_join 48 = .ok (.aload 4, 2) := by decide +kernel
theorem dX2_join_50 : decode cX2_join 50 = .ok (.invokestatic 43, 3) := by decide +kernel
theorem dX2_join_53 : decode cX2_join 53 = .ok (.aload_n 0, 1) := by decide +kernel
theorem dX2_join_54 : decode cX2_join 54 = .ok (.dup, 1) := by decide +kernel
theorem dX2_join_55 : decode cX2_join 55 = .ok (.getfield 23, 3) := by decide +kernel
theorem dX2_join_58 : decode cX2_join 58 = .ok (.iconst 1, 1) := by decide +kernel
theorem dX2_join_59 : decode cX2_join 59 = .ok (.iadd, 1) := by decide +kernel
theorem dX2_join_60 : decode cX2_join 60 = .ok (.putfield 23, 3) := by decide +kernel
theorem dX2_join_63 : decode cX2_join 63 = .ok (.aload_n 0, 1) := by decide +kernel
theorem dX2_join_64 : decode cX2_join 64 = .ok (.getfield 23, 3) := by decide +kernel
theorem dX2_join_67 : decode cX2_join 67 = .ok (.iconst 1, 1) := by decide +kernel
theorem dX2_join_68 : decode cX2_join 68 = .ok (.isub, 1) := by decide +kernel
theorem dX2_join_69 : decode cX2_join 69 = .ok (.ireturn, 1) := by decide +kernel
theorem dX2_mark_0 : decode cX2_mark 0 = .ok (.iload_n 1, 1) := by decide +kernel
theorem dX2_mark_1 : decode cX2_mark 1 = .ok (.ifCond .lt 29, 3) := by decide +kernel
theorem dX2_mark_4 : decode cX2_mark 4 = .ok (.iload_n 1, 1) := by decide +kernel
theorem dX2_mark_5 : decode cX2_mark 5 = .ok (.aload_n 0, 1) := by decide +kernel
theorem dX2_mark_6 : decode cX2_mark 6 = .ok (.getfield 23, 3) := by decide +kernel
theorem dX2_mark_9 : decode cX2_mark 9 = .ok (.if_icmp .ge 21, 3) := by decide +kernel
theorem dX2_mark_12 : decode cX2_mark 12 = .ok (.aload_n 0, 1) := by decide +kernel
theorem dX2_mark_13 : decode cX2_mark 13 = .ok (.getfield 11, 3) := by decide +kernel
theorem dX2_mark_16 : decode cX2_mark 16 = .ok (.iload_n 1, 1) := by decide +kernel
theorem dX2_mark_17 : decode cX2_mark 17 = .ok (.aaload, 1) := by decide +kernel
theorem dX2_mark_18 : decode cX2_mark 18 = .ok (.iconst 2, 1) := by decide +kernel
theorem dX2_mark_19 : decode cX2_mark 19 = .ok (.iload_n 2, 1) := by decide +kernel
theorem dX2_mark_20 : decode cX2_mark 20 = .ok (.iastore, 1) := by decide +kernel
theorem dX2_mark_21 : decode cX2_mark 21 = .ok (.aload_n 0, 1) := by decide +kernel
theorem dX2_mark_22 : decode cX2_mark 22 = .ok (.getfield 11, 3) := by decide +kernel
theorem dX2_mark_25 : decode cX2_mark 25 = .ok (.iload_n 1, 1) := by decide +kernel
theorem dX2_mark_26 : decode cX2_mark 26 = .ok (.aaload, 1) := by decide +kernel
theorem dX2_mark_27 : decode cX2_mark 27 = .ok (.iconst 3, 1) := by decide +kernel
theorem dX2_mark_28 : decode cX2_mark 28 = .ok (.iload_n 3, 1) := by decide +kernel
theorem dX2_mark_29 : decode cX2_mark 29 = .ok (.iastore, 1) := by decide +kernel
theorem dX2_mark_30 : decode cX2_mark 30 = .ok (.return_, 1) := by decide +kernel
set_option maxRecDepth 20000 in
theorem ggX2_beginAnew_X2_empty : GoodIn wsX2_beginAnew wsX2_empty := goodIn_r _ [7] (by decide +kernel) (by decide +kernel)
set_option maxRecDepth 20000 in
theorem gX2_beginAnew_X2_empty : GoodIn wsX2_beginAnew (va_wsS RX2 43 yX2_empty wsX2_empty) := goodIn_app (goodIn_of _ (by decide +kernel)) ggX2_beginAnew_X2_empty
theorem dX2_beginAnew_0 : decode cX2_beginAnew 0 = .ok (.aload_n 0, 1) := by decide +kernel
theorem dX2_beginAnew_1 : decode cX2_beginAnew 1 = .ok (.iconst 0, 1) := by decide +kernel
theorem dX2_beginAnew_2 : decode cX2_beginAnew 2 = .ok (.putfield 37, 3) := by decide +kernel
theorem dX2_beginAnew_5 : decode cX2_beginAnew 5 = .ok (.iconst 0, 1) := by decide +kernel
theorem dX2_beginAnew_6 : decode cX2_beginAnew 6 = .ok (.istore_n 1, 1) := by decide +kernel
theorem dX2_beginAnew_7 : decode cX2_beginAnew 7 = .ok (.iload_n 1, 1) := by decide +kernel
theorem dX2_beginAnew_8 : decode cX2_beginAnew 8 = .ok (.aload_n 0, 1) := by decide +kernel
theorem dX2_beginAnew_9 : decode cX2_beginAnew 9 = .ok (.getfield 23, 3) := by decide +kernel
theorem dX2_beginAnew_12 : decode cX2_beginAnew 12 = .ok (.if_icmp .ge 18, 3) := by decide +kernel
theorem dX2_beginAnew_15 : decode cX2_beginAnew 15 = .ok (.aload_n 0, 1) := by decide +kernel
theorem dX2_beginAnew_16 : decode cX2_beginAnew 16 = .ok (.getfield 11, 3) := by decide +kernel
theorem dX2_beginAnew_19 : decode cX2_beginAnew 19 = .ok (.iload_n 1, 1) := by decide +kernel
theorem dX2_beginAnew_20 : decode cX2_beginAnew 20 = .ok (.aaload, 1) := by decide +kernel
theorem dX2_beginAnew_21 : decode cX2_beginAnew 21 = .ok (.invokestatic 43, 3) := by decide +kernel
theorem dX2_beginAnew_24 : decode cX2_beginAnew 24 = .ok (.iinc 1 1, 3) := by decide +kernel
theorem dX2_beginAnew_27 : decode cX2_beginAnew 27 = .ok (.goto (-20), 3) := by decide +kernel
theorem dX2_beginAnew_30 : decode cX2_beginAnew 30 = .ok (.return_, 1) := by decide +kernel
theorem dX2_empty_0 : decode cX2_empty 0 = .ok (.iconst 5, 1) := by decide +kernel
theorem dX2_empty_1 : decode cX2_empty 1 = .ok (.istore_n 1, 1) := by decide +kernel
theorem dX2_empty_2 : decode cX2_empty 2 = .ok (.iload_n 1, 1) := by decide +kernel
theorem dX2_empty_3 : decode cX2_empty 3 = .ok (.bipush 16, 2) := by decide +kernel
theorem dX2_empty_5 : decode cX2_empty 5 = .ok (.if_icmp .ge 13, 3) := by decide +kernel
theorem dX2_empty_8 : decode cX2_empty 8 = .ok (.aload_n 0, 1) := by decide +kernel
theorem dX2_empty_9 : decode cX2_empty 9 = .ok (.iload_n 1, 1) := by decide +kernel
theorem dX2_empty_10 : decode cX2_empty 10 = .ok (.iconst 0, 1) := by decide +kernel
theorem dX2_empty_11 : decode cX2_empty 11 = .ok (.iastore, 1) := by decide +kernel
theorem dX2_empty_12 : decode cX2_empty 12 = .ok (.iinc 1 1, 3) := by decide +kernel
theorem dX2_empty_15 : decode cX2_empty 15 = .ok (.goto (-13), 3) := by decide +kernel
theorem dX2_empty_18 : decode cX2_empty 18 = .ok (.aload_n 0, 1) := by decide +kernel
theorem dX2_empty_19 : decode cX2_empty 19 = .ok (.bipush 6, 2) := by decide +kernel
theorem dX2_empty_21 : decode cX2_empty 21 = .ok (.iconst (-1), 1) := by decide +kernel
theorem dX2_empty_22 : decode cX2_empty 22 = .ok (.iastore, 1) := by decide +kernel
theorem dX2_empty_23 : decode cX2_empty 23 = .ok (.aload_n 0, 1) := by decide +kernel
theorem dX2_empty_24 : decode cX2_empty 24 = .ok (.bipush 7, 2) := by decide +kernel
theorem dX2_empty_26 : decode cX2_empty 26 = .ok (.iconst 1, 1) := by decide +kernel
theorem dX2_empty_27 : decode cX2_empty 27 = .ok (.iastore, 1) := by decide +kernel
theorem dX2_empty_28 : decode cX2_empty 28 = .ok (.return_, 1) := by decide +kernel
set_option maxRecDepth 20000 in
theorem ggX2_pass_X4_lookAt : GoodIn wsX2_pass wsX4_lookAt := goodIn_r _ [8, 9, 10, 11, 12, 13, 14, 15, 16, 17, 18, 55, 56, 57, 58, 59] (by decide +kernel) (by decide +kernel)
set_option maxRecDepth 20000 in
theorem gX2_pass_X4_lookAt : GoodIn wsX2_pass (wsV RX2 47 RX4 yX4_lookAt wsX4_lookAt) := goodIn_app (goodIn_of _ (by decide +kernel)) ggX2_pass_X4_lookAt
set_option maxRecDepth 20000 in
theorem ggX2_pass_X2_takeTurn : GoodIn wsX2_pass wsX2_takeTurn := goodIn_r _ [23, 24, 2, 25, 26, 27, 22, 28, 3, 29, 30, 31, 7, 32, 10, 33, 34, 35, 36, 37, 38, 39, 40, 41, 42, 43, 44, 45, 46, 51, 52, 53, 54, 55, 56, 57, 58, 59] (by decide +kernel) (by decide +kernel)
set_option maxRecDepth 20000 in
theorem gX2_pass_X2_takeTurn : GoodIn wsX2_pass (wsV RX2 51 RX2 yX2_takeTurn wsX2_takeTurn) := goodIn_app (goodIn_of _ (by decide +kernel)) ggX2_pass_X2_takeTurn
set_option maxRecDepth 20000 in
theorem ggX2_pass_X2_countFills : GoodIn wsX2_pass wsX2_countFills := goodIn_r _ [50, 3, 24, 51, 52, 53, 54] (by decide +kernel) (by decide +kernel)
set_option maxRecDepth 20000 in
theorem gX2_pass_X2_countFills : GoodIn wsX2_pass (wsV RX2 55 RX2 yX2_countFills wsX2_countFills) := goodIn_app (goodIn_of _ (by decide +kernel)) ggX2_pass_X2_countFills
theorem dX2_pass_0 : decode cX2_pass 0 = .ok (.aload_n 0, 1) := by decide +kernel
theorem dX2_pass_1 : decode cX2_pass 1 = .ok (.getfield 37, 3) := by decide +kernel
theorem dX2_pass_4 : decode cX2_pass 4 = .ok (.iconst 1, 1) := by decide +kernel
theorem dX2_pass_5 : decode cX2_pass 5 = .ok (.iadd, 1) := by decide +kernel
theorem dX2_pass_6 : decode cX2_pass 6 = .ok (.istore_n 2, 1) := by decide +kernel
theorem dX2_pass_7 : decode cX2_pass 7 = .ok (.iconst 0, 1) := by decide +kernel
theorem dX2_pass_8 : decode cX2_pass 8 = .ok (.istore_n 3, 1) := by decide +kernel
theorem dX2_pass_9 : decode cX2_pass 9 = .ok (.iload_n 3, 1) := by decide +kernel
theorem dX2_pass_10 : decode cX2_pass 10 = .ok (.iload_n 1, 1) := by decide +kernel
theorem dX2_pass_11 : decode cX2_pass 11 = .ok (.if_icmp .ge 68, 3) := by decide +kernel
theorem dX2_pass_14 : decode cX2_pass 14 = .ok (.aload_n 0, 1) := by decide +kernel
theorem dX2_pass_15 : decode cX2_pass 15 = .ok (.dup, 1) := by decide +kernel
theorem dX2_pass_16 : decode cX2_pass 16 = .ok (.getfield 37, 3) := by decide +kernel
theorem dX2_pass_19 : decode cX2_pass 19 = .ok (.iconst 1, 1) := by decide +kernel
theorem dX2_pass_20 : decode cX2_pass 20 = .ok (.iadd, 1) := by decide +kernel
theorem dX2_pass_21 : decode cX2_pass 21 = .ok (.putfield 37, 3) := by decide +kernel
theorem dX2_pass_24 : decode cX2_pass 24 = .ok (.aload_n 0, 1) := by decide +kernel
theorem dX2_pass_25 : decode cX2_pass 25 = .ok (.getfield 37, 3) := by decide +kernel
theorem dX2_pass_28 : decode cX2_pass 28 = .ok (.iload_n 2, 1) := by decide +kernel
theorem dX2_pass_29 : decode cX2_pass 29 = .ok (.if_icmp .lt 15, 3) := by decide +kernel
theorem dX2_pass_32 : decode cX2_pass 32 = .ok (.aload_n 0, 1) := by decide +kernel
theorem dX2_pass_33 : decode cX2_pass 33 = .ok (.getfield 19, 3) := by decide +kernel
theorem dX2_pass_36 : decode cX2_pass 36 = .ok (.aload_n 0, 1) := by decide +kernel
theorem dX2_pass_37 : decode cX2_pass 37 = .ok (.getfield 37, 3) := by decide +kernel
theorem dX2_pass_40 : decode cX2_pass 40 = .ok (.invokevirtual 47, 3) := by decide +kernel
theorem dX2_pass_43 : decode cX2_pass 43 = .ok (.istore_n 2, 1) := by decide +kernel
theorem dX2_pass_44 : decode cX2_pass 44 = .ok (.aload_n 0, 1) := by decide +kernel
theorem dX2_pass_45 : decode cX2_pass 45 = .ok (.getfield 23, 3) := by decide +kernel
theorem dX2_pass_48 : decode cX2_pass 48 = .ok (.iconst 1, 1) := by decide +kernel
theorem dX2_pass_49 : decode cX2_pass 49 = .ok (.isub, 1) := by decide +kernel
theorem dX2_pass_50 : decode cX2_pass 50 = .ok (.istore 4, 2) := by decide +kernel
theorem dX2_pass_52 : decode cX2_pass 52 = .ok (.iload 4, 2) := by decide +kernel
theorem dX2_pass_54 : decode cX2_pass 54 = .ok (.ifCond .lt 15, 3) := by decide +kernel
theorem dX2_pass_57 : decode cX2_pass 57 = .ok (.aload_n 0, 1) := by decide +kernel
theorem dX2_pass_58 : decode cX2_pass 58 = .ok (.iload 4, 2) := by decide +kernel
theorem dX2_pass_60 : decode cX2_pass 60 = .ok (.invokevirtual 51, 3) := by decide +kernel
theorem dX2_pass_63 : decode cX2_pass 63 = .ok (.iinc 4 (-1), 3) := by decide +kernel
theorem dX2_pass_66 : decode cX2_pass 66 = .ok (.goto (-14), 3) := by decide +kernel
theorem dX2_pass_69 : decode cX2_pass 69 = .ok (.aload_n 0, 1) := by decide +kernel
theorem dX2_pass_70 : decode cX2_pass 70 = .ok (.invokevirtual 55, 3) := by decide +kernel
theorem dX2_pass_73 : decode cX2_pass 73 = .ok (.iinc 3 1, 3) := by decide +kernel
theorem dX2_pass_76 : decode cX2_pass 76 = .ok (.goto (-67), 3) := by decide +kernel
theorem dX2_pass_79 : decode cX2_pass 79 = .ok (.return_, 1) := by decide +kernel
set_option maxRecDepth 20000 in
theorem ggX2_takeTurn_X2_chooseSpeed : GoodIn wsX2_takeTurn wsX2_chooseSpeed := goodIn_r _ [7, 1, 8, 29, 30, 31, 32] (by decide +kernel) (by decide +kernel)
set_option maxRecDepth 20000 in
theorem gX2_takeTurn_X2_chooseSpeed : GoodIn wsX2_takeTurn (wsV RX2 58 RX2 yX2_chooseSpeed wsX2_chooseSpeed) := goodIn_app (goodIn_of _ (by decide +kernel)) ggX2_takeTurn_X2_chooseSpeed
set_option maxRecDepth 20000 in
theorem ggX2_takeTurn_X4_isDown : GoodIn wsX2_takeTurn wsX4_isDown := goodIn_r _ [13, 14, 33, 34, 35, 36, 37] (by decide +kernel) (by decide +kernel)
set_option maxRecDepth 20000 in
theorem gX2_takeTurn_X4_isDown : GoodIn wsX2_takeTurn (wsV RX2 61 RX4 yX4_isDown wsX4_isDown) := goodIn_app (goodIn_of _ (by decide +kernel)) ggX2_takeTurn_X4_isDown
set_option maxRecDepth 20000 in
theorem ggX2_takeTurn_X2_noteTurn : GoodIn wsX2_takeTurn wsX2_noteTurn := goodIn_r _ [17] (by decide +kernel) (by decide +kernel)
set_option maxRecDepth 20000 in
theorem gX2_takeTurn_X2_noteTurn : GoodIn wsX2_takeTurn (va_wsS RX2 65 yX2_noteTurn wsX2_noteTurn) := goodIn_app (goodIn_of _ (by decide +kernel)) ggX2_takeTurn_X2_noteTurn
set_option maxRecDepth 20000 in
theorem ggX2_takeTurn_X2_release : GoodIn wsX2_takeTurn wsX2_release := goodIn_r _ [21, 1, 8, 2, 9, 10, 11, 12, 13, 14, 22, 23, 6, 24, 29, 30, 31, 32, 33, 34, 35, 36, 37] (by decide +kernel) (by decide +kernel)
set_option maxRecDepth 20000 in
theorem gX2_takeTurn_X2_release : GoodIn wsX2_takeTurn (wsV RX2 69 RX2 yX2_release wsX2_release) := goodIn_app (goodIn_of _ (by decide +kernel)) ggX2_takeTurn_X2_release
set_option maxRecDepth 20000 in
theorem ggX2_takeTurn_X2_takeBottle : GoodIn wsX2_takeTurn wsX2_takeBottle := goodIn_r _ [28, 1, 22, 23, 6, 24, 29, 30, 31, 32] (by decide +kernel) (by decide +kernel)
set_option maxRecDepth 20000 in
theorem gX2_takeTurn_X2_takeBottle : GoodIn wsX2_takeTurn (wsV RX2 72 RX2 yX2_takeBottle wsX2_takeBottle) := goodIn_app (goodIn_of _ (by decide +kernel)) ggX2_takeTurn_X2_takeBottle
theorem dX2_takeTurn_0 : decode cX2_takeTurn 0 = .ok (.aload_n 0, 1) := by decide +kernel
theorem dX2_takeTurn_1 : decode cX2_takeTurn 1 = .ok (.getfield 11, 3) := by decide +kernel
theorem dX2_takeTurn_4 : decode cX2_takeTurn 4 = .ok (.iload_n 1, 1) := by decide +kernel
theorem dX2_takeTurn_5 : decode cX2_takeTurn 5 = .ok (.aaload, 1) := by decide +kernel
theorem dX2_takeTurn_6 : decode cX2_takeTurn 6 = .ok (.astore_n 2, 1) := by decide +kernel
theorem dX2_takeTurn_7 : decode cX2_takeTurn 7 = .ok (.aload_n 0, 1) := by decide +kernel
theorem dX2_takeTurn_8 : decode cX2_takeTurn 8 = .ok (.iload_n 1, 1) := by decide +kernel
theorem dX2_takeTurn_9 : decode cX2_takeTurn 9 = .ok (.invokevirtual 58, 3) := by decide +kernel
theorem dX2_takeTurn_12 : decode cX2_takeTurn 12 = .ok (.aload_n 0, 1) := by decide +kernel
theorem dX2_takeTurn_13 : decode cX2_takeTurn 13 = .ok (.getfield 19, 3) := by decide +kernel
theorem dX2_takeTurn_16 : decode cX2_takeTurn 16 = .ok (.iload_n 1, 1) := by decide +kernel
theorem dX2_takeTurn_17 : decode cX2_takeTurn 17 = .ok (.invokevirtual 61, 3) := by decide +kernel
theorem dX2_takeTurn_20 : decode cX2_takeTurn 20 = .ok (.ifCond .eq 9, 3) := by decide +kernel
theorem dX2_takeTurn_23 : decode cX2_takeTurn 23 = .ok (.aload_n 2, 1) := by decide +kernel
theorem dX2_takeTurn_24 : decode cX2_takeTurn 24 = .ok (.iconst 4, 1) := by decide +kernel
theorem dX2_takeTurn_25 : decode cX2_takeTurn 25 = .ok (.invokestatic 65, 3) := by decide +kernel
theorem dX2_takeTurn_28 : decode cX2_takeTurn 28 = .ok (.return_, 1) := by decide +kernel
theorem dX2_takeTurn_29 : decode cX2_takeTurn 29 = .ok (.aload_n 2, 1) := by decide +kernel
theorem dX2_takeTurn_30 : decode cX2_takeTurn 30 = .ok (.bipush 6, 2) := by decide +kernel
theorem dX2_takeTurn_32 : decode cX2_takeTurn 32 = .ok (.iaload, 1) := by decide +kernel
theorem dX2_takeTurn_33 : decode cX2_takeTurn 33 = .ok (.ifCond .ne 8, 3) := by decide +kernel
theorem dX2_takeTurn_36 : decode cX2_takeTurn 36 = .ok (.aload_n 0, 1) := by decide +kernel
theorem dX2_takeTurn_37 : decode cX2_takeTurn 37 = .ok (.iload_n 1, 1) := by decide +kernel
theorem dX2_takeTurn_38 : decode cX2_takeTurn 38 = .ok (.invokevirtual 69, 3) := by decide +kernel
theorem dX2_takeTurn_41 : decode cX2_takeTurn 41 = .ok (.aload_n 2, 1) := by decide +kernel
theorem dX2_takeTurn_42 : decode cX2_takeTurn 42 = .ok (.bipush 6, 2) := by decide +kernel
theorem dX2_takeTurn_44 : decode cX2_takeTurn 44 = .ok (.iaload, 1) := by decide +kernel
theorem dX2_takeTurn_45 : decode cX2_takeTurn 45 = .ok (.iconst (-1), 1) := by decide +kernel
theorem dX2_takeTurn_46 : decode cX2_takeTurn 46 = .ok (.if_icmp .ne 8, 3) := by decide +kernel
theorem dX2_takeTurn_49 : decode cX2_takeTurn 49 = .ok (.aload_n 0, 1) := by decide +kernel
theorem dX2_takeTurn_50 : decode cX2_takeTurn 50 = .ok (.iload_n 1, 1) := by decide +kernel
theorem dX2_takeTurn_51 : decode cX2_takeTurn 51 = .ok (.invokevirtual 72, 3) := by decide +kernel
theorem dX2_takeTurn_54 : decode cX2_takeTurn 54 = .ok (.aload_n 2, 1) := by decide +kernel
theorem dX2_takeTurn_55 : decode cX2_takeTurn 55 = .ok (.bipush 6, 2) := by decide +kernel
theorem dX2_takeTurn_57 : decode cX2_takeTurn 57 = .ok (.iaload, 1) := by decide +kernel
theorem dX2_takeTurn_58 : decode cX2_takeTurn 58 = .ok (.ifCond .le 31, 3) := by decide +kernel
theorem dX2_takeTurn_61 : decode cX2_takeTurn 61 = .ok (.aload_n 2, 1) := by decide +kernel
theorem dX2_takeTurn_62 : decode cX2_takeTurn 62 = .ok (.bipush 6, 2) := by decide +kernel
theorem dX2_takeTurn_64 : decode cX2_takeTurn 64 = .ok (.dup2, 1) := by decide +kernel
theorem dX2_takeTurn_65 : decode cX2_takeTurn 65 = .ok (.iaload, 1) := by decide +kernel
theorem dX2_takeTurn_66 : decode cX2_takeTurn 66 = .ok (.iconst 1, 1) := by decide +kernel
theorem dX2_takeTurn_67 : decode cX2_takeTurn 67 = .ok (.isub, 1) := by decide +kernel
theorem dX2_takeTurn_68 : decode cX2_takeTurn 68 = .ok (.iastore, 1) := by decide +kernel
theorem dX2_takeTurn_69 : decode cX2_takeTurn 69 = .ok (.aload_n 2, 1) := by decide +kernel
theorem dX2_takeTurn_70 : decode cX2_takeTurn 70 = .ok (.iconst 1, 1) := by decide +kernel
theorem dX2_takeTurn_71 : decode cX2_takeTurn 71 = .ok (.invokestatic 65, 3) := by decide +kernel
theorem dX2_takeTurn_74 : decode cX2_takeTurn 74 = .ok (.aload_n 2, 1) := by decide +kernel
theorem dX2_takeTurn_75 : decode cX2_takeTurn 75 = .ok (.bipush 6, 2) := by decide +kernel
theorem dX2_takeTurn_77 : decode cX2_takeTurn 77 = .ok (.iaload, 1) := by decide +kernel
theorem dX2_takeTurn_78 : decode cX2_takeTurn 78 = .ok (.ifCond .ne 27, 3) := by decide +kernel
theorem dX2_takeTurn_81 : decode cX2_takeTurn 81 = .ok (.aload_n 0, 1) := by decide +kernel
theorem dX2_takeTurn_82 : decode cX2_takeTurn 82 = .ok (.iload_n 1, 1) := by decide +kernel
theorem dX2_takeTurn_83 : decode cX2_takeTurn 83 = .ok (.invokevirtual 69, 3) := by decide +kernel
theorem dX2_takeTurn_86 : decode cX2_takeTurn 86 = .ok (.goto 19, 3) := by decide +kernel
theorem dX2_takeTurn_89 : decode cX2_takeTurn 89 = .ok (.aload_n 2, 1) := by decide +kernel
theorem dX2_takeTurn_90 : decode cX2_takeTurn 90 = .ok (.aload_n 2, 1) := by decide +kernel
theorem dX2_takeTurn_91 : decode cX2_takeTurn 91 = .ok (.bipush 6, 2) := by decide +kernel
theorem dX2_takeTurn_93 : decode cX2_takeTurn 93 = .ok (.iaload, 1) := by decide +kernel
theorem dX2_takeTurn_94 : decode cX2_takeTurn 94 = .ok (.ifCond .ne 7, 3) := by decide +kernel
theorem dX2_takeTurn_97 : decode cX2_takeTurn 97 = .ok (.iconst 3, 1) := by decide +kernel
theorem dX2_takeTurn_98 : decode cX2_takeTurn 98 = .ok (.goto 4, 3) := by decide +kernel
theorem dX2_takeTurn_101 : decode cX2_takeTurn 101 = .ok (.iconst 2, 1) := by decide +kernel
theorem dX2_takeTurn_102 : decode cX2_takeTurn 102 = .ok (.invokestatic 65, 3) := by decide +kernel
theorem dX2_takeTurn_105 : decode cX2_takeTurn 105 = .ok (.return_, 1) := by decide +kernel
theorem dX2_chooseSpeed_0 : decode cX2_chooseSpeed 0 = .ok (.aload_n 0, 1) := by decide +kernel
theorem dX2_chooseSpeed_1 : decode cX2_chooseSpeed 1 = .ok (.getfield 11, 3) := by decide +kernel
theorem dX2_chooseSpeed_4 : decode cX2_chooseSpeed 4 = .ok (.iload_n 1, 1) := by decide +kernel
theorem dX2_chooseSpeed_5 : decode cX2_chooseSpeed 5 = .ok (.aaload, 1) := by decide +kernel
theorem dX2_chooseSpeed_6 : decode cX2_chooseSpeed 6 = .ok (.astore_n 2, 1) := by decide +kernel
theorem dX2_chooseSpeed_7 : decode cX2_chooseSpeed 7 = .ok (.iload_n 1, 1) := by decide +kernel
theorem dX2_chooseSpeed_8 : decode cX2_chooseSpeed 8 = .ok (.aload_n 0, 1) := by decide +kernel
theorem dX2_chooseSpeed_9 : decode cX2_chooseSpeed 9 = .ok (.getfield 23, 3) := by decide +kernel
theorem dX2_chooseSpeed_12 : decode cX2_chooseSpeed 12 = .ok (.iconst 1, 1) := by decide +kernel
theorem dX2_chooseSpeed_13 : decode cX2_chooseSpeed 13 = .ok (.isub, 1) := by decide +kernel
theorem dX2_chooseSpeed_14 : decode cX2_chooseSpeed 14 = .ok (.if_icmp .eq 12, 3) := by decide +kernel
theorem dX2_chooseSpeed_17 : decode cX2_chooseSpeed 17 = .ok (.aload_n 2, 1) := by decide +kernel
theorem dX2_chooseSpeed_18 : decode cX2_chooseSpeed 18 = .ok (.iconst 5, 1) := by decide +kernel
theorem dX2_chooseSpeed_19 : decode cX2_chooseSpeed 19 = .ok (.iaload, 1) := by decide +kernel
theorem dX2_chooseSpeed_20 : decode cX2_chooseSpeed 20 = .ok (.aload_n 2, 1) := by decide +kernel
theorem dX2_chooseSpeed_21 : decode cX2_chooseSpeed 21 = .ok (.iconst 2, 1) := by decide +kernel
theorem dX2_chooseSpeed_22 : decode cX2_chooseSpeed 22 = .ok (.iaload, 1) := by decide +kernel
theorem dX2_chooseSpeed_23 : decode cX2_chooseSpeed 23 = .ok (.if_icmp .gt 11, 3) := by decide +kernel
theorem dX2_chooseSpeed_26 : decode cX2_chooseSpeed 26 = .ok (.aload_n 2, 1) := by decide +kernel
theorem dX2_chooseSpeed_27 : decode cX2_chooseSpeed 27 = .ok (.bipush 7, 2) := by decide +kernel
theorem dX2_chooseSpeed_29 : decode cX2_chooseSpeed 29 = .ok (.iconst 1, 1) := by decide +kernel
theorem dX2_chooseSpeed_30 : decode cX2_chooseSpeed 30 = .ok (.iastore, 1) := by decide +kernel
theorem dX2_chooseSpeed_31 : decode cX2_chooseSpeed 31 = .ok (.goto 17, 3) := by decide +kernel
theorem dX2_chooseSpeed_34 : decode cX2_chooseSpeed 34 = .ok (.aload_n 2, 1) := by decide +kernel
theorem dX2_chooseSpeed_35 : decode cX2_chooseSpeed 35 = .ok (.iconst 5, 1) := by decide +kernel
theorem dX2_chooseSpeed_36 : decode cX2_chooseSpeed 36 = .ok (.iaload, 1) := by decide +kernel
theorem dX2_chooseSpeed_37 : decode cX2_chooseSpeed 37 = .ok (.aload_n 2, 1) := by decide +kernel
theorem dX2_chooseSpeed_38 : decode cX2_chooseSpeed 38 = .ok (.iconst 3, 1) := by decide +kernel
theorem dX2_chooseSpeed_39 : decode cX2_chooseSpeed 39 = .ok (.iaload, 1) := by decide +kernel
theorem dX2_chooseSpeed_40 : decode cX2_chooseSpeed 40 = .ok (.if_icmp .lt 8, 3) := by decide +kernel
theorem dX2_chooseSpeed_43 : decode cX2_chooseSpeed 43 = .ok (.aload_n 2, 1) := by decide +kernel
theorem dX2_chooseSpeed_44 : decode cX2_chooseSpeed 44 = .ok (.bipush 7, 2) := by decide +kernel
theorem dX2_chooseSpeed_46 : decode cX2_chooseSpeed 46 = .ok (.iconst 0, 1) := by decide +kernel
theorem dX2_chooseSpeed_47 : decode cX2_chooseSpeed 47 = .ok (.iastore, 1) := by decide +kernel
theorem dX2_chooseSpeed_48 : decode cX2_chooseSpeed 48 = .ok (.return_, 1) := by decide +kernel
theorem dX2_noteTurn_0 : decode cX2_noteTurn 0 = .ok (.aload_n 0, 1) := by decide +kernel
theorem dX2_noteTurn_1 : decode cX2_noteTurn 1 = .ok (.bipush 8, 2) := by decide +kernel
theorem dX2_noteTurn_3 : decode cX2_noteTurn 3 = .ok (.iload_n 1, 1) := by decide +kernel
theorem dX2_noteTurn_4 : decode cX2_noteTurn 4 = .ok (.iastore, 1) := by decide +kernel
theorem dX2_noteTurn_5 : decode cX2_noteTurn 5 = .ok (.aload_n 0, 1) := by decide +kernel
theorem dX2_noteTurn_6 : decode cX2_noteTurn 6 = .ok (.bipush 9, 2) := by decide +kernel
theorem dX2_noteTurn_8 : decode cX2_noteTurn 8 = .ok (.iload_n 1, 1) := by decide +kernel
theorem dX2_noteTurn_9 : decode cX2_noteTurn 9 = .ok (.iadd, 1) := by decide +kernel
theorem dX2_noteTurn_10 : decode cX2_noteTurn 10 = .ok (.iconst 1, 1) := by decide +kernel
theorem dX2_noteTurn_11 : decode cX2_noteTurn 11 = .ok (.isub, 1) := by decide +kernel
theorem dX2_noteTurn_12 : decode cX2_noteTurn 12 = .ok (.dup2, 1) := by decide +kernel
theorem dX2_noteTurn_13 : decode cX2_noteTurn 13 = .ok (.iaload, 1) := by decide +kernel
theorem dX2_noteTurn_14 : decode cX2_noteTurn 14 = .ok (.iconst 1, 1) := by decide +kernel
theorem dX2_noteTurn_15 : decode cX2_noteTurn 15 = .ok (.iadd, 1) := by decide +kernel
theorem dX2_noteTurn_16 : decode cX2_noteTurn 16 = .ok (.iastore, 1) := by decide +kernel
theorem dX2_noteTurn_17 : decode cX2_noteTurn 17 = .ok (.return_, 1) := by decide +kernel
set_option maxRecDepth 20000 in
theorem ggX2_release_X4_isDown : GoodIn wsX2_release wsX4_isDown := goodIn_r _ [8, 9, 18, 19, 20, 21, 22] (by decide +kernel) (by decide +kernel)
set_option maxRecDepth 20000 in
theorem gX2_release_X4_isDown : GoodIn wsX2_release (wsV RX2 61 RX4 yX4_isDown wsX4_isDown) := goodIn_app (goodIn_of _ (by decide +kernel)) ggX2_release_X4_isDown
set_option maxRecDepth 20000 in
theorem ggX2_release_X2_presentCycle : GoodIn wsX2_release wsX2_presentCycle := goodIn_r _ [13] (by decide +kernel) (by decide +kernel)
set_option maxRecDepth 20000 in
theorem gX2_release_X2_presentCycle : GoodIn wsX2_release (va_wsS RX2 75 yX2_presentCycle wsX2_presentCycle) := goodIn_app (goodIn_of _ (by decide +kernel)) ggX2_release_X2_presentCycle
theorem dX2_release_0 : decode cX2_release 0 = .ok (.aload_n 0, 1) := by decide +kernel
theorem dX2_release_1 : decode cX2_release 1 = .ok (.getfield 11, 3) := by decide +kernel
theorem dX2_release_4 : decode cX2_release 4 = .ok (.iload_n 1, 1) := by decide +kernel
theorem dX2_release_5 : decode cX2_release 5 = .ok (.aaload, 1) := by decide +kernel
theorem dX2_release_6 : decode cX2_release 6 = .ok (.astore_n 2, 1) := by decide +kernel
theorem dX2_release_7 : decode cX2_release 7 = .ok (.iload_n 1, 1) := by decide +kernel
theorem dX2_release_8 : decode cX2_release 8 = .ok (.aload_n 0, 1) := by decide +kernel
theorem dX2_release_9 : decode cX2_release 9 = .ok (.getfield 23, 3) := by decide +kernel
theorem dX2_release_12 : decode cX2_release 12 = .ok (.iconst 1, 1) := by decide +kernel
theorem dX2_release_13 : decode cX2_release 13 = .ok (.isub, 1) := by decide +kernel
theorem dX2_release_14 : decode cX2_release 14 = .ok (.if_icmp .ge 70, 3) := by decide +kernel
theorem dX2_release_17 : decode cX2_release 17 = .ok (.aload_n 0, 1) := by decide +kernel
theorem dX2_release_18 : decode cX2_release 18 = .ok (.getfield 11, 3) := by decide +kernel
theorem dX2_release_21 : decode cX2_release 21 = .ok (.iload_n 1, 1) := by decide +kernel
theorem dX2_release_22 : decode cX2_release 22 = .ok (.iconst 1, 1) := by decide +kernel
theorem dX2_release_23 : decode cX2_release 23 = .ok (.iadd, 1) := by decide +kernel
theorem dX2_release_24 : decode cX2_release 24 = .ok (.aaload, 1) := by decide +kernel
theorem dX2_release_25 : decode cX2_release 25 = .ok (.astore_n 3, 1) := by decide +kernel
theorem dX2_release_26 : decode cX2_release 26 = .ok (.aload_n 2, 1) := by decide +kernel
theorem dX2_release_27 : decode cX2_release 27 = .ok (.iconst 5, 1) := by decide +kernel
theorem dX2_release_28 : decode cX2_release 28 = .ok (.iaload, 1) := by decide +kernel
theorem dX2_release_29 : decode cX2_release 29 = .ok (.ifCond .ne 35, 3) := by decide +kernel
theorem dX2_release_32 : decode cX2_release 32 = .ok (.aload_n 3, 1) := by decide +kernel
theorem dX2_release_33 : decode cX2_release 33 = .ok (.bipush 6, 2) := by decide +kernel
theorem dX2_release_35 : decode cX2_release 35 = .ok (.iaload, 1) := by decide +kernel
theorem dX2_release_36 : decode cX2_release 36 = .ok (.iconst (-1), 1) := by decide +kernel
theorem dX2_release_37 : decode cX2_release 37 = .ok (.if_icmp .ne 27, 3) := by decide +kernel
theorem dX2_release_40 : decode cX2_release 40 = .ok (.aload_n 0, 1) := by decide +kernel
theorem dX2_release_41 : decode cX2_release 41 = .ok (.getfield 19, 3) := by decide +kernel
theorem dX2_release_44 : decode cX2_release 44 = .ok (.iload_n 1, 1) := by decide +kernel
theorem dX2_release_45 : decode cX2_release 45 = .ok (.iconst 1, 1) := by decide +kernel
theorem dX2_release_46 : decode cX2_release 46 = .ok (.iadd, 1) := by decide +kernel
theorem dX2_release_47 : decode cX2_release 47 = .ok (.invokevirtual 61, 3) := by decide +kernel
theorem dX2_release_50 : decode cX2_release 50 = .ok (.ifCond .ne 14, 3) := by decide +kernel
theorem dX2_release_53 : decode cX2_release 53 = .ok (.aload_n 3, 1) := by decide +kernel
theorem dX2_release_54 : decode cX2_release 54 = .ok (.bipush 6, 2) := by decide +kernel
theorem dX2_release_56 : decode cX2_release 56 = .ok (.aload_n 3, 1) := by decide +kernel
theorem dX2_release_57 : decode cX2_release 57 = .ok (.invokestatic 75, 3) := by decide +kernel
theorem dX2_release_60 : decode cX2_release 60 = .ok (.iastore, 1) := by decide +kernel
theorem dX2_release_61 : decode cX2_release 61 = .ok (.goto 23, 3) := by decide +kernel
theorem dX2_release_64 : decode cX2_release 64 = .ok (.aload_n 2, 1) := by decide +kernel
theorem dX2_release_65 : decode cX2_release 65 = .ok (.iconst 5, 1) := by decide +kernel
theorem dX2_release_66 : decode cX2_release 66 = .ok (.iaload, 1) := by decide +kernel
theorem dX2_release_67 : decode cX2_release 67 = .ok (.aload_n 2, 1) := by decide +kernel
theorem dX2_release_68 : decode cX2_release 68 = .ok (.iconst 4, 1) := by decide +kernel
theorem dX2_release_69 : decode cX2_release 69 = .ok (.iaload, 1) := by decide +kernel
theorem dX2_release_70 : decode cX2_release 70 = .ok (.if_icmp .ge 13, 3) := by decide +kernel
theorem dX2_release_73 : decode cX2_release 73 = .ok (.aload_n 2, 1) := by decide +kernel
theorem dX2_release_74 : decode cX2_release 74 = .ok (.iconst 5, 1) := by decide +kernel
theorem dX2_release_75 : decode cX2_release 75 = .ok (.dup2, 1) := by decide +kernel
theorem dX2_release_76 : decode cX2_release 76 = .ok (.iaload, 1) := by decide +kernel
theorem dX2_release_77 : decode cX2_release 77 = .ok (.iconst 1, 1) := by decide +kernel
theorem dX2_release_78 : decode cX2_release 78 = .ok (.iadd, 1) := by decide +kernel
theorem dX2_release_79 : decode cX2_release 79 = .ok (.iastore, 1) := by decide +kernel
theorem dX2_release_80 : decode cX2_release 80 = .ok (.goto 4, 3) := by decide +kernel
theorem dX2_release_83 : decode cX2_release 83 = .ok (.return_, 1) := by decide +kernel
theorem dX2_release_84 : decode cX2_release 84 = .ok (.aload_n 2, 1) := by decide +kernel
theorem dX2_release_85 : decode cX2_release 85 = .ok (.bipush 6, 2) := by decide +kernel
theorem dX2_release_87 : decode cX2_release 87 = .ok (.iconst (-1), 1) := by decide +kernel
theorem dX2_release_88 : decode cX2_release 88 = .ok (.iastore, 1) := by decide +kernel
theorem dX2_release_89 : decode cX2_release 89 = .ok (.aload_n 2, 1) := by decide +kernel
theorem dX2_release_90 : decode cX2_release 90 = .ok (.bipush 13, 2) := by decide +kernel
theorem dX2_release_92 : decode cX2_release 92 = .ok (.dup2, 1) := by decide +kernel
theorem dX2_release_93 : decode cX2_release 93 = .ok (.iaload, 1) := by decide +kernel
theorem dX2_release_94 : decode cX2_release 94 = .ok (.iconst 1, 1) := by decide +kernel
theorem dX2_release_95 : decode cX2_release 95 = .ok (.iadd, 1) := by decide +kernel
theorem dX2_release_96 : decode cX2_release 96 = .ok (.iastore, 1) := by decide +kernel
theorem dX2_release_97 : decode cX2_release 97 = .ok (.return_, 1) := by decide +kernel
set_option maxRecDepth 20000 in
theorem ggX2_takeBottle_X2_presentCycle : GoodIn wsX2_takeBottle wsX2_presentCycle := goodIn_r _ [5] (by decide +kernel) (by decide +kernel)
set_option maxRecDepth 20000 in
theorem gX2_takeBottle_X2_presentCycle : GoodIn wsX2_takeBottle (va_wsS RX2 75 yX2_presentCycle wsX2_presentCycle) := goodIn_app (goodIn_of _ (by decide +kernel)) ggX2_takeBottle_X2_presentCycle
theorem dX2_takeBottle_0 : decode cX2_takeBottle 0 = .ok (.aload_n 0, 1) := by decide +kernel
theorem dX2_takeBottle_1 : decode cX2_takeBottle 1 = .ok (.getfield 11, 3) := by decide +kernel
theorem dX2_takeBottle_4 : decode cX2_takeBottle 4 = .ok (.iload_n 1, 1) := by decide +kernel
theorem dX2_takeBottle_5 : decode cX2_takeBottle 5 = .ok (.aaload, 1) := by decide +kernel
theorem dX2_takeBottle_6 : decode cX2_takeBottle 6 = .ok (.astore_n 2, 1) := by decide +kernel
theorem dX2_takeBottle_7 : decode cX2_takeBottle 7 = .ok (.iload_n 1, 1) := by decide +kernel
theorem dX2_takeBottle_8 : decode cX2_takeBottle 8 = .ok (.ifCond .le 26, 3) := by decide +kernel
theorem dX2_takeBottle_11 : decode cX2_takeBottle 11 = .ok (.aload_n 0, 1) := by decide +kernel
theorem dX2_takeBottle_12 : decode cX2_takeBottle 12 = .ok (.getfield 11, 3) := by decide +kernel
theorem dX2_takeBottle_15 : decode cX2_takeBottle 15 = .ok (.iload_n 1, 1) := by decide +kernel
theorem dX2_takeBottle_16 : decode cX2_takeBottle 16 = .ok (.iconst 1, 1) := by decide +kernel
theorem dX2_takeBottle_17 : decode cX2_takeBottle 17 = .ok (.isub, 1) := by decide +kernel
theorem dX2_takeBottle_18 : decode cX2_takeBottle 18 = .ok (.aaload, 1) := by decide +kernel
theorem dX2_takeBottle_19 : decode cX2_takeBottle 19 = .ok (.astore_n 3, 1) := by decide +kernel
theorem dX2_takeBottle_20 : decode cX2_takeBottle 20 = .ok (.aload_n 3, 1) := by decide +kernel
theorem dX2_takeBottle_21 : decode cX2_takeBottle 21 = .ok (.iconst 5, 1) := by decide +kernel
theorem dX2_takeBottle_22 : decode cX2_takeBottle 22 = .ok (.iaload, 1) := by decide +kernel
theorem dX2_takeBottle_23 : decode cX2_takeBottle 23 = .ok (.ifCond .ne 4, 3) := by decide +kernel
theorem dX2_takeBottle_26 : decode cX2_takeBottle 26 = .ok (.return_, 1) := by decide +kernel
theorem dX2_takeBottle_27 : decode cX2_takeBottle 27 = .ok (.aload_n 3, 1) := by decide +kernel
theorem dX2_takeBottle_28 : decode cX2_takeBottle 28 = .ok (.iconst 5, 1) := by decide +kernel
theorem dX2_takeBottle_29 : decode cX2_takeBottle 29 = .ok (.dup2, 1) := by decide +kernel
theorem dX2_takeBottle_30 : decode cX2_takeBottle 30 = .ok (.iaload, 1) := by decide +kernel
theorem dX2_takeBottle_31 : decode cX2_takeBottle 31 = .ok (.iconst 1, 1) := by decide +kernel
theorem dX2_takeBottle_32 : decode cX2_takeBottle 32 = .ok (.isub, 1) := by decide +kernel
theorem dX2_takeBottle_33 : decode cX2_takeBottle 33 = .ok (.iastore, 1) := by decide +kernel
theorem dX2_takeBottle_34 : decode cX2_takeBottle 34 = .ok (.aload_n 2, 1) := by decide +kernel
theorem dX2_takeBottle_35 : decode cX2_takeBottle 35 = .ok (.bipush 6, 2) := by decide +kernel
theorem dX2_takeBottle_37 : decode cX2_takeBottle 37 = .ok (.aload_n 2, 1) := by decide +kernel
theorem dX2_takeBottle_38 : decode cX2_takeBottle 38 = .ok (.invokestatic 75, 3) := by decide +kernel
theorem dX2_takeBottle_41 : decode cX2_takeBottle 41 = .ok (.iastore, 1) := by decide +kernel
theorem dX2_takeBottle_42 : decode cX2_takeBottle 42 = .ok (.return_, 1) := by decide +kernel
theorem dX2_presentCycle_0 : decode cX2_presentCycle 0 = .ok (.aload_n 0, 1) := by decide +kernel
theorem dX2_presentCycle_1 : decode cX2_presentCycle 1 = .ok (.bipush 7, 2) := by decide +kernel
theorem dX2_presentCycle_3 : decode cX2_presentCycle 3 = .ok (.iaload, 1) := by decide +kernel
theorem dX2_presentCycle_4 : decode cX2_presentCycle 4 = .ok (.iconst 1, 1) := by decide +kernel
theorem dX2_presentCycle_5 : decode cX2_presentCycle 5 = .ok (.if_icmp .ne 9, 3) := by decide +kernel
theorem dX2_presentCycle_8 : decode cX2_presentCycle 8 = .ok (.aload_n 0, 1) := by decide +kernel
theorem dX2_presentCycle_9 : decode cX2_presentCycle 9 = .ok (.iconst 1, 1) := by decide +kernel
theorem dX2_presentCycle_10 : decode cX2_presentCycle 10 = .ok (.iaload, 1) := by decide +kernel
theorem dX2_presentCycle_11 : decode cX2_presentCycle 11 = .ok (.goto 6, 3) := by decide +kernel
theorem dX2_presentCycle_14 : decode cX2_presentCycle 14 = .ok (.aload_n 0, 1) := by decide +kernel
theorem dX2_presentCycle_15 : decode cX2_presentCycle 15 = .ok (.iconst 0, 1) := by decide +kernel
theorem dX2_presentCycle_16 : decode cX2_presentCycle 16 = .ok (.iaload, 1) := by decide +kernel
theorem dX2_presentCycle_17 : decode cX2_presentCycle 17 = .ok (.ireturn, 1) := by decide +kernel
theorem dX2_countFills_0 : decode cX2_countFills 0 = .ok (.iconst 0, 1) := by decide +kernel
theorem dX2_countFills_1 : decode cX2_countFills 1 = .ok (.istore_n 1, 1) := by decide +kernel
theorem dX2_countFills_2 : decode cX2_countFills 2 = .ok (.iload_n 1, 1) := by decide +kernel
theorem dX2_countFills_3 : decode cX2_countFills 3 = .ok (.aload_n 0, 1) := by decide +kernel
theorem dX2_countFills_4 : decode cX2_countFills 4 = .ok (.getfield 23, 3) := by decide +kernel
theorem dX2_countFills_7 : decode cX2_countFills 7 = .ok (.iconst 1, 1) := by decide +kernel
theorem dX2_countFills_8 : decode cX2_countFills 8 = .ok (.isub, 1) := by decide +kernel
theorem dX2_countFills_9 : decode cX2_countFills 9 = .ok (.if_icmp .ge 43, 3) := by decide +kernel
theorem dX2_countFills_12 : decode cX2_countFills 12 = .ok (.aload_n 0, 1) := by decide +kernel
theorem dX2_countFills_13 : decode cX2_countFills 13 = .ok (.getfield 11, 3) := by decide +kernel
theorem dX2_countFills_16 : decode cX2_countFills 16 = .ok (.iload_n 1, 1) := by decide +kernel
theorem dX2_countFills_17 : decode cX2_countFills 17 = .ok (.aaload, 1) := by decide +kernel
theorem dX2_countFills_18 : decode cX2_countFills 18 = .ok (.astore_n 2, 1) := by decide +kernel
theorem dX2_countFills_19 : decode cX2_countFills 19 = .ok (.aload_n 2, 1) := by decide +kernel
theorem dX2_countFills_20 : decode cX2_countFills 20 = .ok (.bipush 15, 2) := by decide +kernel
theorem dX2_countFills_22 : decode cX2_countFills 22 = .ok (.dup2, 1) := by decide +kernel
theorem dX2_countFills_23 : decode cX2_countFills 23 = .ok (.iaload, 1) := by decide +kernel
theorem dX2_countFills_24 : decode cX2_countFills 24 = .ok (.aload_n 2, 1) := by decide +kernel
theorem dX2_countFills_25 : decode cX2_countFills 25 = .ok (.iconst 5, 1) := by decide +kernel
theorem dX2_countFills_26 : decode cX2_countFills 26 = .ok (.iaload, 1) := by decide +kernel
theorem dX2_countFills_27 : decode cX2_countFills 27 = .ok (.iadd, 1) := by decide +kernel
theorem dX2_countFills_28 : decode cX2_countFills 28 = .ok (.iastore, 1) := by decide +kernel
theorem dX2_countFills_29 : decode cX2_countFills 29 = .ok (.aload_n 2, 1) := by decide +kernel
theorem dX2_countFills_30 : decode cX2_countFills 30 = .ok (.iconst 5, 1) := by decide +kernel
theorem dX2_countFills_31 : decode cX2_countFills 31 = .ok (.iaload, 1) := by decide +kernel
theorem dX2_countFills_32 : decode cX2_countFills 32 = .ok (.aload_n 2, 1) := by decide +kernel
theorem dX2_countFills_33 : decode cX2_countFills 33 = .ok (.iconst 4, 1) := by decide +kernel
theorem dX2_countFills_34 : decode cX2_countFills 34 = .ok (.iaload, 1) := by decide +kernel
theorem dX2_countFills_35 : decode cX2_countFills 35 = .ok (.if_icmp .lt 11, 3) := by decide +kernel
theorem dX2_countFills_38 : decode cX2_countFills 38 = .ok (.aload_n 2, 1) := by decide +kernel
theorem dX2_countFills_39 : decode cX2_countFills 39 = .ok (.bipush 14, 2) := by decide +kernel
theorem dX2_countFills_41 : decode cX2_countFills 41 = .ok (.dup2, 1) := by decide +kernel
theorem dX2_countFills_42 : decode cX2_countFills 42 = .ok (.iaload, 1) := by decide +kernel
theorem dX2_countFills_43 : decode cX2_countFills 43 = .ok (.iconst 1, 1) := by decide +kernel
theorem dX2_countFills_44 : decode cX2_countFills 44 = .ok (.iadd, 1) := by decide +kernel
theorem dX2_countFills_45 : decode cX2_countFills 45 = .ok (.iastore, 1) := by decide +kernel
theorem dX2_countFills_46 : decode cX2_countFills 46 = .ok (.iinc 1 1, 3) := by decide +kernel
theorem dX2_countFills_49 : decode cX2_countFills 49 = .ok (.goto (-47), 3) := by decide +kernel
theorem dX2_countFills_52 : decode cX2_countFills 52 = .ok (.return_, 1) := by decide +kernel
theorem dX2_bottlesOut_0 : decode cX2_bottlesOut 0 = .ok (.aload_n 0, 1) := by decide +kernel
theorem dX2_bottlesOut_1 : decode cX2_bottlesOut 1 = .ok (.getfield 23, 3) := by decide +kernel
theorem dX2_bottlesOut_4 : decode cX2_bottlesOut 4 = .ok (.ifCond .ne 7, 3) := by decide +kernel
theorem dX2_bottlesOut_7 : decode cX2_bottlesOut 7 = .ok (.iconst 0, 1) := by decide +kernel
theorem dX2_bottlesOut_8 : decode cX2_bottlesOut 8 = .ok (.goto 17, 3) := by decide +kernel
theorem dX2_bottlesOut_11 : decode cX2_bottlesOut 11 = .ok (.aload_n 0, 1) := by decide +kernel
theorem dX2_bottlesOut_12 : decode cX2_bottlesOut 12 = .ok (.getfield 11, 3) := by decide +kernel
theorem dX2_bottlesOut_15 : decode cX2_bottlesOut 15 = .ok (.aload_n 0, 1) := by decide +kernel
theorem dX2_bottlesOut_16 : decode cX2_bottlesOut 16 = .ok (.getfield 23, 3) := by decide +kernel
theorem dX2_bottlesOut_19 : decode cX2_bottlesOut 19 = .ok (.iconst 1, 1) := by decide +kernel
theorem dX2_bottlesOut_20 : decode cX2_bottlesOut 20 = .ok (.isub, 1) := by decide +kernel
theorem dX2_bottlesOut_21 : decode cX2_bottlesOut 21 = .ok (.aaload, 1) := by decide +kernel
theorem dX2_bottlesOut_22 : decode cX2_bottlesOut 22 = .ok (.bipush 13, 2) := by decide +kernel
theorem dX2_bottlesOut_24 : decode cX2_bottlesOut 24 = .ok (.iaload, 1) := by decide +kernel
theorem dX2_bottlesOut_25 : decode cX2_bottlesOut 25 = .ok (.ireturn, 1) := by decide +kernel
theorem dX2_bottlesInside_0 : decode cX2_bottlesInside 0 = .ok (.iconst 0, 1) := by decide +kernel
theorem dX2_bottlesInside_1 : decode cX2_bottlesInside 1 = .ok (.istore_n 1, 1) := by decide +kernel
theorem dX2_bottlesInside_2 : decode cX2_bottlesInside 2 = .ok (.iconst 0, 1) := by decide +kernel
theorem dX2_bottlesInside_3 : decode cX2_bottlesInside 3 = .ok (.istore_n 2, 1) := by decide +kernel
theorem dX2_bottlesInside_4 : decode cX2_bottlesInside 4 = .ok (.iload_n 2, 1) := by decide +kernel
theorem dX2_bottlesInside_5 : decode cX2_bottlesInside 5 = .ok (.aload_n 0, 1) := by decide +kernel
theorem dX2_bottlesInside_6 : decode cX2_bottlesInside 6 = .ok (.getfield 23, 3) := by decide +kernel
theorem dX2_bottlesInside_9 : decode cX2_bottlesInside 9 = .ok (.if_icmp .ge 39, 3) := by decide +kernel
theorem dX2_bottlesInside_12 : decode cX2_bottlesInside 12 = .ok (.iload_n 1, 1) := by decide +kernel
theorem dX2_bottlesInside_13 : decode cX2_bottlesInside 13 = .ok (.aload_n 0, 1) := by decide +kernel
theorem dX2_bottlesInside_14 : decode cX2_bottlesInside 14 = .ok (.getfield 11, 3) := by decide +kernel
theorem dX2_bottlesInside_17 : decode cX2_bottlesInside 17 = .ok (.iload_n 2, 1) := by decide +kernel
theorem dX2_bottlesInside_18 : decode cX2_bottlesInside 18 = .ok (.aaload, 1) := by decide +kernel
theorem dX2_bottlesInside_19 : decode cX2_bottlesInside 19 = .ok (.iconst 5, 1) := by decide +kernel
theorem dX2_bottlesInside_20 : decode cX2_bottlesInside 20 = .ok (.iaload, 1) := by decide +kernel
theorem dX2_bottlesInside_21 : decode cX2_bottlesInside 21 = .ok (.aload_n 0, 1) := by decide +kernel
theorem dX2_bottlesInside_22 : decode cX2_bottlesInside 22 = .ok (.getfield 11, 3) := by decide +kernel
theorem dX2_bottlesInside_25 : decode cX2_bottlesInside 25 = .ok (.iload_n 2, 1) := by decide +kernel
theorem dX2_bottlesInside_26 : decode cX2_bottlesInside 26 = .ok (.aaload, 1) := by decide +kernel
theorem dX2_bottlesInside_27 : decode cX2_bottlesInside 27 = .ok (.bipush 6, 2) := by decide +kernel
theorem dX2_bottlesInside_29 : decode cX2_bottlesInside 29 = .ok (.iaload, 1) := by decide +kernel
theorem dX2_bottlesInside_30 : decode cX2_bottlesInside 30 = .ok (.iconst (-1), 1) := by decide +kernel
theorem dX2_bottlesInside_31 : decode cX2_bottlesInside 31 = .ok (.if_icmp .ne 7, 3) := by decide +kernel
theorem dX2_bottlesInside_34 : decode cX2_bottlesInside 34 = .ok (.iconst 0, 1) := by decide +kernel
theorem dX2_bottlesInside_35 : decode cX2_bottlesInside 35 = .ok (.goto 4, 3) := by decide +kernel
theorem dX2_bottlesInside_38 : decode cX2_bottlesInside 38 = .ok (.iconst 1, 1) := by decide +kernel
theorem dX2_bottlesInside_39 : decode cX2_bottlesInside 39 = .ok (.iadd, 1) := by decide +kernel
theorem dX2_bottlesInside_40 : decode cX2_bottlesInside 40 = .ok (.iadd, 1) := by decide +kernel
theorem dX2_bottlesInside_41 : decode cX2_bottlesInside 41 = .ok (.istore_n 1, 1) := by decide +kernel
theorem dX2_bottlesInside_42 : decode cX2_bottlesInside 42 = .ok (.iinc 2 1, 3) := by decide +kernel
theorem dX2_bottlesInside_45 : decode cX2_bottlesInside 45 = .ok (.goto (-41), 3) := by decide +kernel
theorem dX2_bottlesInside_48 : decode cX2_bottlesInside 48 = .ok (.iload_n 1, 1) := by decide +kernel
theorem dX2_bottlesInside_49 : decode cX2_bottlesInside 49 = .ok (.ireturn, 1) := by decide +kernel
theorem dX2_findLimiting_0 : decode cX2_findLimiting 0 = .ok (.iconst 0, 1) := by decide +kernel
theorem dX2_findLimiting_1 : decode cX2_findLimiting 1 = .ok (.istore_n 1, 1) := by decide +kernel
theorem dX2_findLimiting_2 : decode cX2_findLimiting 2 = .ok (.ldc 81, 2) := by decide +kernel
theorem dX2_findLimiting_4 : decode cX2_findLimiting 4 = .ok (.istore_n 2, 1) := by decide +kernel
theorem dX2_findLimiting_5 : decode cX2_findLimiting 5 = .ok (.iconst 0, 1) := by decide +kernel
theorem dX2_findLimiting_6 : decode cX2_findLimiting 6 = .ok (.istore_n 3, 1) := by decide +kernel
theorem dX2_findLimiting_7 : decode cX2_findLimiting 7 = .ok (.iload_n 3, 1) := by decide +kernel
theorem dX2_findLimiting_8 : decode cX2_findLimiting 8 = .ok (.aload_n 0, 1) := by decide +kernel
theorem dX2_findLimiting_9 : decode cX2_findLimiting 9 = .ok (.getfield 23, 3) := by decide +kernel
theorem dX2_findLimiting_12 : decode cX2_findLimiting 12 = .ok (.if_icmp .ge 41, 3) := by decide +kernel
theorem dX2_findLimiting_15 : decode cX2_findLimiting 15 = .ok (.aload_n 0, 1) := by decide +kernel
theorem dX2_findLimiting_16 : decode cX2_findLimiting 16 = .ok (.getfield 11, 3) := by decide +kernel
theorem dX2_findLimiting_19 : decode cX2_findLimiting 19 = .ok (.iload_n 3, 1) := by decide +kernel
theorem dX2_findLimiting_20 : decode cX2_findLimiting 20 = .ok (.aaload, 1) := by decide +kernel
theorem dX2_findLimiting_21 : decode cX2_findLimiting 21 = .ok (.bipush 10, 2) := by decide +kernel
theorem dX2_findLimiting_23 : decode cX2_findLimiting 23 = .ok (.iaload, 1) := by decide +kernel
theorem dX2_findLimiting_24 : decode cX2_findLimiting 24 = .ok (.aload_n 0, 1) := by decide +kernel
theorem dX2_findLimiting_25 : decode cX2_findLimiting 25 = .ok (.getfield 11, 3) := by decide +kernel
theorem dX2_findLimiting_28 : decode cX2_findLimiting 28 = .ok (.iload_n 3, 1) := by decide +kernel
theorem dX2_findLimiting_29 : decode cX2_findLimiting 29 = .ok (.aaload, 1) := by decide +kernel
theorem dX2_findLimiting_30 : decode cX2_findLimiting 30 = .ok (.bipush 11, 2) := by decide +kernel
theorem dX2_findLimiting_32 : decode cX2_findLimiting 32 = .ok (.iaload, 1) := by decide +kernel
theorem dX2_findLimiting_33 : decode cX2_findLimiting 33 = .ok (.iadd, 1) := by decide +kernel
theorem dX2_findLimiting_34 : decode cX2_findLimiting 34 = .ok (.istore 4, 2) := by decide +kernel
theorem dX2_findLimiting_36 : decode cX2_findLimiting 36 = .ok (.iload 4, 2) := by decide +kernel
theorem dX2_findLimiting_38 : decode cX2_findLimiting 38 = .ok (.iload_n 2, 1) := by decide +kernel
theorem dX2_findLimiting_39 : decode cX2_findLimiting 39 = .ok (.if_icmp .ge 8, 3) := by decide +kernel
theorem dX2_findLimiting_42 : decode cX2_findLimiting 42 = .ok (.iload 4, 2) := by decide +kernel
theorem dX2_findLimiting_44 : decode cX2_findLimiting 44 = .ok (.istore_n 2, 1) := by decide +kernel
theorem dX2_findLimiting_45 : decode cX2_findLimiting 45 = .ok (.iload_n 3, 1) := by decide +kernel
theorem dX2_findLimiting_46 : decode cX2_findLimiting 46 = .ok (.istore_n 1, 1) := by decide +kernel
theorem dX2_findLimiting_47 : decode cX2_findLimiting 47 = .ok (.iinc 3 1, 3) := by decide +kernel
theorem dX2_findLimiting_50 : decode cX2_findLimiting 50 = .ok (.goto (-43), 3) := by decide +kernel
theorem dX2_findLimiting_53 : decode cX2_findLimiting 53 = .ok (.iload_n 1, 1) := by decide +kernel
theorem dX2_findLimiting_54 : decode cX2_findLimiting 54 = .ok (.ireturn, 1) := by decide +kernel
set_option maxRecDepth 20000 in
theorem ggX2_findSlowest_X2_mostBottles : GoodIn wsX2_findSlowest wsX2_mostBottles := goodIn_r _ [7, 8, 9, 10, 11, 6, 12, 13, 14, 15, 16, 17, 18, 19, 20, 21, 22, 23, 24, 25, 26, 27, 28, 29, 30, 31, 32, 33, 34, 35, 36, 37, 38, 39, 40, 41, 42] (by decide +kernel) (by decide +kernel)
set_option maxRecDepth 20000 in
theorem gX2_findSlowest_X2_mostBottles : GoodIn wsX2_findSlowest (wsV RX2 82 RX2 yX2_mostBottles wsX2_mostBottles) := goodIn_app (goodIn_of _ (by decide +kernel)) ggX2_findSlowest_X2_mostBottles
theorem dX2_findSlowest_0 : decode cX2_findSlowest 0 = .ok (.iconst 0, 1) := by decide +kernel
theorem dX2_findSlowest_1 : decode cX2_findSlowest 1 = .ok (.istore_n 2, 1) := by decide +kernel
theorem dX2_findSlowest_2 : decode cX2_findSlowest 2 = .ok (.ldc 81, 2) := by decide +kernel
theorem dX2_findSlowest_4 : decode cX2_findSlowest 4 = .ok (.istore_n 3, 1) := by decide +kernel
theorem dX2_findSlowest_5 : decode cX2_findSlowest 5 = .ok (.iconst 0, 1) := by decide +kernel
theorem dX2_findSlowest_6 : decode cX2_findSlowest 6 = .ok (.istore 4, 2) := by decide +kernel
theorem dX2_findSlowest_8 : decode cX2_findSlowest 8 = .ok (.iload 4, 2) := by decide +kernel
theorem dX2_findSlowest_10 : decode cX2_findSlowest 10 = .ok (.aload_n 0, 1) := by decide +kernel
theorem dX2_findSlowest_11 : decode cX2_findSlowest 11 = .ok (.getfield 23, 3) := by decide +kernel
theorem dX2_findSlowest_14 : decode cX2_findSlowest 14 = .ok (.if_icmp .ge 30, 3) := by decide +kernel
theorem dX2_findSlowest_17 : decode cX2_findSlowest 17 = .ok (.aload_n 0, 1) := by decide +kernel
theorem dX2_findSlowest_18 : decode cX2_findSlowest 18 = .ok (.iload 4, 2) := by decide +kernel
theorem dX2_findSlowest_20 : decode cX2_findSlowest 20 = .ok (.iload_n 1, 1) := by decide +kernel
theorem dX2_findSlowest_21 : decode cX2_findSlowest 21 = .ok (.invokevirtual 82, 3) := by decide +kernel
theorem dX2_findSlowest_24 : decode cX2_findSlowest 24 = .ok (.istore 5, 2) := by decide +kernel
theorem dX2_findSlowest_26 : decode cX2_findSlowest 26 = .ok (.iload 5, 2) := by decide +kernel
theorem dX2_findSlowest_28 : decode cX2_findSlowest 28 = .ok (.iload_n 3, 1) := by decide +kernel
theorem dX2_findSlowest_29 : decode cX2_findSlowest 29 = .ok (.if_icmp .ge 9, 3) := by decide +kernel
theorem dX2_findSlowest_32 : decode cX2_findSlowest 32 = .ok (.iload 5, 2) := by decide +kernel
theorem dX2_findSlowest_34 : decode cX2_findSlowest 34 = .ok (.istore_n 3, 1) := by decide +kernel
theorem dX2_findSlowest_35 : decode cX2_findSlowest 35 = .ok (.iload 4, 2) := by decide +kernel
theorem dX2_findSlowest_37 : decode cX2_findSlowest 37 = .ok (.istore_n 2, 1) := by decide +kernel
theorem dX2_findSlowest_38 : decode cX2_findSlowest 38 = .ok (.iinc 4 1, 3) := by decide +kernel
theorem dX2_findSlowest_41 : decode cX2_findSlowest 41 = .ok (.goto (-33), 3) := by decide +kernel
theorem dX2_findSlowest_44 : decode cX2_findSlowest 44 = .ok (.iload_n 2, 1) := by decide +kernel
theorem dX2_findSlowest_45 : decode cX2_findSlowest 45 = .ok (.ireturn, 1) := by decide +kernel
set_option maxRecDepth 20000 in
theorem ggX2_mostBottles_X2_upTicks : GoodIn wsX2_mostBottles wsX2_upTicks := goodIn_r _ [6, 7, 8, 9, 10, 11, 12, 13, 14, 15, 16, 17, 18, 19, 20, 21, 22, 23, 24, 25, 26, 27, 28, 29, 30, 31, 32, 33, 34, 35, 36] (by decide +kernel) (by decide +kernel)
set_option maxRecDepth 20000 in
theorem gX2_mostBottles_X2_upTicks : GoodIn wsX2_mostBottles (wsV RX2 86 RX2 yX2_upTicks wsX2_upTicks) := goodIn_app (goodIn_of _ (by decide +kernel)) ggX2_mostBottles_X2_upTicks
theorem dX2_mostBottles_0 : decode cX2_mostBottles 0 = .ok (.aload_n 0, 1) := by decide +kernel
theorem dX2_mostBottles_1 : decode cX2_mostBottles 1 = .ok (.getfield 11, 3) := by decide +kernel
theorem dX2_mostBottles_4 : decode cX2_mostBottles 4 = .ok (.iload_n 1, 1) := by decide +kernel
theorem dX2_mostBottles_5 : decode cX2_mostBottles 5 = .ok (.aaload, 1) := by decide +kernel
theorem dX2_mostBottles_6 : decode cX2_mostBottles 6 = .ok (.iconst 1, 1) := by decide +kernel
theorem dX2_mostBottles_7 : decode cX2_mostBottles 7 = .ok (.iaload, 1) := by decide +kernel
theorem dX2_mostBottles_8 : decode cX2_mostBottles 8 = .ok (.istore_n 3, 1) := by decide +kernel
theorem dX2_mostBottles_9 : decode cX2_mostBottles 9 = .ok (.iload_n 3, 1) := by decide +kernel
theorem dX2_mostBottles_10 : decode cX2_mostBottles 10 = .ok (.iconst 1, 1) := by decide +kernel
theorem dX2_mostBottles_11 : decode cX2_mostBottles 11 = .ok (.if_icmp .ge 7, 3) := by decide +kernel
theorem dX2_mostBottles_14 : decode cX2_mostBottles 14 = .ok (.iconst 0, 1) := by decide +kernel
theorem dX2_mostBottles_15 : decode cX2_mostBottles 15 = .ok (.goto 11, 3) := by decide +kernel
theorem dX2_mostBottles_18 : decode cX2_mostBottles 18 = .ok (.aload_n 0, 1) := by decide +kernel
theorem dX2_mostBottles_19 : decode cX2_mostBottles 19 = .ok (.iload_n 1, 1) := by decide +kernel
theorem dX2_mostBottles_20 : decode cX2_mostBottles 20 = .ok (.iload_n 2, 1) := by decide +kernel
theorem dX2_mostBottles_21 : decode cX2_mostBottles 21 = .ok (.invokevirtual 86, 3) := by decide +kernel
theorem dX2_mostBottles_24 : decode cX2_mostBottles 24 = .ok (.iload_n 3, 1) := by decide +kernel
theorem dX2_mostBottles_25 : decode cX2_mostBottles 25 = .ok (.idiv, 1) := by decide +kernel
theorem dX2_mostBottles_26 : decode cX2_mostBottles 26 = .ok (.ireturn, 1) := by decide +kernel
set_option maxRecDepth 20000 in
theorem ggX2_upTicks_X4_lookAt : GoodIn wsX2_upTicks wsX4_lookAt := goodIn_r _ [10, 11, 12, 13, 14, 15, 16, 3, 4, 5, 17, 26, 27, 28, 29, 30] (by decide +kernel) (by decide +kernel)
set_option maxRecDepth 20000 in
theorem gX2_upTicks_X4_lookAt : GoodIn wsX2_upTicks (wsV RX2 47 RX4 yX4_lookAt wsX4_lookAt) := goodIn_app (goodIn_of _ (by decide +kernel)) ggX2_upTicks_X4_lookAt
set_option maxRecDepth 20000 in
theorem ggX2_upTicks_X4_isDown : GoodIn wsX2_upTicks wsX4_isDown := goodIn_r _ [21, 12, 26, 27, 28, 29, 30] (by decide +kernel) (by decide +kernel)
set_option maxRecDepth 20000 in
theorem gX2_upTicks_X4_isDown : GoodIn wsX2_upTicks (wsV RX2 61 RX4 yX4_isDown wsX4_isDown) := goodIn_app (goodIn_of _ (by decide +kernel)) ggX2_upTicks_X4_isDown
theorem dX2_upTicks_0 : decode cX2_upTicks 0 = .ok (.iconst 0, 1) := by decide +kernel
theorem dX2_upTicks_1 : decode cX2_upTicks 1 = .ok (.istore_n 3, 1) := by decide +kernel
theorem dX2_upTicks_2 : decode cX2_upTicks 2 = .ok (.iconst 1, 1) := by decide +kernel
theorem dX2_upTicks_3 : decode cX2_upTicks 3 = .ok (.istore 4, 2) := by decide +kernel
theorem dX2_upTicks_5 : decode cX2_upTicks 5 = .ok (.iconst 0, 1) := by decide +kernel
theorem dX2_upTicks_6 : decode cX2_upTicks 6 = .ok (.istore 5, 2) := by decide +kernel
theorem dX2_upTicks_8 : decode cX2_upTicks 8 = .ok (.iload 5, 2) := by decide +kernel
theorem dX2_upTicks_10 : decode cX2_upTicks 10 = .ok (.bipush 80, 2) := by decide +kernel
theorem dX2_upTicks_12 : decode cX2_upTicks 12 = .ok (.if_icmp .gt 55, 3) := by decide +kernel
theorem dX2_upTicks_15 : decode cX2_upTicks 15 = .ok (.iload 4, 2) := by decide +kernel
theorem dX2_upTicks_17 : decode cX2_upTicks 17 = .ok (.iload_n 2, 1) := by decide +kernel
theorem dX2_upTicks_18 : decode cX2_upTicks 18 = .ok (.if_icmp .gt 49, 3) := by decide +kernel
theorem dX2_upTicks_21 : decode cX2_upTicks 21 = .ok (.aload_n 0, 1) := by decide +kernel
theorem dX2_upTicks_22 : decode cX2_upTicks 22 = .ok (.getfield 19, 3) := by decide +kernel
theorem dX2_upTicks_25 : decode cX2_upTicks 25 = .ok (.iload 4, 2) := by decide +kernel
theorem dX2_upTicks_27 : decode cX2_upTicks 27 = .ok (.invokevirtual 47, 3) := by decide +kernel
theorem dX2_upTicks_30 : decode cX2_upTicks 30 = .ok (.iload_n 2, 1) := by decide +kernel
theorem dX2_upTicks_31 : decode cX2_upTicks 31 = .ok (.iconst 1, 1) := by decide +kernel
theorem dX2_upTicks_32 : decode cX2_upTicks 32 = .ok (.iadd, 1) := by decide +kernel
theorem dX2_upTicks_33 : decode cX2_upTicks 33 = .ok (.invokestatic 89, 3) := by decide +kernel
end
section
theorem dX2_upTicks_36 : decode cX2_upTicks 36 = .ok (.istore 6, 2) := by decide +kernel
theorem dX2_upTicks_38 : decode cX2_upTicks 38 = .ok (.aload_n 0, 1) := by decide +kernel
theorem dX2_upTicks_39 : decode cX2_upTicks 39 = .ok (.getfield 19, 3) := by decide +kernel
theorem dX2_upTicks_42 : decode cX2_upTicks 42 = .ok (.iload_n 1, 1) := by decide +kernel
theorem dX2_upTicks_43 : decode cX2_upTicks 43 = .ok (.invokevirtual 61, 3) := by decide +kernel
theorem dX2_upTicks_46 : decode cX2_upTicks 46 = .ok (.ifCond .ne 11, 3) := by decide +kernel
theorem dX2_upTicks_49 : decode cX2_upTicks 49 = .ok (.iload_n 3, 1) := by decide +kernel
theorem dX2_upTicks_50 : decode cX2_upTicks 50 = .ok (.iload 6, 2) := by decide +kernel
theorem dX2_upTicks_52 : decode cX2_upTicks 52 = .ok (.iload 4, 2) := by decide +kernel
theorem dX2_upTicks_54 : decode cX2_upTicks 54 = .ok (.isub, 1) := by decide +kernel
theorem dX2_upTicks_55 : decode cX2_upTicks 55 = .ok (.iadd, 1) := by decide +kernel
theorem dX2_upTicks_56 : decode cX2_upTicks 56 = .ok (.istore_n 3, 1) := by decide +kernel
theorem dX2_upTicks_57 : decode cX2_upTicks 57 = .ok (.iload 6, 2) := by decide +kernel
theorem dX2_upTicks_59 : decode cX2_upTicks 59 = .ok (.istore 4, 2) := by decide +kernel
theorem dX2_upTicks_61 : decode cX2_upTicks 61 = .ok (.iinc 5 1, 3) := by decide +kernel
theorem dX2_upTicks_64 : decode cX2_upTicks 64 = .ok (.goto (-56), 3) := by decide +kernel
theorem dX2_upTicks_67 : decode cX2_upTicks 67 = .ok (.iload_n 3, 1) := by decide +kernel
theorem dX2_upTicks_68 : decode cX2_upTicks 68 = .ok (.ireturn, 1) := by decide +kernel
set_option maxRecDepth 20000 in
theorem ggX2_mixInto_X2_bottlesOut : GoodIn wsX2_mixInto wsX2_bottlesOut := goodIn_r _ [9, 3, 4, 10, 11, 12, 13] (by decide +kernel) (by decide +kernel)
set_option maxRecDepth 20000 in
theorem gX2_mixInto_X2_bottlesOut : GoodIn wsX2_mixInto (wsV RX2 96 RX2 yX2_bottlesOut wsX2_bottlesOut) := goodIn_app (goodIn_of _ (by decide +kernel)) ggX2_mixInto_X2_bottlesOut
theorem dX2_mixInto_0 : decode cX2_mixInto 0 = .ok (.ldc2_w 94, 3) := by decide +kernel
theorem dX2_mixInto_3 : decode cX2_mixInto 3 = .ok (.lload_n 1, 1) := by decide +kernel
theorem dX2_mixInto_4 : decode cX2_mixInto 4 = .ok (.lmul, 1) := by decide +kernel
theorem dX2_mixInto_5 : decode cX2_mixInto 5 = .ok (.aload_n 0, 1) := by decide +kernel
theorem dX2_mixInto_6 : decode cX2_mixInto 6 = .ok (.getfield 37, 3) := by decide +kernel
theorem dX2_mixInto_9 : decode cX2_mixInto 9 = .ok (.i2l, 1) := by decide +kernel
theorem dX2_mixInto_10 : decode cX2_mixInto 10 = .ok (.ladd, 1) := by decide +kernel
theorem dX2_mixInto_11 : decode cX2_mixInto 11 = .ok (.lstore_n 3, 1) := by decide +kernel
theorem dX2_mixInto_12 : decode cX2_mixInto 12 = .ok (.ldc2_w 94, 3) := by decide +kernel
theorem dX2_mixInto_15 : decode cX2_mixInto 15 = .ok (.lload_n 3, 1) := by decide +kernel
theorem dX2_mixInto_16 : decode cX2_mixInto 16 = .ok (.lmul, 1) := by decide +kernel
theorem dX2_mixInto_17 : decode cX2_mixInto 17 = .ok (.aload_n 0, 1) := by decide +kernel
theorem dX2_mixInto_18 : decode cX2_mixInto 18 = .ok (.invokevirtual 96, 3) := by decide +kernel
theorem dX2_mixInto_21 : decode cX2_mixInto 21 = .ok (.i2l, 1) := by decide +kernel
theorem dX2_mixInto_22 : decode cX2_mixInto 22 = .ok (.ladd, 1) := by decide +kernel
theorem dX2_mixInto_23 : decode cX2_mixInto 23 = .ok (.lstore_n 3, 1) := by decide +kernel
theorem dX2_mixInto_24 : decode cX2_mixInto 24 = .ok (.ldc2_w 94, 3) := by decide +kernel
theorem dX2_mixInto_27 : decode cX2_mixInto 27 = .ok (.lload_n 3, 1) := by decide +kernel
theorem dX2_mixInto_28 : decode cX2_mixInto 28 = .ok (.lmul, 1) := by decide +kernel
theorem dX2_mixInto_29 : decode cX2_mixInto 29 = .ok (.aload_n 0, 1) := by decide +kernel
theorem dX2_mixInto_30 : decode cX2_mixInto 30 = .ok (.getfield 23, 3) := by decide +kernel
theorem dX2_mixInto_33 : decode cX2_mixInto 33 = .ok (.i2l, 1) := by decide +kernel
theorem dX2_mixInto_34 : decode cX2_mixInto 34 = .ok (.ladd, 1) := by decide +kernel
theorem dX2_mixInto_35 : decode cX2_mixInto 35 = .ok (.lstore_n 3, 1) := by decide +kernel
theorem dX2_mixInto_36 : decode cX2_mixInto 36 = .ok (.iconst 0, 1) := by decide +kernel
theorem dX2_mixInto_37 : decode cX2_mixInto 37 = .ok (.istore 5, 2) := by decide +kernel
theorem dX2_mixInto_39 : decode cX2_mixInto 39 = .ok (.iload 5, 2) := by decide +kernel
theorem dX2_mixInto_41 : decode cX2_mixInto 41 = .ok (.aload_n 0, 1) := by decide +kernel
theorem dX2_mixInto_42 : decode cX2_mixInto 42 = .ok (.getfield 23, 3) := by decide +kernel
theorem dX2_mixInto_45 : decode cX2_mixInto 45 = .ok (.if_icmp .ge 43, 3) := by decide +kernel
theorem dX2_mixInto_48 : decode cX2_mixInto 48 = .ok (.iconst 0, 1) := by decide +kernel
theorem dX2_mixInto_49 : decode cX2_mixInto 49 = .ok (.istore 6, 2) := by decide +kernel
theorem dX2_mixInto_51 : decode cX2_mixInto 51 = .ok (.iload 6, 2) := by decide +kernel
theorem dX2_mixInto_53 : decode cX2_mixInto 53 = .ok (.bipush 15, 2) := by decide +kernel
theorem dX2_mixInto_55 : decode cX2_mixInto 55 = .ok (.if_icmp .ge 27, 3) := by decide +kernel
theorem dX2_mixInto_58 : decode cX2_mixInto 58 = .ok (.ldc2_w 94, 3) := by decide +kernel
theorem dX2_mixInto_61 : decode cX2_mixInto 61 = .ok (.lload_n 3, 1) := by decide +kernel
theorem dX2_mixInto_62 : decode cX2_mixInto 62 = .ok (.lmul, 1) := by decide +kernel
theorem dX2_mixInto_63 : decode cX2_mixInto 63 = .ok (.aload_n 0, 1) := by decide +kernel
theorem dX2_mixInto_64 : decode cX2_mixInto 64 = .ok (.getfield 11, 3) := by decide +kernel
theorem dX2_mixInto_67 : decode cX2_mixInto 67 = .ok (.iload 5, 2) := by decide +kernel
theorem dX2_mixInto_69 : decode cX2_mixInto 69 = .ok (.aaload, 1) := by decide +kernel
theorem dX2_mixInto_70 : decode cX2_mixInto 70 = .ok (.iload 6, 2) := by decide +kernel
theorem dX2_mixInto_72 : decode cX2_mixInto 72 = .ok (.iaload, 1) := by decide +kernel
theorem dX2_mixInto_73 : decode cX2_mixInto 73 = .ok (.i2l, 1) := by decide +kernel
theorem dX2_mixInto_74 : decode cX2_mixInto 74 = .ok (.ladd, 1) := by decide +kernel
theorem dX2_mixInto_75 : decode cX2_mixInto 75 = .ok (.lstore_n 3, 1) := by decide +kernel
theorem dX2_mixInto_76 : decode cX2_mixInto 76 = .ok (.iinc 6 1, 3) := by decide +kernel
theorem dX2_mixInto_79 : decode cX2_mixInto 79 = .ok (.goto (-28), 3) := by decide +kernel
theorem dX2_mixInto_82 : decode cX2_mixInto 82 = .ok (.iinc 5 1, 3) := by decide +kernel
theorem dX2_mixInto_85 : decode cX2_mixInto 85 = .ok (.goto (-46), 3) := by decide +kernel
theorem dX2_mixInto_88 : decode cX2_mixInto 88 = .ok (.lload_n 3, 1) := by decide +kernel
theorem dX2_mixInto_89 : decode cX2_mixInto 89 = .ok (.lreturn, 1) := by decide +kernel
end
section
theorem dX0_init_0 : decode cX0_init 0 = .ok (.aload_n 0, 1) := by decide +kernel
theorem dX0_init_1 : decode cX0_init 1 = .ok (.invokespecial 1, 3) := by decide +kernel
theorem dX0_init_4 : decode cX0_init 4 = .ok (.aload_n 0, 1) := by decide +kernel
theorem dX0_init_5 : decode cX0_init 5 = .ok (.iload_n 1, 1) := by decide +kernel
theorem dX0_init_6 : decode cX0_init 6 = .ok (.i2l, 1) := by decide +kernel
theorem dX0_init_7 : decode cX0_init 7 = .ok (.putfield 7, 3) := by decide +kernel
theorem dX0_init_10 : decode cX0_init 10 = .ok (.return_, 1) := by decide +kernel
theorem dX0_drawBelow_0 : decode cX0_drawBelow 0 = .ok (.aload_n 0, 1) := by decide +kernel
theorem dX0_drawBelow_1 : decode cX0_drawBelow 1 = .ok (.ldc2_w 13, 3) := by decide +kernel
theorem dX0_drawBelow_4 : decode cX0_drawBelow 4 = .ok (.aload_n 0, 1) := by decide +kernel
theorem dX0_drawBelow_5 : decode cX0_drawBelow 5 = .ok (.getfield 7, 3) := by decide +kernel
theorem dX0_drawBelow_8 : decode cX0_drawBelow 8 = .ok (.lmul, 1) := by decide +kernel
theorem dX0_drawBelow_9 : decode cX0_drawBelow 9 = .ok (.ldc2_w 15, 3) := by decide +kernel
theorem dX0_drawBelow_12 : decode cX0_drawBelow 12 = .ok (.ladd, 1) := by decide +kernel
theorem dX0_drawBelow_13 : decode cX0_drawBelow 13 = .ok (.ldc2_w 17, 3) := by decide +kernel
theorem dX0_drawBelow_16 : decode cX0_drawBelow 16 = .ok (.lrem, 1) := by decide +kernel
theorem dX0_drawBelow_17 : decode cX0_drawBelow 17 = .ok (.putfield 7, 3) := by decide +kernel
theorem dX0_drawBelow_20 : decode cX0_drawBelow 20 = .ok (.iload_n 1, 1) := by decide +kernel
theorem dX0_drawBelow_21 : decode cX0_drawBelow 21 = .ok (.iconst 1, 1) := by decide +kernel
theorem dX0_drawBelow_22 : decode cX0_drawBelow 22 = .ok (.if_icmp .ge 7, 3) := by decide +kernel
theorem dX0_drawBelow_25 : decode cX0_drawBelow 25 = .ok (.iconst 0, 1) := by decide +kernel
theorem dX0_drawBelow_26 : decode cX0_drawBelow 26 = .ok (.goto 15, 3) := by decide +kernel
theorem dX0_drawBelow_29 : decode cX0_drawBelow 29 = .ok (.aload_n 0, 1) := by decide +kernel
theorem dX0_drawBelow_30 : decode cX0_drawBelow 30 = .ok (.getfield 7, 3) := by decide +kernel
theorem dX0_drawBelow_33 : decode cX0_drawBelow 33 = .ok (.ldc2_w 19, 3) := by decide +kernel
theorem dX0_drawBelow_36 : decode cX0_drawBelow 36 = .ok (.ldiv, 1) := by decide +kernel
theorem dX0_drawBelow_37 : decode cX0_drawBelow 37 = .ok (.iload_n 1, 1) := by decide +kernel
theorem dX0_drawBelow_38 : decode cX0_drawBelow 38 = .ok (.i2l, 1) := by decide +kernel
theorem dX0_drawBelow_39 : decode cX0_drawBelow 39 = .ok (.lrem, 1) := by decide +kernel
theorem dX0_drawBelow_40 : decode cX0_drawBelow 40 = .ok (.l2i, 1) := by decide +kernel
theorem dX0_drawBelow_41 : decode cX0_drawBelow 41 = .ok (.ireturn, 1) := by decide +kernel
end
section
set_option maxRecDepth 20000 in
theorem ggX1_init_X2_init : GoodIn wsX1_init wsX2_init := goodIn_r _ [9, 10, 2, 3, 11, 12, 13, 14, 15, 16, 17, 18, 19, 20, 21, 22, 23, 27, 28, 29, 30, 31, 32, 33, 34, 35] (by decide +kernel) (by decide +kernel)
set_option maxRecDepth 20000 in
theorem gX1_init_X2_init_n17 : GoodIn wsX1_init (wsX2_init) := ggX1_init_X2_init
theorem dX1_init_0 : decode cX1_init 0 = .ok (.aload_n 0, 1) := by decide +kernel
theorem dX1_init_1 : decode cX1_init 1 = .ok (.invokespecial 3, 3) := by decide +kernel
theorem dX1_init_4 : decode cX1_init 4 = .ok (.aload_n 0, 1) := by decide +kernel
theorem dX1_init_5 : decode cX1_init 5 = .ok (.iconst 4, 1) := by decide +kernel
theorem dX1_init_6 : decode cX1_init 6 = .ok (.anewarray 9, 3) := by decide +kernel
theorem dX1_init_9 : decode cX1_init 9 = .ok (.putfield 11, 3) := by decide +kernel
theorem dX1_init_12 : decode cX1_init 12 = .ok (.iconst 0, 1) := by decide +kernel
theorem dX1_init_13 : decode cX1_init 13 = .ok (.istore_n 1, 1) := by decide +kernel
theorem dX1_init_14 : decode cX1_init 14 = .ok (.iload_n 1, 1) := by decide +kernel
theorem dX1_init_15 : decode cX1_init 15 = .ok (.iconst 4, 1) := by decide +kernel
theorem dX1_init_16 : decode cX1_init 16 = .ok (.if_icmp .ge 22, 3) := by decide +kernel
theorem dX1_init_19 : decode cX1_init 19 = .ok (.aload_n 0, 1) := by decide +kernel
theorem dX1_init_20 : decode cX1_init 20 = .ok (.getfield 11, 3) := by decide +kernel
theorem dX1_init_23 : decode cX1_init 23 = .ok (.iload_n 1, 1) := by decide +kernel
theorem dX1_init_24 : decode cX1_init 24 = .ok (.new 9, 3) := by decide +kernel
theorem dX1_init_27 : decode cX1_init 27 = .ok (.dup, 1) := by decide +kernel
theorem dX1_init_28 : decode cX1_init 28 = .ok (.invokespecial 17, 3) := by decide +kernel
theorem dX1_init_31 : decode cX1_init 31 = .ok (.aastore, 1) := by decide +kernel
theorem dX1_init_32 : decode cX1_init 32 = .ok (.iinc 1 1, 3) := by decide +kernel
theorem dX1_init_35 : decode cX1_init 35 = .ok (.goto (-21), 3) := by decide +kernel
theorem dX1_init_38 : decode cX1_init 38 = .ok (.return_, 1) := by decide +kernel
set_option maxRecDepth 20000 in
theorem ggX1_keep_X2_copy : GoodIn wsX1_keep wsX2_copy := goodIn_r _ [7, 8, 9, 10, 11, 12, 13, 14, 15, 16, 17, 18, 19, 20, 21, 22, 23, 24, 28, 29, 30, 31, 32, 33, 34, 35, 36] (by decide +kernel) (by decide +kernel)
set_option maxRecDepth 20000 in
theorem gX1_keep_X2_copy : GoodIn wsX1_keep (va_wsS RX1 22 yX2_copy wsX2_copy) := goodIn_app (goodIn_of _ (by decide +kernel)) ggX1_keep_X2_copy
theorem dX1_keep_0 : decode cX1_keep 0 = .ok (.aload_n 0, 1) := by decide +kernel
theorem dX1_keep_1 : decode cX1_keep 1 = .ok (.aload_n 0, 1) := by decide +kernel
theorem dX1_keep_2 : decode cX1_keep 2 = .ok (.getfield 18, 3) := by decide +kernel
theorem dX1_keep_5 : decode cX1_keep 5 = .ok (.iconst 1, 1) := by decide +kernel
theorem dX1_keep_6 : decode cX1_keep 6 = .ok (.iadd, 1) := by decide +kernel
theorem dX1_keep_7 : decode cX1_keep 7 = .ok (.iconst 4, 1) := by decide +kernel
theorem dX1_keep_8 : decode cX1_keep 8 = .ok (.irem, 1) := by decide +kernel
theorem dX1_keep_9 : decode cX1_keep 9 = .ok (.putfield 18, 3) := by decide +kernel
theorem dX1_keep_12 : decode cX1_keep 12 = .ok (.aload_n 1, 1) := by decide +kernel
theorem dX1_keep_13 : decode cX1_keep 13 = .ok (.aload_n 0, 1) := by decide +kernel
theorem dX1_keep_14 : decode cX1_keep 14 = .ok (.getfield 11, 3) := by decide +kernel
theorem dX1_keep_17 : decode cX1_keep 17 = .ok (.aload_n 0, 1) := by decide +kernel
theorem dX1_keep_18 : decode cX1_keep 18 = .ok (.getfield 18, 3) := by decide +kernel
theorem dX1_keep_21 : decode cX1_keep 21 = .ok (.aaload, 1) := by decide +kernel
theorem dX1_keep_22 : decode cX1_keep 22 = .ok (.invokestatic 22, 3) := by decide +kernel
theorem dX1_keep_25 : decode cX1_keep 25 = .ok (.aload_n 0, 1) := by decide +kernel
theorem dX1_keep_26 : decode cX1_keep 26 = .ok (.getfield 26, 3) := by decide +kernel
theorem dX1_keep_29 : decode cX1_keep 29 = .ok (.iconst 4, 1) := by decide +kernel
theorem dX1_keep_30 : decode cX1_keep 30 = .ok (.if_icmp .ge 13, 3) := by decide +kernel
theorem dX1_keep_33 : decode cX1_keep 33 = .ok (.aload_n 0, 1) := by decide +kernel
theorem dX1_keep_34 : decode cX1_keep 34 = .ok (.dup, 1) := by decide +kernel
theorem dX1_keep_35 : decode cX1_keep 35 = .ok (.getfield 26, 3) := by decide +kernel
theorem dX1_keep_38 : decode cX1_keep 38 = .ok (.iconst 1, 1) := by decide +kernel
theorem dX1_keep_39 : decode cX1_keep 39 = .ok (.iadd, 1) := by decide +kernel
theorem dX1_keep_40 : decode cX1_keep 40 = .ok (.putfield 26, 3) := by decide +kernel
theorem dX1_keep_43 : decode cX1_keep 43 = .ok (.return_, 1) := by decide +kernel
set_option maxRecDepth 20000 in
theorem ggX1_giveBack_X2_copy : GoodIn wsX1_giveBack wsX2_copy := goodIn_r _ [7, 8, 9, 10, 11, 12, 13, 14, 15, 16, 17, 18, 19, 20, 21, 22, 23, 24, 28, 29, 30, 31, 32, 33, 34, 35, 36] (by decide +kernel) (by decide +kernel)
set_option maxRecDepth 20000 in
theorem gX1_giveBack_X2_copy : GoodIn wsX1_giveBack (va_wsS RX1 22 yX2_copy wsX2_copy) := goodIn_app (goodIn_of _ (by decide +kernel)) ggX1_giveBack_X2_copy
theorem dX1_giveBack_0 : decode cX1_giveBack 0 = .ok (.aload_n 0, 1) := by decide +kernel
theorem dX1_giveBack_1 : decode cX1_giveBack 1 = .ok (.getfield 26, 3) := by decide +kernel
theorem dX1_giveBack_4 : decode cX1_giveBack 4 = .ok (.ifCond .ne 4, 3) := by decide +kernel
theorem dX1_giveBack_7 : decode cX1_giveBack 7 = .ok (.return_, 1) := by decide +kernel
theorem dX1_giveBack_8 : decode cX1_giveBack 8 = .ok (.aload_n 0, 1) := by decide +kernel
theorem dX1_giveBack_9 : decode cX1_giveBack 9 = .ok (.getfield 11, 3) := by decide +kernel
theorem dX1_giveBack_12 : decode cX1_giveBack 12 = .ok (.aload_n 0, 1) := by decide +kernel
theorem dX1_giveBack_13 : decode cX1_giveBack 13 = .ok (.getfield 18, 3) := by decide +kernel
theorem dX1_giveBack_16 : decode cX1_giveBack 16 = .ok (.aaload, 1) := by decide +kernel
theorem dX1_giveBack_17 : decode cX1_giveBack 17 = .ok (.aload_n 1, 1) := by decide +kernel
theorem dX1_giveBack_18 : decode cX1_giveBack 18 = .ok (.invokestatic 22, 3) := by decide +kernel
theorem dX1_giveBack_21 : decode cX1_giveBack 21 = .ok (.aload_n 0, 1) := by decide +kernel
theorem dX1_giveBack_22 : decode cX1_giveBack 22 = .ok (.aload_n 0, 1) := by decide +kernel
theorem dX1_giveBack_23 : decode cX1_giveBack 23 = .ok (.getfield 18, 3) := by decide +kernel
theorem dX1_giveBack_26 : decode cX1_giveBack 26 = .ok (.iconst 4, 1) := by decide +kernel
theorem dX1_giveBack_27 : decode cX1_giveBack 27 = .ok (.iadd, 1) := by decide +kernel
theorem dX1_giveBack_28 : decode cX1_giveBack 28 = .ok (.iconst 1, 1) := by decide +kernel
theorem dX1_giveBack_29 : decode cX1_giveBack 29 = .ok (.isub, 1) := by decide +kernel
theorem dX1_giveBack_30 : decode cX1_giveBack 30 = .ok (.iconst 4, 1) := by decide +kernel
theorem dX1_giveBack_31 : decode cX1_giveBack 31 = .ok (.irem, 1) := by decide +kernel
theorem dX1_giveBack_32 : decode cX1_giveBack 32 = .ok (.putfield 18, 3) := by decide +kernel
theorem dX1_giveBack_35 : decode cX1_giveBack 35 = .ok (.aload_n 0, 1) := by decide +kernel
theorem dX1_giveBack_36 : decode cX1_giveBack 36 = .ok (.dup, 1) := by decide +kernel
theorem dX1_giveBack_37 : decode cX1_giveBack 37 = .ok (.getfield 26, 3) := by decide +kernel
theorem dX1_giveBack_40 : decode cX1_giveBack 40 = .ok (.iconst 1, 1) := by decide +kernel
theorem dX1_giveBack_41 : decode cX1_giveBack 41 = .ok (.isub, 1) := by decide +kernel
theorem dX1_giveBack_42 : decode cX1_giveBack 42 = .ok (.putfield 26, 3) := by decide +kernel
theorem dX1_giveBack_45 : decode cX1_giveBack 45 = .ok (.return_, 1) := by decide +kernel
end
section
theorem dX3_init_0 : decode cX3_init 0 = .ok (.aload_n 0, 1) := by decide +kernel
theorem dX3_init_1 : decode cX3_init 1 = .ok (.invokespecial 3, 3) := by decide +kernel
theorem dX3_init_4 : decode cX3_init 4 = .ok (.aload_n 0, 1) := by decide +kernel
theorem dX3_init_5 : decode cX3_init 5 = .ok (.bipush 120, 2) := by decide +kernel
theorem dX3_init_7 : decode cX3_init 7 = .ok (.newarray .int, 2) := by decide +kernel
theorem dX3_init_9 : decode cX3_init 9 = .ok (.putfield 9, 3) := by decide +kernel
theorem dX3_init_12 : decode cX3_init 12 = .ok (.return_, 1) := by decide +kernel
theorem dX3_put_0 : decode cX3_put 0 = .ok (.aload_n 0, 1) := by decide +kernel
theorem dX3_put_1 : decode cX3_put 1 = .ok (.getfield 15, 3) := by decide +kernel
theorem dX3_put_4 : decode cX3_put 4 = .ok (.bipush 120, 2) := by decide +kernel
theorem dX3_put_6 : decode cX3_put 6 = .ok (.if_icmp .ge 23, 3) := by decide +kernel
theorem dX3_put_9 : decode cX3_put 9 = .ok (.aload_n 0, 1) := by decide +kernel
theorem dX3_put_10 : decode cX3_put 10 = .ok (.getfield 9, 3) := by decide +kernel
theorem dX3_put_13 : decode cX3_put 13 = .ok (.aload_n 0, 1) := by decide +kernel
theorem dX3_put_14 : decode cX3_put 14 = .ok (.getfield 15, 3) := by decide +kernel
theorem dX3_put_17 : decode cX3_put 17 = .ok (.iload_n 1, 1) := by decide +kernel
theorem dX3_put_18 : decode cX3_put 18 = .ok (.iastore, 1) := by decide +kernel
theorem dX3_put_19 : decode cX3_put 19 = .ok (.aload_n 0, 1) := by decide +kernel
theorem dX3_put_20 : decode cX3_put 20 = .ok (.dup, 1) := by decide +kernel
theorem dX3_put_21 : decode cX3_put 21 = .ok (.getfield 15, 3) := by decide +kernel
theorem dX3_put_24 : decode cX3_put 24 = .ok (.iconst 1, 1) := by decide +kernel
theorem dX3_put_25 : decode cX3_put 25 = .ok (.iadd, 1) := by decide +kernel
theorem dX3_put_26 : decode cX3_put 26 = .ok (.putfield 15, 3) := by decide +kernel
theorem dX3_put_29 : decode cX3_put 29 = .ok (.return_, 1) := by decide +kernel
set_option maxRecDepth 20000 in
theorem ggX3_readInto_X2_takeApart : GoodIn wsX3_readInto wsX2_takeApart := goodIn_r _ [8, 9, 10, 11, 56, 57, 58, 59, 60, 61, 62, 63, 64] (by decide +kernel) (by decide +kernel)
set_option maxRecDepth 20000 in
theorem gX3_readInto_X2_takeApart : GoodIn wsX3_readInto (wsV RX3 25 RX2 yX2_takeApart wsX2_takeApart) := goodIn_app (goodIn_of _ (by decide +kernel)) ggX3_readInto_X2_takeApart
set_option maxRecDepth 20000 in
theorem ggX3_readInto_X3_readItem : GoodIn wsX3_readInto wsX3_readItem := goodIn_r _ [16, 1, 2, 17, 18, 19, 15, 20, 3, 21, 22, 23, 24, 25, 26, 27, 28, 29, 30, 31, 32, 33, 34, 35, 36, 37, 38, 7, 39, 9, 40, 41, 42, 43, 44, 45, 46, 47, 48, 49, 50, 51, 52, 53, 54, 55, 56, 57, 58, 59] (by decide +kernel) (by decide +kernel)
set_option maxRecDepth 20000 in
theorem gX3_readInto_X3_readItem : GoodIn wsX3_readInto (wsV RX3 30 RX3 yX3_readItem wsX3_readItem) := goodIn_app (goodIn_of _ (by decide +kernel)) ggX3_readInto_X3_readItem
theorem dX3_readInto_0 : decode cX3_readInto 0 = .ok (.aload_n 0, 1) := by decide +kernel
theorem dX3_readInto_1 : decode cX3_readInto 1 = .ok (.iconst 0, 1) := by decide +kernel
theorem dX3_readInto_2 : decode cX3_readInto 2 = .ok (.putfield 19, 3) := by decide +kernel
theorem dX3_readInto_5 : decode cX3_readInto 5 = .ok (.aload_n 0, 1) := by decide +kernel
theorem dX3_readInto_6 : decode cX3_readInto 6 = .ok (.iconst (-1), 1) := by decide +kernel
theorem dX3_readInto_7 : decode cX3_readInto 7 = .ok (.putfield 22, 3) := by decide +kernel
theorem dX3_readInto_10 : decode cX3_readInto 10 = .ok (.aload_n 1, 1) := by decide +kernel
theorem dX3_readInto_11 : decode cX3_readInto 11 = .ok (.invokevirtual 25, 3) := by decide +kernel
theorem dX3_readInto_14 : decode cX3_readInto 14 = .ok (.iconst 0, 1) := by decide +kernel
theorem dX3_readInto_15 : decode cX3_readInto 15 = .ok (.istore_n 2, 1) := by decide +kernel
theorem dX3_readInto_16 : decode cX3_readInto 16 = .ok (.iload_n 2, 1) := by decide +kernel
theorem dX3_readInto_17 : decode cX3_readInto 17 = .ok (.bipush 120, 2) := by decide +kernel
theorem dX3_readInto_19 : decode cX3_readInto 19 = .ok (.if_icmp .ge 33, 3) := by decide +kernel
theorem dX3_readInto_22 : decode cX3_readInto 22 = .ok (.aload_n 0, 1) := by decide +kernel
theorem dX3_readInto_23 : decode cX3_readInto 23 = .ok (.getfield 19, 3) := by decide +kernel
theorem dX3_readInto_26 : decode cX3_readInto 26 = .ok (.aload_n 0, 1) := by decide +kernel
theorem dX3_readInto_27 : decode cX3_readInto 27 = .ok (.getfield 15, 3) := by decide +kernel
theorem dX3_readInto_30 : decode cX3_readInto 30 = .ok (.if_icmp .ge 22, 3) := by decide +kernel
theorem dX3_readInto_33 : decode cX3_readInto 33 = .ok (.aload_n 0, 1) := by decide +kernel
theorem dX3_readInto_34 : decode cX3_readInto 34 = .ok (.getfield 22, 3) := by decide +kernel
theorem dX3_readInto_37 : decode cX3_readInto 37 = .ok (.iconst (-1), 1) := by decide +kernel
theorem dX3_readInto_38 : decode cX3_readInto 38 = .ok (.if_icmp .ne 14, 3) := by decide +kernel
theorem dX3_readInto_41 : decode cX3_readInto 41 = .ok (.aload_n 0, 1) := by decide +kernel
theorem dX3_readInto_42 : decode cX3_readInto 42 = .ok (.aload_n 1, 1) := by decide +kernel
theorem dX3_readInto_43 : decode cX3_readInto 43 = .ok (.invokevirtual 30, 3) := by decide +kernel
theorem dX3_readInto_46 : decode cX3_readInto 46 = .ok (.iinc 2 1, 3) := by decide +kernel
theorem dX3_readInto_49 : decode cX3_readInto 49 = .ok (.goto (-33), 3) := by decide +kernel
theorem dX3_readInto_52 : decode cX3_readInto 52 = .ok (.aload_n 0, 1) := by decide +kernel
theorem dX3_readInto_53 : decode cX3_readInto 53 = .ok (.getfield 22, 3) := by decide +kernel
theorem dX3_readInto_56 : decode cX3_readInto 56 = .ok (.ireturn, 1) := by decide +kernel
set_option maxRecDepth 20000 in
theorem ggX3_readItem_X3_byteAt : GoodIn wsX3_readItem wsX3_byteAt := goodIn_r _ [7, 8, 9, 42, 43, 44, 45] (by decide +kernel) (by decide +kernel)
set_option maxRecDepth 20000 in
theorem gX3_readItem_X3_byteAt : GoodIn wsX3_readItem (wsV RX3 34 RX3 yX3_byteAt wsX3_byteAt) := goodIn_app (goodIn_of _ (by decide +kernel)) ggX3_readItem_X3_byteAt
set_option maxRecDepth 20000 in
theorem ggX3_readItem_X3_readMachine : GoodIn wsX3_readItem wsX3_readMachine := goodIn_r _ [13, 2, 14, 15, 16, 6, 17, 1, 3, 4, 5, 7, 8, 9, 18, 19, 20, 21, 22, 23, 24, 25, 26, 27, 28, 29, 30, 31, 32, 33, 42, 43, 44, 45, 46, 47, 48, 49] (by decide +kernel) (by decide +kernel)
set_option maxRecDepth 20000 in
theorem gX3_readItem_X3_readMachine : GoodIn wsX3_readItem (wsV RX3 41 RX3 yX3_readMachine wsX3_readMachine) := goodIn_app (goodIn_of _ (by decide +kernel)) ggX3_readItem_X3_readMachine
set_option maxRecDepth 20000 in
theorem ggX3_readItem_X3_readMarks : GoodIn wsX3_readItem wsX3_readMarks := goodIn_r _ [37, 2, 14, 15, 16, 6, 17, 1, 3, 4, 5, 7, 8, 9, 18, 19, 20, 21, 22, 23, 38, 39, 40, 27, 41, 29, 30, 46, 47, 48, 49, 42, 43, 44, 45] (by decide +kernel) (by decide +kernel)
set_option maxRecDepth 20000 in
theorem gX3_readItem_X3_readMarks : GoodIn wsX3_readItem (wsV RX3 44 RX3 yX3_readMarks wsX3_readMarks) := goodIn_app (goodIn_of _ (by decide +kernel)) ggX3_readItem_X3_readMarks
theorem dX3_readItem_0 : decode cX3_readItem 0 = .ok (.aload_n 0, 1) := by decide +kernel
theorem dX3_readItem_1 : decode cX3_readItem 1 = .ok (.aload_n 0, 1) := by decide +kernel
theorem dX3_readItem_2 : decode cX3_readItem 2 = .ok (.getfield 19, 3) := by decide +kernel
theorem dX3_readItem_5 : decode cX3_readItem 5 = .ok (.invokevirtual 34, 3) := by decide +kernel
theorem dX3_readItem_8 : decode cX3_readItem 8 = .ok (.istore_n 2, 1) := by decide +kernel
theorem dX3_readItem_9 : decode cX3_readItem 9 = .ok (.iload_n 2, 1) := by decide +kernel
theorem dX3_readItem_10 : decode cX3_readItem 10 = .ok (.bipush 109, 2) := by decide +kernel
theorem dX3_readItem_12 : decode cX3_readItem 12 = .ok (.if_icmp .ne 30, 3) := by decide +kernel
theorem dX3_readItem_15 : decode cX3_readItem 15 = .ok (.aload_n 1, 1) := by decide +kernel
theorem dX3_readItem_16 : decode cX3_readItem 16 = .ok (.getfield 38, 3) := by decide +kernel
theorem dX3_readItem_19 : decode cX3_readItem 19 = .ok (.bipush 8, 2) := by decide +kernel
theorem dX3_readItem_21 : decode cX3_readItem 21 = .ok (.if_icmp .ge 21, 3) := by decide +kernel
theorem dX3_readItem_24 : decode cX3_readItem 24 = .ok (.aload_n 0, 1) := by decide +kernel
theorem dX3_readItem_25 : decode cX3_readItem 25 = .ok (.dup, 1) := by decide +kernel
theorem dX3_readItem_26 : decode cX3_readItem 26 = .ok (.getfield 19, 3) := by decide +kernel
theorem dX3_readItem_29 : decode cX3_readItem 29 = .ok (.iconst 1, 1) := by decide +kernel
theorem dX3_readItem_30 : decode cX3_readItem 30 = .ok (.iadd, 1) := by decide +kernel
theorem dX3_readItem_31 : decode cX3_readItem 31 = .ok (.putfield 19, 3) := by decide +kernel
theorem dX3_readItem_34 : decode cX3_readItem 34 = .ok (.aload_n 0, 1) := by decide +kernel
theorem dX3_readItem_35 : decode cX3_readItem 35 = .ok (.aload_n 1, 1) := by decide +kernel
theorem dX3_readItem_36 : decode cX3_readItem 36 = .ok (.invokevirtual 41, 3) := by decide +kernel
theorem dX3_readItem_39 : decode cX3_readItem 39 = .ok (.goto 35, 3) := by decide +kernel
theorem dX3_readItem_42 : decode cX3_readItem 42 = .ok (.iload_n 2, 1) := by decide +kernel
theorem dX3_readItem_43 : decode cX3_readItem 43 = .ok (.bipush 104, 2) := by decide +kernel
theorem dX3_readItem_45 : decode cX3_readItem 45 = .ok (.if_icmp .ne 21, 3) := by decide +kernel
theorem dX3_readItem_48 : decode cX3_readItem 48 = .ok (.aload_n 0, 1) := by decide +kernel
theorem dX3_readItem_49 : decode cX3_readItem 49 = .ok (.dup, 1) := by decide +kernel
theorem dX3_readItem_50 : decode cX3_readItem 50 = .ok (.getfield 19, 3) := by decide +kernel
theorem dX3_readItem_53 : decode cX3_readItem 53 = .ok (.iconst 1, 1) := by decide +kernel
theorem dX3_readItem_54 : decode cX3_readItem 54 = .ok (.iadd, 1) := by decide +kernel
theorem dX3_readItem_55 : decode cX3_readItem 55 = .ok (.putfield 19, 3) := by decide +kernel
theorem dX3_readItem_58 : decode cX3_readItem 58 = .ok (.aload_n 0, 1) := by decide +kernel
theorem dX3_readItem_59 : decode cX3_readItem 59 = .ok (.aload_n 1, 1) := by decide +kernel
theorem dX3_readItem_60 : decode cX3_readItem 60 = .ok (.invokevirtual 44, 3) := by decide +kernel
theorem dX3_readItem_63 : decode cX3_readItem 63 = .ok (.goto 11, 3) := by decide +kernel
theorem dX3_readItem_66 : decode cX3_readItem 66 = .ok (.aload_n 0, 1) := by decide +kernel
theorem dX3_readItem_67 : decode cX3_readItem 67 = .ok (.aload_n 0, 1) := by decide +kernel
theorem dX3_readItem_68 : decode cX3_readItem 68 = .ok (.getfield 19, 3) := by decide +kernel
theorem dX3_readItem_71 : decode cX3_readItem 71 = .ok (.putfield 22, 3) := by decide +kernel
theorem dX3_readItem_74 : decode cX3_readItem 74 = .ok (.return_, 1) := by decide +kernel
set_option maxRecDepth 20000 in
theorem ggX3_readMachine_X3_readNumber : GoodIn wsX3_readMachine wsX3_readNumber := goodIn_r _ [6, 1, 7, 8, 9, 10, 5, 11, 12, 13, 14, 15, 16, 17, 18, 19, 30, 31, 32, 33] (by decide +kernel) (by decide +kernel)
set_option maxRecDepth 20000 in
theorem gX3_readMachine_X3_readNumber : GoodIn wsX3_readMachine (wsV RX3 47 RX3 yX3_readNumber wsX3_readNumber) := goodIn_app (goodIn_of _ (by decide +kernel)) ggX3_readMachine_X3_readNumber
set_option maxRecDepth 20000 in
theorem ggX3_readMachine_X2_join : GoodIn wsX3_readMachine wsX2_join := goodIn_r _ [24, 25, 26, 27, 28, 23, 29, 34, 35, 36, 37] (by decide +kernel) (by decide +kernel)
set_option maxRecDepth 20000 in
theorem gX3_readMachine_X2_join : GoodIn wsX3_readMachine (wsV RX3 51 RX2 yX2_join wsX2_join) := goodIn_app (goodIn_of _ (by decide +kernel)) ggX3_readMachine_X2_join
theorem dX3_readMachine_0 : decode cX3_readMachine 0 = .ok (.aload_n 0, 1) := by decide +kernel
theorem dX3_readMachine_1 : decode cX3_readMachine 1 = .ok (.iconst 1, 1) := by decide +kernel
theorem dX3_readMachine_2 : decode cX3_readMachine 2 = .ok (.bipush 20, 2) := by decide +kernel
theorem dX3_readMachine_4 : decode cX3_readMachine 4 = .ok (.bipush 44, 2) := by decide +kernel
theorem dX3_readMachine_6 : decode cX3_readMachine 6 = .ok (.invokevirtual 47, 3) := by decide +kernel
theorem dX3_readMachine_9 : decode cX3_readMachine 9 = .ok (.istore_n 2, 1) := by decide +kernel
theorem dX3_readMachine_10 : decode cX3_readMachine 10 = .ok (.aload_n 0, 1) := by decide +kernel
theorem dX3_readMachine_11 : decode cX3_readMachine 11 = .ok (.iconst 1, 1) := by decide +kernel
theorem dX3_readMachine_12 : decode cX3_readMachine 12 = .ok (.iload_n 2, 1) := by decide +kernel
theorem dX3_readMachine_13 : decode cX3_readMachine 13 = .ok (.bipush 44, 2) := by decide +kernel
theorem dX3_readMachine_15 : decode cX3_readMachine 15 = .ok (.invokevirtual 47, 3) := by decide +kernel
theorem dX3_readMachine_18 : decode cX3_readMachine 18 = .ok (.istore_n 3, 1) := by decide +kernel
theorem dX3_readMachine_19 : decode cX3_readMachine 19 = .ok (.aload_n 0, 1) := by decide +kernel
theorem dX3_readMachine_20 : decode cX3_readMachine 20 = .ok (.iconst 0, 1) := by decide +kernel
theorem dX3_readMachine_21 : decode cX3_readMachine 21 = .ok (.bipush 40, 2) := by decide +kernel
theorem dX3_readMachine_23 : decode cX3_readMachine 23 = .ok (.bipush 59, 2) := by decide +kernel
theorem dX3_readMachine_25 : decode cX3_readMachine 25 = .ok (.invokevirtual 47, 3) := by decide +kernel
theorem dX3_readMachine_28 : decode cX3_readMachine 28 = .ok (.istore 4, 2) := by decide +kernel
theorem dX3_readMachine_30 : decode cX3_readMachine 30 = .ok (.aload_n 0, 1) := by decide +kernel
theorem dX3_readMachine_31 : decode cX3_readMachine 31 = .ok (.getfield 22, 3) := by decide +kernel
theorem dX3_readMachine_34 : decode cX3_readMachine 34 = .ok (.iconst (-1), 1) := by decide +kernel
theorem dX3_readMachine_35 : decode cX3_readMachine 35 = .ok (.if_icmp .ne 12, 3) := by decide +kernel
theorem dX3_readMachine_38 : decode cX3_readMachine 38 = .ok (.aload_n 1, 1) := by decide +kernel
theorem dX3_readMachine_39 : decode cX3_readMachine 39 = .ok (.iload_n 2, 1) := by decide +kernel
theorem dX3_readMachine_40 : decode cX3_readMachine 40 = .ok (.iload_n 3, 1) := by decide +kernel
theorem dX3_readMachine_41 : decode cX3_readMachine 41 = .ok (.iload 4, 2) := by decide +kernel
theorem dX3_readMachine_43 : decode cX3_readMachine 43 = .ok (.invokevirtual 51, 3) := by decide +kernel
theorem dX3_readMachine_46 : decode cX3_readMachine 46 = .ok (.pop, 1) := by decide +kernel
theorem dX3_readMachine_47 : decode cX3_readMachine 47 = .ok (.return_, 1) := by decide +kernel
set_option maxRecDepth 20000 in
theorem ggX3_readMarks_X3_readNumber : GoodIn wsX3_readMarks wsX3_readNumber := goodIn_r _ [6, 1, 7, 8, 9, 10, 5, 11, 12, 13, 14, 15, 16, 17, 18, 19, 31, 32, 33, 34] (by decide +kernel) (by decide +kernel)
set_option maxRecDepth 20000 in
theorem gX3_readMarks_X3_readNumber : GoodIn wsX3_readMarks (wsV RX3 47 RX3 yX3_readNumber wsX3_readNumber) := goodIn_app (goodIn_of _ (by decide +kernel)) ggX3_readMarks_X3_readNumber
set_option maxRecDepth 20000 in
theorem ggX3_readMarks_X2_mark : GoodIn wsX3_readMarks wsX2_mark := goodIn_r _ [24, 25, 26, 27, 28, 29, 30] (by decide +kernel) (by decide +kernel)
set_option maxRecDepth 20000 in
theorem gX3_readMarks_X2_mark : GoodIn wsX3_readMarks (wsV RX3 55 RX2 yX2_mark wsX2_mark) := goodIn_app (goodIn_of _ (by decide +kernel)) ggX3_readMarks_X2_mark
theorem dX3_readMarks_0 : decode cX3_readMarks 0 = .ok (.aload_n 0, 1) := by decide +kernel
theorem dX3_readMarks_1 : decode cX3_readMarks 1 = .ok (.iconst 0, 1) := by decide +kernel
theorem dX3_readMarks_2 : decode cX3_readMarks 2 = .ok (.aload_n 1, 1) := by decide +kernel
theorem dX3_readMarks_3 : decode cX3_readMarks 3 = .ok (.getfield 38, 3) := by decide +kernel
theorem dX3_readMarks_6 : decode cX3_readMarks 6 = .ok (.iconst 1, 1) := by decide +kernel
theorem dX3_readMarks_7 : decode cX3_readMarks 7 = .ok (.isub, 1) := by decide +kernel
theorem dX3_readMarks_8 : decode cX3_readMarks 8 = .ok (.bipush 44, 2) := by decide +kernel
theorem dX3_readMarks_10 : decode cX3_readMarks 10 = .ok (.invokevirtual 47, 3) := by decide +kernel
theorem dX3_readMarks_13 : decode cX3_readMarks 13 = .ok (.istore_n 2, 1) := by decide +kernel
theorem dX3_readMarks_14 : decode cX3_readMarks 14 = .ok (.aload_n 0, 1) := by decide +kernel
theorem dX3_readMarks_15 : decode cX3_readMarks 15 = .ok (.iconst 0, 1) := by decide +kernel
theorem dX3_readMarks_16 : decode cX3_readMarks 16 = .ok (.bipush 40, 2) := by decide +kernel
theorem dX3_readMarks_18 : decode cX3_readMarks 18 = .ok (.bipush 44, 2) := by decide +kernel
theorem dX3_readMarks_20 : decode cX3_readMarks 20 = .ok (.invokevirtual 47, 3) := by decide +kernel
theorem dX3_readMarks_23 : decode cX3_readMarks 23 = .ok (.istore_n 3, 1) := by decide +kernel
theorem dX3_readMarks_24 : decode cX3_readMarks 24 = .ok (.aload_n 0, 1) := by decide +kernel
theorem dX3_readMarks_25 : decode cX3_readMarks 25 = .ok (.iload_n 3, 1) := by decide +kernel
theorem dX3_readMarks_26 : decode cX3_readMarks 26 = .ok (.bipush 40, 2) := by decide +kernel
theorem dX3_readMarks_28 : decode cX3_readMarks 28 = .ok (.bipush 59, 2) := by decide +kernel
theorem dX3_readMarks_30 : decode cX3_readMarks 30 = .ok (.invokevirtual 47, 3) := by decide +kernel
theorem dX3_readMarks_33 : decode cX3_readMarks 33 = .ok (.istore 4, 2) := by decide +kernel
theorem dX3_readMarks_35 : decode cX3_readMarks 35 = .ok (.aload_n 0, 1) := by decide +kernel
theorem dX3_readMarks_36 : decode cX3_readMarks 36 = .ok (.getfield 22, 3) := by decide +kernel
theorem dX3_readMarks_39 : decode cX3_readMarks 39 = .ok (.iconst (-1), 1) := by decide +kernel
theorem dX3_readMarks_40 : decode cX3_readMarks 40 = .ok (.if_icmp .ne 11, 3) := by decide +kernel
theorem dX3_readMarks_43 : decode cX3_readMarks 43 = .ok (.aload_n 1, 1) := by decide +kernel
theorem dX3_readMarks_44 : decode cX3_readMarks 44 = .ok (.iload_n 2, 1) := by decide +kernel
theorem dX3_readMarks_45 : decode cX3_readMarks 45 = .ok (.iload_n 3, 1) := by decide +kernel
theorem dX3_readMarks_46 : decode cX3_readMarks 46 = .ok (.iload 4, 2) := by decide +kernel
theorem dX3_readMarks_48 : decode cX3_readMarks 48 = .ok (.invokevirtual 55, 3) := by decide +kernel
theorem dX3_readMarks_51 : decode cX3_readMarks 51 = .ok (.return_, 1) := by decide +kernel
set_option maxRecDepth 20000 in
theorem ggX3_readNumber_X3_byteAt : GoodIn wsX3_readNumber wsX3_byteAt := goodIn_r _ [7, 8, 9, 16, 17, 18, 19] (by decide +kernel) (by decide +kernel)
set_option maxRecDepth 20000 in
theorem gX3_readNumber_X3_byteAt : GoodIn wsX3_readNumber (wsV RX3 34 RX3 yX3_byteAt wsX3_byteAt) := goodIn_app (goodIn_of _ (by decide +kernel)) ggX3_readNumber_X3_byteAt
set_option maxRecDepth 20000 in
theorem ggX3_readNumber_X3_isDigit : GoodIn wsX3_readNumber wsX3_isDigit := goodIn_r _ [12, 13, 14, 15] (by decide +kernel) (by decide +kernel)
set_option maxRecDepth 20000 in
theorem gX3_readNumber_X3_isDigit : GoodIn wsX3_readNumber (va_wsS RX3 59 yX3_isDigit wsX3_isDigit) := goodIn_app (goodIn_of _ (by decide +kernel)) ggX3_readNumber_X3_isDigit
set_option maxRecDepth 20000 in
theorem ggX3_readNumber_X5_isIn : GoodIn wsX3_readNumber wsX5_isIn := goodIn_r _ [15] (by decide +kernel) (by decide +kernel)
set_option maxRecDepth 20000 in
theorem gX3_readNumber_X5_isIn_n63 : GoodIn wsX3_readNumber (wsX5_isIn) := ggX3_readNumber_X5_isIn
theorem dX3_readNumber_0 : decode cX3_readNumber 0 = .ok (.aload_n 0, 1) := by decide +kernel
theorem dX3_readNumber_1 : decode cX3_readNumber 1 = .ok (.getfield 22, 3) := by decide +kernel
theorem dX3_readNumber_4 : decode cX3_readNumber 4 = .ok (.iconst (-1), 1) := by decide +kernel
theorem dX3_readNumber_5 : decode cX3_readNumber 5 = .ok (.if_icmp .eq 5, 3) := by decide +kernel
theorem dX3_readNumber_8 : decode cX3_readNumber 8 = .ok (.iconst (-1), 1) := by decide +kernel
theorem dX3_readNumber_9 : decode cX3_readNumber 9 = .ok (.ireturn, 1) := by decide +kernel
theorem dX3_readNumber_10 : decode cX3_readNumber 10 = .ok (.aload_n 0, 1) := by decide +kernel
theorem dX3_readNumber_11 : decode cX3_readNumber 11 = .ok (.getfield 19, 3) := by decide +kernel
theorem dX3_readNumber_14 : decode cX3_readNumber 14 = .ok (.istore 4, 2) := by decide +kernel
theorem dX3_readNumber_16 : decode cX3_readNumber 16 = .ok (.iconst 0, 1) := by decide +kernel
theorem dX3_readNumber_17 : decode cX3_readNumber 17 = .ok (.istore 5, 2) := by decide +kernel
theorem dX3_readNumber_19 : decode cX3_readNumber 19 = .ok (.iconst 0, 1) := by decide +kernel
theorem dX3_readNumber_20 : decode cX3_readNumber 20 = .ok (.istore 6, 2) := by decide +kernel
theorem dX3_readNumber_22 : decode cX3_readNumber 22 = .ok (.iload 6, 2) := by decide +kernel
theorem dX3_readNumber_24 : decode cX3_readNumber 24 = .ok (.iconst 2, 1) := by decide +kernel
theorem dX3_readNumber_25 : decode cX3_readNumber 25 = .ok (.if_icmp .ge 52, 3) := by decide +kernel
theorem dX3_readNumber_28 : decode cX3_readNumber 28 = .ok (.aload_n 0, 1) := by decide +kernel
theorem dX3_readNumber_29 : decode cX3_readNumber 29 = .ok (.aload_n 0, 1) := by decide +kernel
theorem dX3_readNumber_30 : decode cX3_readNumber 30 = .ok (.getfield 19, 3) := by decide +kernel
theorem dX3_readNumber_33 : decode cX3_readNumber 33 = .ok (.invokevirtual 34, 3) := by decide +kernel
theorem dX3_readNumber_36 : decode cX3_readNumber 36 = .ok (.invokestatic 59, 3) := by decide +kernel
theorem dX3_readNumber_39 : decode cX3_readNumber 39 = .ok (.ifCond .eq 38, 3) := by decide +kernel
theorem dX3_readNumber_42 : decode cX3_readNumber 42 = .ok (.bipush 10, 2) := by decide +kernel
theorem dX3_readNumber_44 : decode cX3_readNumber 44 = .ok (.iload 5, 2) := by decide +kernel
theorem dX3_readNumber_46 : decode cX3_readNumber 46 = .ok (.imul, 1) := by decide +kernel
theorem dX3_readNumber_47 : decode cX3_readNumber 47 = .ok (.aload_n 0, 1) := by decide +kernel
theorem dX3_readNumber_48 : decode cX3_readNumber 48 = .ok (.aload_n 0, 1) := by decide +kernel
theorem dX3_readNumber_49 : decode cX3_readNumber 49 = .ok (.getfield 19, 3) := by decide +kernel
theorem dX3_readNumber_52 : decode cX3_readNumber 52 = .ok (.invokevirtual 34, 3) := by decide +kernel
theorem dX3_readNumber_55 : decode cX3_readNumber 55 = .ok (.iadd, 1) := by decide +kernel
theorem dX3_readNumber_56 : decode cX3_readNumber 56 = .ok (.bipush 48, 2) := by decide +kernel
theorem dX3_readNumber_58 : decode cX3_readNumber 58 = .ok (.isub, 1) := by decide +kernel
theorem dX3_readNumber_59 : decode cX3_readNumber 59 = .ok (.istore 5, 2) := by decide +kernel
theorem dX3_readNumber_61 : decode cX3_readNumber 61 = .ok (.aload_n 0, 1) := by decide +kernel
theorem dX3_readNumber_62 : decode cX3_readNumber 62 = .ok (.dup, 1) := by decide +kernel
theorem dX3_readNumber_63 : decode cX3_readNumber 63 = .ok (.getfield 19, 3) := by decide +kernel
theorem dX3_readNumber_66 : decode cX3_readNumber 66 = .ok (.iconst 1, 1) := by decide +kernel
theorem dX3_readNumber_67 : decode cX3_readNumber 67 = .ok (.iadd, 1) := by decide +kernel
theorem dX3_readNumber_68 : decode cX3_readNumber 68 = .ok (.putfield 19, 3) := by decide +kernel
theorem dX3_readNumber_71 : decode cX3_readNumber 71 = .ok (.iinc 6 1, 3) := by decide +kernel
theorem dX3_readNumber_74 : decode cX3_readNumber 74 = .ok (.goto (-52), 3) := by decide +kernel
theorem dX3_readNumber_77 : decode cX3_readNumber 77 = .ok (.aload_n 0, 1) := by decide +kernel
theorem dX3_readNumber_78 : decode cX3_readNumber 78 = .ok (.aload_n 0, 1) := by decide +kernel
theorem dX3_readNumber_79 : decode cX3_readNumber 79 = .ok (.getfield 19, 3) := by decide +kernel
theorem dX3_readNumber_82 : decode cX3_readNumber 82 = .ok (.invokevirtual 34, 3) := by decide +kernel
theorem dX3_readNumber_85 : decode cX3_readNumber 85 = .ok (.istore 6, 2) := by decide +kernel
theorem dX3_readNumber_87 : decode cX3_readNumber 87 = .ok (.aload_n 0, 1) := by decide +kernel
theorem dX3_readNumber_88 : decode cX3_readNumber 88 = .ok (.getfield 19, 3) := by decide +kernel
theorem dX3_readNumber_91 : decode cX3_readNumber 91 = .ok (.iload 4, 2) := by decide +kernel
theorem dX3_readNumber_93 : decode cX3_readNumber 93 = .ok (.if_icmp .eq 11, 3) := by decide +kernel
theorem dX3_readNumber_96 : decode cX3_readNumber 96 = .ok (.iload 6, 2) := by decide +kernel
theorem dX3_readNumber_98 : decode cX3_readNumber 98 = .ok (.invokestatic 59, 3) := by decide +kernel
theorem dX3_readNumber_101 : decode cX3_readNumber 101 = .ok (.ifCond .eq 14, 3) := by decide +kernel
theorem dX3_readNumber_104 : decode cX3_readNumber 104 = .ok (.aload_n 0, 1) := by decide +kernel
theorem dX3_readNumber_105 : decode cX3_readNumber 105 = .ok (.aload_n 0, 1) := by decide +kernel
theorem dX3_readNumber_106 : decode cX3_readNumber 106 = .ok (.getfield 19, 3) := by decide +kernel
theorem dX3_readNumber_109 : decode cX3_readNumber 109 = .ok (.putfield 22, 3) := by decide +kernel
theorem dX3_readNumber_112 : decode cX3_readNumber 112 = .ok (.goto 49, 3) := by decide +kernel
theorem dX3_readNumber_115 : decode cX3_readNumber 115 = .ok (.iload 5, 2) := by decide +kernel
theorem dX3_readNumber_117 : decode cX3_readNumber 117 = .ok (.iload_n 1, 1) := by decide +kernel
theorem dX3_readNumber_118 : decode cX3_readNumber 118 = .ok (.iload_n 2, 1) := by decide +kernel
theorem dX3_readNumber_119 : decode cX3_readNumber 119 = .ok (.invokestatic 63, 3) := by decide +kernel
theorem dX3_readNumber_122 : decode cX3_readNumber 122 = .ok (.ifCond .ne 12, 3) := by decide +kernel
theorem dX3_readNumber_125 : decode cX3_readNumber 125 = .ok (.aload_n 0, 1) := by decide +kernel
theorem dX3_readNumber_126 : decode cX3_readNumber 126 = .ok (.iload 4, 2) := by decide +kernel
theorem dX3_readNumber_128 : decode cX3_readNumber 128 = .ok (.putfield 22, 3) := by decide +kernel
theorem dX3_readNumber_131 : decode cX3_readNumber 131 = .ok (.goto 30, 3) := by decide +kernel
theorem dX3_readNumber_134 : decode cX3_readNumber 134 = .ok (.iload 6, 2) := by decide +kernel
theorem dX3_readNumber_136 : decode cX3_readNumber 136 = .ok (.iload_n 3, 1) := by decide +kernel
theorem dX3_readNumber_137 : decode cX3_readNumber 137 = .ok (.if_icmp .eq 14, 3) := by decide +kernel
theorem dX3_readNumber_140 : decode cX3_readNumber 140 = .ok (.aload_n 0, 1) := by decide +kernel
theorem dX3_readNumber_141 : decode cX3_readNumber 141 = .ok (.aload_n 0, 1) := by decide +kernel
theorem dX3_readNumber_142 : decode cX3_readNumber 142 = .ok (.getfield 19, 3) := by decide +kernel
theorem dX3_readNumber_145 : decode cX3_readNumber 145 = .ok (.putfield 22, 3) := by decide +kernel
theorem dX3_readNumber_148 : decode cX3_readNumber 148 = .ok (.goto 13, 3) := by decide +kernel
theorem dX3_readNumber_151 : decode cX3_readNumber 151 = .ok (.aload_n 0, 1) := by decide +kernel
theorem dX3_readNumber_152 : decode cX3_readNumber 152 = .ok (.dup, 1) := by decide +kernel
theorem dX3_readNumber_153 : decode cX3_readNumber 153 = .ok (.getfield 19, 3) := by decide +kernel
theorem dX3_readNumber_156 : decode cX3_readNumber 156 = .ok (.iconst 1, 1) := by decide +kernel
theorem dX3_readNumber_157 : decode cX3_readNumber 157 = .ok (.iadd, 1) := by decide +kernel
theorem dX3_readNumber_158 : decode cX3_readNumber 158 = .ok (.putfield 19, 3) := by decide +kernel
theorem dX3_readNumber_161 : decode cX3_readNumber 161 = .ok (.iload 5, 2) := by decide +kernel
theorem dX3_readNumber_163 : decode cX3_readNumber 163 = .ok (.ireturn, 1) := by decide +kernel
theorem dX3_byteAt_0 : decode cX3_byteAt 0 = .ok (.iload_n 1, 1) := by decide +kernel
theorem dX3_byteAt_1 : decode cX3_byteAt 1 = .ok (.ifCond .lt 11, 3) := by decide +kernel
theorem dX3_byteAt_4 : decode cX3_byteAt 4 = .ok (.iload_n 1, 1) := by decide +kernel
theorem dX3_byteAt_5 : decode cX3_byteAt 5 = .ok (.aload_n 0, 1) := by decide +kernel
theorem dX3_byteAt_6 : decode cX3_byteAt 6 = .ok (.getfield 15, 3) := by decide +kernel
theorem dX3_byteAt_9 : decode cX3_byteAt 9 = .ok (.if_icmp .lt 7, 3) := by decide +kernel
theorem dX3_byteAt_12 : decode cX3_byteAt 12 = .ok (.iconst (-1), 1) := by decide +kernel
theorem dX3_byteAt_13 : decode cX3_byteAt 13 = .ok (.goto 9, 3) := by decide +kernel
theorem dX3_byteAt_16 : decode cX3_byteAt 16 = .ok (.aload_n 0, 1) := by decide +kernel
theorem dX3_byteAt_17 : decode cX3_byteAt 17 = .ok (.getfield 9, 3) := by decide +kernel
theorem dX3_byteAt_20 : decode cX3_byteAt 20 = .ok (.iload_n 1, 1) := by decide +kernel
theorem dX3_byteAt_21 : decode cX3_byteAt 21 = .ok (.iaload, 1) := by decide +kernel
theorem dX3_byteAt_22 : decode cX3_byteAt 22 = .ok (.ireturn, 1) := by decide +kernel
set_option maxRecDepth 20000 in
theorem ggX3_isDigit_X5_isIn : GoodIn wsX3_isDigit wsX5_isIn := goodIn_r _ [3] (by decide +kernel) (by decide +kernel)
set_option maxRecDepth 20000 in
theorem gX3_isDigit_X5_isIn_n63 : GoodIn wsX3_isDigit (wsX5_isIn) := ggX3_isDigit_X5_isIn
theorem dX3_isDigit_0 : decode cX3_isDigit 0 = .ok (.iload_n 0, 1) := by decide +kernel
theorem dX3_isDigit_1 : decode cX3_isDigit 1 = .ok (.bipush 48, 2) := by decide +kernel
theorem dX3_isDigit_3 : decode cX3_isDigit 3 = .ok (.bipush 57, 2) := by decide +kernel
theorem dX3_isDigit_5 : decode cX3_isDigit 5 = .ok (.invokestatic 63, 3) := by decide +kernel
theorem dX3_isDigit_8 : decode cX3_isDigit 8 = .ok (.ireturn, 1) := by decide +kernel
end
section
theorem if_n {α : Type} {c : Prop} [Decidable c] {a b r : α} (hc : c) (h : (if ¬ c then a else b) = r) : b = r := by
  rw [if_neg (fun q => q hc)] at h
  exact h
/-! functions of X4 -/
def f_X4_copy (i : Nat) (j : Nat) (Ls : Nat → SL) : Option ((Nat → SL)) :=
  lt_ ((Ls i) 10 3) (fun v1 => gd (cpo v1 40 40) ( lt_ (va_up Ls j (va_up (Ls j) 11 (va_cpy (Ls i 11) (Ls j 11) 0 0 v1.toNatClampNeg))) (fun Ls3 => gd (cpo v1 40 40) ( lt_ (va_up Ls3 j (va_up (Ls3 j) 12 (va_cpy (Ls3 i 12) (Ls3 j 12) 0 0 v1.toNatClampNeg))) (fun Ls5 => gd (cpo v1 40 40) ( lt_ (va_up Ls5 j (va_up (Ls5 j) 13 (va_cpy (Ls5 i 13) (Ls5 j 13) 0 0 v1.toNatClampNeg))) (fun Ls7 => lt_ (va_up Ls7 j (up2 (Ls7 j) 10 3 v1)) (fun Ls8 => some Ls8))))))))
def f_X4_plan (L : SL) (x1 : Int32) (x2 : Int32) (x3 : Int32) : Option (SL) :=
  lt_ (L 10 3) (fun v1 => (if 40 ≤ v1 then  some L else lt_ (L 10 3) (fun v3 => gd (chk v3 40) ( lt_ (up2 L 11 v3.toNatClampNeg x1) (fun L5 => lt_ (L5 10 3) (fun v6 => gd (chk v6 40) ( lt_ (up2 L5 12 v6.toNatClampNeg x2) (fun L8 => lt_ (L8 10 3) (fun v9 => gd (chk v9 40) ( lt_ (up2 L8 13 v9.toNatClampNeg x3) (fun L11 => lt_ (L11 10 3) (fun v12 => lt_ ((v12 + 1 : Int32)) (fun v13 => lt_ (up2 L11 10 3 v13) (fun L14 => some L14))))))))))))))
def f_X4_dropAfter_b49 (K12 : SL → Int32 → Int32 → Int32 → Option (Int32 × SL)) (L : SL) (x1 : Int32) (x2 : Int32) (x3 : Int32) : Option (Int32 × SL) :=
  lt_ (x3 + 1) (fun z1 => K12 L x1 x2 z1)
def f_X4_dropAfter_b12 (K12 : SL → Int32 → Int32 → Int32 → Option (Int32 × SL)) (L : SL) (x1 : Int32) (x2 : Int32) (x3 : Int32) : Option (Int32 × SL) :=
   (if x2 ≤ x3 then lt_ (L 10 3) (fun v2 => lt_ ((x2 - v2 : Int32)) (fun v3 => some (v3, L))) else gd (chk x3 40) ( lt_ (L 12 x3.toNatClampNeg) (fun v5 => (if x1 < v5 then  f_X4_dropAfter_b49 K12 L x1 x2 x3 else lt_ (L 11 x3.toNatClampNeg) (fun v7 => lt_ (L 12 x3.toNatClampNeg) (fun v8 => lt_ (L 13 x3.toNatClampNeg) (fun v9 => bd (f_X4_plan L v7 v8 v9) (fun L10 => f_X4_dropAfter_b49 K12 L10 x1 x2 x3))))))))
def f_X4_dropAfter_h12 : Nat → SL → Int32 → Int32 → Int32 → Option (Int32 × SL)
  | 0, _, _, _, _ => none
  | n + 1, L, x1, x2, x3 => f_X4_dropAfter_b12  (f_X4_dropAfter_h12  n) L x1 x2 x3
def f_X4_dropAfter (L : SL) (x1 : Int32) : Option (Int32 × SL) :=
  lt_ (L 10 3) (fun v1 => lt_ (up2 L 10 3 0) (fun L2 => f_X4_dropAfter_h12 fuel L2 x1 v1 0))
def f_X4_value (L : SL) (x1 : Int32) (x2 : Int32) : Option (Int32) :=
   (if ¬ x2 = 0 then  (if ¬ x2 = 1 then gd (chk x1 40) ( lt_ (L 13 x1.toNatClampNeg) (fun v4 => some v4)) else gd (chk x1 40) ( lt_ (L 12 x1.toNatClampNeg) (fun v6 => some v6))) else gd (chk x1 40) ( lt_ (L 11 x1.toNatClampNeg) (fun v8 => some v8)))
def f_X4_lookAt_b83 (K10 : SL → Int32 → Int32 → Int32 → Option (Int32 × SL)) (L : SL) (x1 : Int32) (x2 : Int32) (x3 : Int32) : Option (Int32 × SL) :=
  lt_ (x3 + 1) (fun z1 => K10 L x1 x2 z1)
def f_X4_lookAt_b10 (K10 : SL → Int32 → Int32 → Int32 → Option (Int32 × SL)) (L : SL) (x1 : Int32) (x2 : Int32) (x3 : Int32) : Option (Int32 × SL) :=
  lt_ (L 10 3) (fun v1 => (if v1 ≤ x3 then  some (x2, L) else gd (chk x3 40) ( lt_ (L 12 x3.toNatClampNeg) (fun v4 => lt_ (L 13 x3.toNatClampNeg) (fun v5 => lt_ ((v4 + v5 : Int32)) (fun v6 => (if v4 ≤ x1 then  (if v6 ≤ x1 then  f_X4_lookAt_b83 K10 L x1 x2 x3 else lt_ (L 10 4) (fun v9 => lt_ (L 11 x3.toNatClampNeg) (fun v10 => lt_ ((1 <<< (v10 &&& 31) : Int32)) (fun v11 => lt_ ((v9 ||| v11 : Int32)) (fun v12 => lt_ (up2 L 10 4 v12) (fun L13 => lt_ ((if v6 < x2 then v6 else x2 : Int32)) (fun v14 => f_X4_lookAt_b83 K10 L13 x1 v14 x3))))))) else lt_ ((if v4 < x2 then v4 else x2 : Int32)) (fun v15 => f_X4_lookAt_b83 K10 L x1 v15 x3))))))))
def f_X4_lookAt_h10 : Nat → SL → Int32 → Int32 → Int32 → Option (Int32 × SL)
  | 0, _, _, _, _ => none
  | n + 1, L, x1, x2, x3 => f_X4_lookAt_b10  (f_X4_lookAt_h10  n) L x1 x2 x3
def f_X4_lookAt (L : SL) (x1 : Int32) : Option (Int32 × SL) :=
  lt_ (up2 L 10 4 0) (fun L1 => f_X4_lookAt_h10 fuel L1 x1 2147483647 0)
def f_X4_isDown (L : SL) (x1 : Int32) : Option (Int32) :=
  lt_ (L 10 4) (fun v1 => lt_ ((v1 >>> (x1 &&& 31) : Int32)) (fun v2 => lt_ ((v2 &&& 1 : Int32)) (fun v3 => (if ¬ v3 = 1 then  some (0 : Int32) else  some (1 : Int32)))))
def f_X4_mixInto_b27 (K15 : SL → Int64 → Int32 → Option (Int64)) (K27 : SL → Int64 → Int32 → Int32 → Option (Int64)) (L : SL) (y3 : Int64) (x5 : Int32) (x6 : Int32) : Option (Int64) :=
   (if 3 ≤ x6 then lt_ (x5 + 1) (fun z2 => K15 L y3 z2) else lt_ ((31 * y3 : Int64)) (fun w3 => bd (f_X4_value L x5 x6) (fun r4 => lt_ ((r4 : Int32).toInt64) (fun w6 => lt_ ((w3 + w6 : Int64)) (fun w7 => lt_ (x6 + 1) (fun z8 => K27 L w7 x5 z8))))))
def f_X4_mixInto_h27 (K15 : SL → Int64 → Int32 → Option (Int64)) : Nat → SL → Int64 → Int32 → Int32 → Option (Int64)
  | 0, _, _, _, _ => none
  | n + 1, L, y3, x5, x6 => f_X4_mixInto_b27 K15 (f_X4_mixInto_h27 K15 n) L y3 x5 x6
def f_X4_mixInto_b15 (K15 : SL → Int64 → Int32 → Option (Int64)) (L : SL) (y3 : Int64) (x5 : Int32) : Option (Int64) :=
  lt_ (L 10 3) (fun v1 => (if v1 ≤ x5 then  some y3 else  f_X4_mixInto_h27 K15 fuel L y3 x5 0))
def f_X4_mixInto_h15 : Nat → SL → Int64 → Int32 → Option (Int64)
  | 0, _, _, _ => none
  | n + 1, L, y3, x5 => f_X4_mixInto_b15  (f_X4_mixInto_h15  n) L y3 x5
def f_X4_mixInto (L : SL) (y1 : Int64) : Option (Int64) :=
  lt_ ((31 * y1 : Int64)) (fun w1 => lt_ (L 10 3) (fun v2 => lt_ ((v2 : Int32).toInt64) (fun w3 => lt_ ((w1 + w3 : Int64)) (fun w4 => f_X4_mixInto_h15 fuel L w4 0))))

/-! functions of X2 -/
def f_X2_copy_b11 (i : Nat) (j : Nat) (K11 : (Nat → SL) → Int32 → Option ((Nat → SL))) (Ls : Nat → SL) (x2 : Int32) : Option ((Nat → SL)) :=
  lt_ ((Ls i) 0 2) (fun v1 => (if v1 ≤ x2 then bd (f_X4_copy i j Ls) (fun Ls3 => lt_ ((Ls3 i) 0 2) (fun v5 => lt_ (va_up Ls3 j (up2 (Ls3 j) 0 2 v5)) (fun Ls6 => lt_ ((Ls6 i) 0 3) (fun v7 => lt_ (va_up Ls6 j (up2 (Ls6 j) 0 3 v7)) (fun Ls8 => some Ls8))))) else gd (chk x2 8) ( lt_ (2 + x2.toNatClampNeg) (fun kq10 => lt_ (2 + x2.toNatClampNeg) (fun kq11 => lt_ (va_up Ls j (va_up (Ls j) kq11 (va_cpy (Ls i kq10) (Ls j kq11) 0 0 16))) (fun Ls12 => lt_ (x2 + 1) (fun z13 => K11 Ls12 z13)))))))
def f_X2_copy_h11 (i : Nat) (j : Nat) : Nat → (Nat → SL) → Int32 → Option ((Nat → SL))
  | 0, _, _ => none
  | n + 1, Ls, x2 => f_X2_copy_b11 i j (f_X2_copy_h11 i j n) Ls x2
def f_X2_copy (i : Nat) (j : Nat) (Ls : Nat → SL) : Option ((Nat → SL)) :=
   f_X2_copy_h11 i j fuel Ls 0
def f_X2_takeApart (L : SL) : Option (SL) :=
  lt_ (up2 L 0 2 0) (fun L1 => lt_ (up2 L1 0 3 0) (fun L2 => lt_ (up2 L2 10 3 0) (fun L3 => some L3)))
def f_X2_empty_b2 (K2 : SL → Nat → Int32 → Option (SL)) (L : SL) (k0 : Nat) (x1 : Int32) : Option (SL) :=
   (if 16 ≤ x1 then lt_ (up2 L k0 6 (-1)) (fun L2 => lt_ (up2 L2 k0 7 1) (fun L3 => some L3)) else gd (chk x1 16) ( lt_ (up2 L k0 x1.toNatClampNeg 0) (fun L5 => lt_ (x1 + 1) (fun z6 => K2 L5 k0 z6))))
def f_X2_empty_h2 : Nat → SL → Nat → Int32 → Option (SL)
  | 0, _, _, _ => none
  | n + 1, L, k0, x1 => f_X2_empty_b2  (f_X2_empty_h2  n) L k0 x1
def f_X2_empty (k0 : Nat) (L : SL) : Option (SL) :=
   f_X2_empty_h2 fuel L k0 5
def f_X2_join (L : SL) (x1 : Int32) (x2 : Int32) (x3 : Int32) : Option (Int32 × SL) :=
  lt_ (L 0 2) (fun v1 => (if v1 < 8 then lt_ (L 0 2) (fun v3 => gd (chk v3 8) ( lt_ (2 + v3.toNatClampNeg) (fun kq5 => lt_ (up2 L kq5 0 x1) (fun L6 => lt_ (up2 L6 kq5 1 x2) (fun L7 => lt_ (up2 L7 kq5 2 0) (fun L8 => lt_ (up2 L8 kq5 3 40) (fun L9 => lt_ (up2 L9 kq5 4 x3) (fun L10 => bd (f_X2_empty kq5 L10) (fun L11 => lt_ (L11 0 2) (fun v13 => lt_ ((v13 + 1 : Int32)) (fun v14 => lt_ (up2 L11 0 2 v14) (fun L15 => lt_ (L15 0 2) (fun v16 => lt_ ((v16 - 1 : Int32)) (fun v17 => some (v17, L15))))))))))))))) else  some ((-1), L)))
def f_X2_mark (L : SL) (x1 : Int32) (x2 : Int32) (x3 : Int32) : Option (SL) :=
   (if x1 < 0 then  some L else lt_ (L 0 2) (fun v2 => (if v2 ≤ x1 then  some L else gd (chk x1 8) ( lt_ (2 + x1.toNatClampNeg) (fun kq5 => lt_ (up2 L kq5 2 x2) (fun L6 => lt_ (2 + x1.toNatClampNeg) (fun kq7 => lt_ (up2 L6 kq7 3 x3) (fun L8 => some L8))))))))
def f_X2_beginAnew_b7 (K7 : SL → Int32 → Option (SL)) (L : SL) (x1 : Int32) : Option (SL) :=
  lt_ (L 0 2) (fun v1 => (if v1 ≤ x1 then  some L else gd (chk x1 8) ( lt_ (2 + x1.toNatClampNeg) (fun kq4 => bd (f_X2_empty kq4 L) (fun L5 => lt_ (x1 + 1) (fun z7 => K7 L5 z7))))))
def f_X2_beginAnew_h7 : Nat → SL → Int32 → Option (SL)
  | 0, _, _ => none
  | n + 1, L, x1 => f_X2_beginAnew_b7  (f_X2_beginAnew_h7  n) L x1
def f_X2_beginAnew (L : SL) : Option (SL) :=
  lt_ (up2 L 0 3 0) (fun L1 => f_X2_beginAnew_h7 fuel L1 0)
def f_X2_countFills_b46 (K2 : SL → Int32 → Option (SL)) (L : SL) (x1 : Int32) : Option (SL) :=
  lt_ (x1 + 1) (fun z1 => K2 L z1)
def f_X2_countFills_b2 (K2 : SL → Int32 → Option (SL)) (L : SL) (x1 : Int32) : Option (SL) :=
  lt_ (L 0 2) (fun v1 => lt_ ((v1 - 1 : Int32)) (fun v2 => (if v2 ≤ x1 then  some L else gd (chk x1 8) ( lt_ (2 + x1.toNatClampNeg) (fun kq5 => lt_ (L kq5 15) (fun v6 => lt_ (L kq5 5) (fun v7 => lt_ ((v6 + v7 : Int32)) (fun v8 => lt_ (up2 L kq5 15 v8) (fun L9 => lt_ (L9 kq5 5) (fun v10 => lt_ (L9 kq5 4) (fun v11 => (if v10 < v11 then  f_X2_countFills_b46 K2 L9 x1 else lt_ (L9 kq5 14) (fun v13 => lt_ ((v13 + 1 : Int32)) (fun v14 => lt_ (up2 L9 kq5 14 v14) (fun L15 => f_X2_countFills_b46 K2 L15 x1)))))))))))))))
def f_X2_countFills_h2 : Nat → SL → Int32 → Option (SL)
  | 0, _, _ => none
  | n + 1, L, x1 => f_X2_countFills_b2  (f_X2_countFills_h2  n) L x1
def f_X2_countFills (L : SL) : Option (SL) :=
   f_X2_countFills_h2 fuel L 0
def f_X2_chooseSpeed_b26 (L : SL) (k2 : Nat) : Option (SL) :=
  lt_ (up2 L k2 7 1) (fun L1 => some L1)
def f_X2_chooseSpeed (L : SL) (x1 : Int32) : Option (SL) :=
  gd (chk x1 8) ( lt_ (2 + x1.toNatClampNeg) (fun kq2 => lt_ (L 0 2) (fun v3 => lt_ ((v3 - 1 : Int32)) (fun v4 => (if x1 = v4 then  f_X2_chooseSpeed_b26 L kq2 else lt_ (L kq2 5) (fun v6 => lt_ (L kq2 2) (fun v7 => (if v7 < v6 then lt_ (L kq2 5) (fun v9 => lt_ (L kq2 3) (fun v10 => (if v9 < v10 then  some L else lt_ (up2 L kq2 7 0) (fun L12 => some L12)))) else  f_X2_chooseSpeed_b26 L kq2))))))))
def f_X2_noteTurn (k0 : Nat) (L : SL) (x1 : Int32) : Option (SL) :=
  lt_ (up2 L k0 8 x1) (fun L1 => lt_ ((9 + x1 : Int32)) (fun v2 => lt_ ((v2 - 1 : Int32)) (fun v3 => gd (chk v3 16) ( lt_ (L1 k0 v3.toNatClampNeg) (fun v5 => lt_ ((v5 + 1 : Int32)) (fun v6 => lt_ (up2 L1 k0 v3.toNatClampNeg v6) (fun L7 => some L7)))))))
def f_X2_presentCycle (k0 : Nat) (L : SL) : Option (Int32) :=
  lt_ (L k0 7) (fun v1 => (if ¬ v1 = 1 then lt_ (L k0 0) (fun v3 => some v3) else lt_ (L k0 1) (fun v4 => some v4)))
def f_X2_release_b84 (L : SL) (k2 : Nat) : Option (SL) :=
  lt_ (up2 L k2 6 (-1)) (fun L1 => lt_ (L1 k2 13) (fun v2 => lt_ ((v2 + 1 : Int32)) (fun v3 => lt_ (up2 L1 k2 13 v3) (fun L4 => some L4))))
def f_X2_release_b64 (L : SL) (k2 : Nat) : Option (SL) :=
  lt_ (L k2 5) (fun v1 => lt_ (L k2 4) (fun v2 => (if v2 ≤ v1 then  some L else lt_ (L k2 5) (fun v4 => lt_ ((v4 + 1 : Int32)) (fun v5 => lt_ (up2 L k2 5 v5) (fun L6 => f_X2_release_b84 L6 k2))))))
def f_X2_release (L : SL) (x1 : Int32) : Option (SL) :=
  gd (chk x1 8) ( lt_ (2 + x1.toNatClampNeg) (fun kq2 => lt_ (L 0 2) (fun v3 => lt_ ((v3 - 1 : Int32)) (fun v4 => (if v4 ≤ x1 then  f_X2_release_b84 L kq2 else lt_ ((x1 + 1 : Int32)) (fun v6 => gd (chk v6 8) ( lt_ (2 + v6.toNatClampNeg) (fun kq8 => lt_ (L kq2 5) (fun v9 => (if ¬ v9 = 0 then  f_X2_release_b64 L kq2 else lt_ (L kq8 6) (fun v11 => (if ¬ v11 = (-1) then  f_X2_release_b64 L kq2 else lt_ ((x1 + 1 : Int32)) (fun v13 => bd (f_X4_isDown L v13) (fun r14 => (if ¬ r14 = 0 then  f_X2_release_b64 L kq2 else bd (f_X2_presentCycle kq8 L) (fun r17 => lt_ (up2 L kq8 6 r17) (fun L19 => f_X2_release_b84 L19 kq2)))))))))))))))))
def f_X2_takeBottle_b34 (L : SL) (k2 : Nat) : Option (SL) :=
  bd (f_X2_presentCycle k2 L) (fun r1 => lt_ (up2 L k2 6 r1) (fun L3 => some L3))
def f_X2_takeBottle (L : SL) (x1 : Int32) : Option (SL) :=
  gd (chk x1 8) ( lt_ (2 + x1.toNatClampNeg) (fun kq2 => (if x1 ≤ 0 then  f_X2_takeBottle_b34 L kq2 else lt_ ((x1 - 1 : Int32)) (fun v4 => gd (chk v4 8) ( lt_ (2 + v4.toNatClampNeg) (fun kq6 => lt_ (L kq6 5) (fun v7 => (if ¬ v7 = 0 then lt_ (L kq6 5) (fun v9 => lt_ ((v9 - 1 : Int32)) (fun v10 => lt_ (up2 L kq6 5 v10) (fun L11 => f_X2_takeBottle_b34 L11 kq2))) else  some L))))))))
def f_X2_takeTurn_b102 (L : SL) (kk0 : Nat) (s1 : Int32) : Option (SL) :=
  bd (f_X2_noteTurn kk0 L s1) (fun L1 => some L1)
def f_X2_takeTurn_b54 (L : SL) (x1 : Int32) (k2 : Nat) : Option (SL) :=
  lt_ (L k2 6) (fun v1 => (if v1 ≤ 0 then lt_ (L k2 6) (fun v3 => (if ¬ v3 = 0 then  f_X2_takeTurn_b102 L k2 2 else  f_X2_takeTurn_b102 L k2 3)) else lt_ (L k2 6) (fun v5 => lt_ ((v5 - 1 : Int32)) (fun v6 => lt_ (up2 L k2 6 v6) (fun L7 => bd (f_X2_noteTurn k2 L7 1) (fun L8 => lt_ (L8 k2 6) (fun v10 => (if ¬ v10 = 0 then  some L8 else bd (f_X2_release L8 x1) (fun L12 => some L12)))))))))
def f_X2_takeTurn_b41 (L : SL) (x1 : Int32) (k2 : Nat) : Option (SL) :=
  lt_ (L k2 6) (fun v1 => (if ¬ v1 = (-1) then  f_X2_takeTurn_b54 L x1 k2 else bd (f_X2_takeBottle L x1) (fun L3 => f_X2_takeTurn_b54 L3 x1 k2)))
def f_X2_takeTurn (L : SL) (x1 : Int32) : Option (SL) :=
  gd (chk x1 8) ( lt_ (2 + x1.toNatClampNeg) (fun kq2 => bd (f_X2_chooseSpeed L x1) (fun L3 => bd (f_X4_isDown L3 x1) (fun r5 => (if r5 = 0 then lt_ (L3 kq2 6) (fun v8 => (if ¬ v8 = 0 then  f_X2_takeTurn_b41 L3 x1 kq2 else bd (f_X2_release L3 x1) (fun L10 => f_X2_takeTurn_b41 L10 x1 kq2))) else bd (f_X2_noteTurn kq2 L3 4) (fun L12 => some L12))))))
def f_X2_pass_b52 (K9 : SL → Int32 → Int32 → Int32 → Option (SL)) (K52 : SL → Int32 → Int32 → Int32 → Int32 → Option (SL)) (L : SL) (x1 : Int32) (x2 : Int32) (x3 : Int32) (x4 : Int32) : Option (SL) :=
   (if x4 < 0 then bd (f_X2_countFills L) (fun L2 => lt_ (x3 + 1) (fun z4 => K9 L2 x1 x2 z4)) else bd (f_X2_takeTurn L x4) (fun L5 => lt_ (x4 + (-1)) (fun z7 => K52 L5 x1 x2 x3 z7)))
def f_X2_pass_h52 (K9 : SL → Int32 → Int32 → Int32 → Option (SL)) : Nat → SL → Int32 → Int32 → Int32 → Int32 → Option (SL)
  | 0, _, _, _, _, _ => none
  | n + 1, L, x1, x2, x3, x4 => f_X2_pass_b52 K9 (f_X2_pass_h52 K9 n) L x1 x2 x3 x4
def f_X2_pass_b44 (K9 : SL → Int32 → Int32 → Int32 → Option (SL)) (L : SL) (x1 : Int32) (x2 : Int32) (x3 : Int32) : Option (SL) :=
  lt_ (L 0 2) (fun v1 => lt_ ((v1 - 1 : Int32)) (fun v2 => f_X2_pass_h52 K9 fuel L x1 x2 x3 v2))
def f_X2_pass_b9 (K9 : SL → Int32 → Int32 → Int32 → Option (SL)) (L : SL) (x1 : Int32) (x2 : Int32) (x3 : Int32) : Option (SL) :=
   (if x1 ≤ x3 then  some L else lt_ (L 0 3) (fun v2 => lt_ ((v2 + 1 : Int32)) (fun v3 => lt_ (up2 L 0 3 v3) (fun L4 => lt_ (L4 0 3) (fun v5 => (if v5 < x2 then  f_X2_pass_b44 K9 L4 x1 x2 x3 else lt_ (L4 0 3) (fun v7 => bd2 (f_X4_lookAt L4 v7) (fun r8 L9 => f_X2_pass_b44 K9 L9 x1 r8 x3))))))))
def f_X2_pass_h9 : Nat → SL → Int32 → Int32 → Int32 → Option (SL)
  | 0, _, _, _, _ => none
  | n + 1, L, x1, x2, x3 => f_X2_pass_b9  (f_X2_pass_h9  n) L x1 x2 x3
def f_X2_pass (L : SL) (x1 : Int32) : Option (SL) :=
  lt_ (L 0 3) (fun v1 => lt_ ((v1 + 1 : Int32)) (fun v2 => f_X2_pass_h9 fuel L x1 v2 0))
def f_X2_bottlesOut (L : SL) : Option (Int32) :=
  lt_ (L 0 2) (fun v1 => (if ¬ v1 = 0 then lt_ (L 0 2) (fun v3 => lt_ ((v3 - 1 : Int32)) (fun v4 => gd (chk v4 8) ( lt_ (2 + v4.toNatClampNeg) (fun kq6 => lt_ (L kq6 13) (fun v7 => some v7))))) else  some (0 : Int32)))
def f_X2_bottlesInside_b39 (K4 : SL → Int32 → Int32 → Option (Int32)) (L : SL) (x2 : Int32) (s0 : Int32) (s1 : Int32) (s2 : Int32) : Option (Int32) :=
  lt_ ((s1 + s2 : Int32)) (fun v1 => lt_ ((s0 + v1 : Int32)) (fun v2 => lt_ (x2 + 1) (fun z3 => K4 L v2 z3)))
def f_X2_bottlesInside_b4 (K4 : SL → Int32 → Int32 → Option (Int32)) (L : SL) (x1 : Int32) (x2 : Int32) : Option (Int32) :=
  lt_ (L 0 2) (fun v1 => (if v1 ≤ x2 then  some x1 else gd (chk x2 8) ( lt_ (2 + x2.toNatClampNeg) (fun kq4 => lt_ (L kq4 5) (fun v5 => lt_ (2 + x2.toNatClampNeg) (fun kq6 => lt_ (L kq6 6) (fun v7 => (if ¬ v7 = (-1) then  f_X2_bottlesInside_b39 K4 L x2 x1 v5 1 else  f_X2_bottlesInside_b39 K4 L x2 x1 v5 0))))))))
def f_X2_bottlesInside_h4 : Nat → SL → Int32 → Int32 → Option (Int32)
  | 0, _, _, _ => none
  | n + 1, L, x1, x2 => f_X2_bottlesInside_b4  (f_X2_bottlesInside_h4  n) L x1 x2
def f_X2_bottlesInside (L : SL) : Option (Int32) :=
   f_X2_bottlesInside_h4 fuel L 0 0
def f_X2_findLimiting_b47 (K7 : SL → Int32 → Int32 → Int32 → Option (Int32)) (L : SL) (x1 : Int32) (x2 : Int32) (x3 : Int32) : Option (Int32) :=
  lt_ (x3 + 1) (fun z1 => K7 L x1 x2 z1)
def f_X2_findLimiting_b7 (K7 : SL → Int32 → Int32 → Int32 → Option (Int32)) (L : SL) (x1 : Int32) (x2 : Int32) (x3 : Int32) : Option (Int32) :=
  lt_ (L 0 2) (fun v1 => (if v1 ≤ x3 then  some x1 else gd (chk x3 8) ( lt_ (2 + x3.toNatClampNeg) (fun kq4 => lt_ (L kq4 10) (fun v5 => lt_ (2 + x3.toNatClampNeg) (fun kq6 => lt_ (L kq6 11) (fun v7 => lt_ ((v5 + v7 : Int32)) (fun v8 => (if x2 ≤ v8 then  f_X2_findLimiting_b47 K7 L x1 x2 x3 else  f_X2_findLimiting_b47 K7 L x3 v8 x3)))))))))
def f_X2_findLimiting_h7 : Nat → SL → Int32 → Int32 → Int32 → Option (Int32)
  | 0, _, _, _, _ => none
  | n + 1, L, x1, x2, x3 => f_X2_findLimiting_b7  (f_X2_findLimiting_h7  n) L x1 x2 x3
def f_X2_findLimiting (L : SL) : Option (Int32) :=
   f_X2_findLimiting_h7 fuel L 0 2147483647 0
def f_X2_upTicks_b57 (K8 : SL → Int32 → Int32 → Int32 → Int32 → Int32 → Option (Int32 × SL)) (L : SL) (x1 : Int32) (x2 : Int32) (x3 : Int32) (x5 : Int32) (x6 : Int32) : Option (Int32 × SL) :=
  lt_ (x5 + 1) (fun z1 => K8 L x1 x2 x3 x6 z1)
def f_X2_upTicks_b8 (K8 : SL → Int32 → Int32 → Int32 → Int32 → Int32 → Option (Int32 × SL)) (L : SL) (x1 : Int32) (x2 : Int32) (x3 : Int32) (x4 : Int32) (x5 : Int32) : Option (Int32 × SL) :=
   (if 80 < x5 then  some (x3, L) else  (if x2 < x4 then  some (x3, L) else bd2 (f_X4_lookAt L x4) (fun r3 L4 => lt_ ((x2 + 1 : Int32)) (fun v6 => lt_ ((if v6 < r3 then v6 else r3 : Int32)) (fun v7 => bd (f_X4_isDown L4 x1) (fun r8 => (if ¬ r8 = 0 then  f_X2_upTicks_b57 K8 L4 x1 x2 x3 x5 v7 else lt_ ((v7 - x4 : Int32)) (fun v11 => lt_ ((x3 + v11 : Int32)) (fun v12 => f_X2_upTicks_b57 K8 L4 x1 x2 v12 x5 v7)))))))))
def f_X2_upTicks_h8 : Nat → SL → Int32 → Int32 → Int32 → Int32 → Int32 → Option (Int32 × SL)
  | 0, _, _, _, _, _, _ => none
  | n + 1, L, x1, x2, x3, x4, x5 => f_X2_upTicks_b8  (f_X2_upTicks_h8  n) L x1 x2 x3 x4 x5
def f_X2_upTicks (L : SL) (x1 : Int32) (x2 : Int32) : Option (Int32 × SL) :=
   f_X2_upTicks_h8 fuel L x1 x2 0 1 0
def f_X2_mostBottles (L : SL) (x1 : Int32) (x2 : Int32) : Option (Int32 × SL) :=
  gd (chk x1 8) ( lt_ (2 + x1.toNatClampNeg) (fun kq2 => lt_ (L kq2 1) (fun v3 => (if 1 ≤ v3 then bd2 (f_X2_upTicks L x1 x2) (fun r5 L6 => gd (nz v3) ( lt_ ((r5 / v3 : Int32)) (fun v9 => some (v9, L6)))) else  some (0, L)))))
def f_X2_findSlowest_b38 (K8 : SL → Int32 → Int32 → Int32 → Int32 → Option (Int32 × SL)) (L : SL) (x1 : Int32) (x2 : Int32) (x3 : Int32) (x4 : Int32) : Option (Int32 × SL) :=
  lt_ (x4 + 1) (fun z1 => K8 L x1 x2 x3 z1)
def f_X2_findSlowest_b8 (K8 : SL → Int32 → Int32 → Int32 → Int32 → Option (Int32 × SL)) (L : SL) (x1 : Int32) (x2 : Int32) (x3 : Int32) (x4 : Int32) : Option (Int32 × SL) :=
  lt_ (L 0 2) (fun v1 => (if v1 ≤ x4 then  some (x2, L) else bd2 (f_X2_mostBottles L x4 x1) (fun r3 L4 => (if x3 ≤ r3 then  f_X2_findSlowest_b38 K8 L4 x1 x2 x3 x4 else  f_X2_findSlowest_b38 K8 L4 x1 x4 r3 x4))))
def f_X2_findSlowest_h8 : Nat → SL → Int32 → Int32 → Int32 → Int32 → Option (Int32 × SL)
  | 0, _, _, _, _, _ => none
  | n + 1, L, x1, x2, x3, x4 => f_X2_findSlowest_b8  (f_X2_findSlowest_h8  n) L x1 x2 x3 x4
def f_X2_findSlowest (L : SL) (x1 : Int32) : Option (Int32 × SL) :=
   f_X2_findSlowest_h8 fuel L x1 0 2147483647 0
def f_X2_mixInto_b51 (K39 : SL → Int64 → Int32 → Option (Int64)) (K51 : SL → Int64 → Int32 → Int32 → Option (Int64)) (L : SL) (y3 : Int64) (x5 : Int32) (x6 : Int32) : Option (Int64) :=
   (if 15 ≤ x6 then lt_ (x5 + 1) (fun z2 => K39 L y3 z2) else lt_ ((31 * y3 : Int64)) (fun w3 => gd (chk x5 8) ( lt_ (2 + x5.toNatClampNeg) (fun kq5 => gd (chk x6 16) ( lt_ (L kq5 x6.toNatClampNeg) (fun v7 => lt_ ((v7 : Int32).toInt64) (fun w8 => lt_ ((w3 + w8 : Int64)) (fun w9 => lt_ (x6 + 1) (fun z10 => K51 L w9 x5 z10)))))))))
def f_X2_mixInto_h51 (K39 : SL → Int64 → Int32 → Option (Int64)) : Nat → SL → Int64 → Int32 → Int32 → Option (Int64)
  | 0, _, _, _, _ => none
  | n + 1, L, y3, x5, x6 => f_X2_mixInto_b51 K39 (f_X2_mixInto_h51 K39 n) L y3 x5 x6
def f_X2_mixInto_b39 (K39 : SL → Int64 → Int32 → Option (Int64)) (L : SL) (y3 : Int64) (x5 : Int32) : Option (Int64) :=
  lt_ (L 0 2) (fun v1 => (if v1 ≤ x5 then  some y3 else  f_X2_mixInto_h51 K39 fuel L y3 x5 0))
def f_X2_mixInto_h39 : Nat → SL → Int64 → Int32 → Option (Int64)
  | 0, _, _, _ => none
  | n + 1, L, y3, x5 => f_X2_mixInto_b39  (f_X2_mixInto_h39  n) L y3 x5
def f_X2_mixInto (L : SL) (y1 : Int64) : Option (Int64) :=
  lt_ ((31 * y1 : Int64)) (fun w1 => lt_ (L 0 3) (fun v2 => lt_ ((v2 : Int32).toInt64) (fun w3 => lt_ ((w1 + w3 : Int64)) (fun w4 => lt_ ((31 * w4 : Int64)) (fun w5 => bd (f_X2_bottlesOut L) (fun r6 => lt_ ((r6 : Int32).toInt64) (fun w8 => lt_ ((w5 + w8 : Int64)) (fun w9 => lt_ ((31 * w9 : Int64)) (fun w10 => lt_ (L 0 2) (fun v11 => lt_ ((v11 : Int32).toInt64) (fun w12 => lt_ ((w10 + w12 : Int64)) (fun w13 => f_X2_mixInto_h39 fuel L w13 0))))))))))))

/-! functions of X1 -/
def f_X1_keep (i : Nat) (Ls : Nat → SL) (Hs : SL) : Option ((Nat → SL) × SL) :=
  lt_ (Hs 0 1) (fun v1 => lt_ ((v1 + 1 : Int32)) (fun v2 => lt_ ((v2 - v2 / 4 * 4 : Int32)) (fun v3 => lt_ (up2 Hs 0 1 v3) (fun Hs4 => lt_ (Hs4 0 1) (fun v5 => gd (chk v5 4) ( lt_ (2 + v5.toNatClampNeg) (fun jq7 => bd (f_X2_copy i jq7 Ls) (fun Ls8 => lt_ (Hs4 0 2) (fun v10 => (if 4 ≤ v10 then  some (Ls8, Hs4) else lt_ (Hs4 0 2) (fun v12 => lt_ ((v12 + 1 : Int32)) (fun v13 => lt_ (up2 Hs4 0 2 v13) (fun Hs14 => some (Ls8, Hs14))))))))))))))
def f_X1_giveBack (i : Nat) (Ls : Nat → SL) (Hs : SL) : Option ((Nat → SL) × SL) :=
  lt_ (Hs 0 2) (fun v1 => (if ¬ v1 = 0 then lt_ (Hs 0 1) (fun v3 => gd (chk v3 4) ( lt_ (2 + v3.toNatClampNeg) (fun jq5 => bd (f_X2_copy jq5 i Ls) (fun Ls6 => lt_ (Hs 0 1) (fun v8 => lt_ ((v8 + 4 : Int32)) (fun v9 => lt_ ((v9 - 1 : Int32)) (fun v10 => lt_ ((v10 - v10 / 4 * 4 : Int32)) (fun v11 => lt_ (up2 Hs 0 1 v11) (fun Hs12 => lt_ (Hs12 0 2) (fun v13 => lt_ ((v13 - 1 : Int32)) (fun v14 => lt_ (up2 Hs12 0 2 v14) (fun Hs15 => some (Ls6, Hs15))))))))))))) else  some (Ls, Hs)))

/-! functions of X3 -/
def f_X3_put (T : SL) (x1 : Int32) : Option (SL) :=
  lt_ (T 0 1) (fun v1 => (if 120 ≤ v1 then  some T else lt_ (T 0 1) (fun v3 => gd (chk v3 120) ( lt_ (up2 T 1 v3.toNatClampNeg x1) (fun T5 => lt_ (T5 0 1) (fun v6 => lt_ ((v6 + 1 : Int32)) (fun v7 => lt_ (up2 T5 0 1 v7) (fun T8 => some T8))))))))
def f_X3_byteAt_b12 (T : SL) : Option (Int32) :=
   some ((-1) : Int32)
def f_X3_byteAt (T : SL) (x1 : Int32) : Option (Int32) :=
   (if x1 < 0 then  f_X3_byteAt_b12 T else lt_ (T 0 1) (fun v2 => (if x1 < v2 then gd (chk x1 120) ( lt_ (T 1 x1.toNatClampNeg) (fun v5 => some v5)) else  f_X3_byteAt_b12 T)))
def f_X5_isIn_b14 : Option (Int32) :=
   some (0 : Int32)
def f_X5_isIn (x0 : Int32) (x1 : Int32) (x2 : Int32) : Option (Int32) :=
   (if x0 < x1 then  f_X5_isIn_b14  else  (if x2 < x0 then  f_X5_isIn_b14  else  some (1 : Int32)))
def f_X3_isDigit (x0 : Int32) : Option (Int32) :=
  bd (f_X5_isIn x0 48 57) (fun r1 => gd (isB r1) ( some r1))
def f_X3_readNumber_b104 (T : SL) (x5 : Int32) : Option (Int32 × SL) :=
  lt_ (T 0 2) (fun v1 => lt_ (up2 T 0 3 v1) (fun T2 => some (x5, T2)))
def f_X3_readNumber_b77 (T : SL) (x1 : Int32) (x2 : Int32) (x3 : Int32) (x4 : Int32) (x5 : Int32) : Option (Int32 × SL) :=
  lt_ (T 0 2) (fun v1 => bd (f_X3_byteAt T v1) (fun r2 => lt_ (T 0 2) (fun v4 => (if v4 = x4 then  f_X3_readNumber_b104 T x5 else bd (f_X3_isDigit r2) (fun r6 => (if r6 = 0 then bd (f_X5_isIn x5 x1 x2) (fun r9 => (if ¬ r9 = 0 then  (if r2 = x3 then lt_ (T 0 2) (fun v13 => lt_ ((v13 + 1 : Int32)) (fun v14 => lt_ (up2 T 0 2 v14) (fun T15 => some (x5, T15)))) else lt_ (T 0 2) (fun v16 => lt_ (up2 T 0 3 v16) (fun T17 => some (x5, T17)))) else lt_ (up2 T 0 3 x4) (fun T18 => some (x5, T18)))) else  f_X3_readNumber_b104 T x5))))))
def f_X3_readNumber_b22 (K22 : SL → Int32 → Int32 → Int32 → Int32 → Int32 → Int32 → Option (Int32 × SL)) (T : SL) (x1 : Int32) (x2 : Int32) (x3 : Int32) (x4 : Int32) (x5 : Int32) (x6 : Int32) : Option (Int32 × SL) :=
   (if 2 ≤ x6 then  f_X3_readNumber_b77 T x1 x2 x3 x4 x5 else lt_ (T 0 2) (fun v2 => bd (f_X3_byteAt T v2) (fun r3 => bd (f_X3_isDigit r3) (fun r5 => (if r5 = 0 then  f_X3_readNumber_b77 T x1 x2 x3 x4 x5 else lt_ ((10 * x5 : Int32)) (fun v8 => lt_ (T 0 2) (fun v9 => bd (f_X3_byteAt T v9) (fun r10 => lt_ ((v8 + r10 : Int32)) (fun v12 => lt_ ((v12 - 48 : Int32)) (fun v13 => lt_ (T 0 2) (fun v14 => lt_ ((v14 + 1 : Int32)) (fun v15 => lt_ (up2 T 0 2 v15) (fun T16 => lt_ (x6 + 1) (fun z17 => K22 T16 x1 x2 x3 x4 v13 z17))))))))))))))
def f_X3_readNumber_h22 : Nat → SL → Int32 → Int32 → Int32 → Int32 → Int32 → Int32 → Option (Int32 × SL)
  | 0, _, _, _, _, _, _, _ => none
  | n + 1, T, x1, x2, x3, x4, x5, x6 => f_X3_readNumber_b22  (f_X3_readNumber_h22  n) T x1 x2 x3 x4 x5 x6
def f_X3_readNumber (T : SL) (x1 : Int32) (x2 : Int32) (x3 : Int32) : Option (Int32 × SL) :=
  lt_ (T 0 3) (fun v1 => (if v1 = (-1) then lt_ (T 0 2) (fun v3 => f_X3_readNumber_h22 fuel T x1 x2 x3 v3 0 0) else  some ((-1), T)))
def f_X3_readMachine (L : SL) (T : SL) : Option (SL × SL) :=
  bd2 (f_X3_readNumber T 1 20 44) (fun r1 T2 => bd2 (f_X3_readNumber T2 1 r1 44) (fun r4 T5 => bd2 (f_X3_readNumber T5 0 40 59) (fun r7 T8 => lt_ (T8 0 3) (fun v10 => (if ¬ v10 = (-1) then  some (L, T8) else bd2 (f_X2_join L r1 r4 r7) (fun r12 L13 => some (L13, T8)))))))
def f_X3_readMarks (L : SL) (T : SL) : Option (SL × SL) :=
  lt_ (L 0 2) (fun v1 => lt_ ((v1 - 1 : Int32)) (fun v2 => bd2 (f_X3_readNumber T 0 v2 44) (fun r3 T4 => bd2 (f_X3_readNumber T4 0 40 44) (fun r6 T7 => bd2 (f_X3_readNumber T7 r6 40 59) (fun r9 T10 => lt_ (T10 0 3) (fun v12 => (if ¬ v12 = (-1) then  some (L, T10) else bd (f_X2_mark L r3 r6 r9) (fun L14 => some (L14, T10)))))))))
def f_X3_readItem_b42 (L : SL) (T : SL) (x2 : Int32) : Option (SL × SL) :=
   (if ¬ x2 = 104 then lt_ (T 0 2) (fun v2 => lt_ (up2 T 0 3 v2) (fun T3 => some (L, T3))) else lt_ (T 0 2) (fun v4 => lt_ ((v4 + 1 : Int32)) (fun v5 => lt_ (up2 T 0 2 v5) (fun T6 => bd2 (f_X3_readMarks L T6) (fun L7 T8 => some (L7, T8))))))
def f_X3_readItem (L : SL) (T : SL) : Option (SL × SL) :=
  lt_ (T 0 2) (fun v1 => bd (f_X3_byteAt T v1) (fun r2 => (if ¬ r2 = 109 then  f_X3_readItem_b42 L T r2 else lt_ (L 0 2) (fun v5 => (if 8 ≤ v5 then  f_X3_readItem_b42 L T r2 else lt_ (T 0 2) (fun v7 => lt_ ((v7 + 1 : Int32)) (fun v8 => lt_ (up2 T 0 2 v8) (fun T9 => bd2 (f_X3_readMachine L T9) (fun L10 T11 => some (L10, T11))))))))))
def f_X3_readInto_b16 (K16 : SL → SL → Int32 → Option (Int32 × SL × SL)) (L : SL) (T : SL) (x2 : Int32) : Option (Int32 × SL × SL) :=
   (if 120 ≤ x2 then lt_ (T 0 3) (fun v2 => some (v2, L, T)) else lt_ (T 0 2) (fun v3 => lt_ (T 0 1) (fun v4 => (if v4 ≤ v3 then lt_ (T 0 3) (fun v6 => some (v6, L, T)) else lt_ (T 0 3) (fun v7 => (if ¬ v7 = (-1) then lt_ (T 0 3) (fun v9 => some (v9, L, T)) else bd2 (f_X3_readItem L T) (fun L10 T11 => lt_ (x2 + 1) (fun z13 => K16 L10 T11 z13))))))))
def f_X3_readInto_h16 : Nat → SL → SL → Int32 → Option (Int32 × SL × SL)
  | 0, _, _, _ => none
  | n + 1, L, T, x2 => f_X3_readInto_b16  (f_X3_readInto_h16  n) L T x2
def f_X3_readInto (L : SL) (T : SL) : Option (Int32 × SL × SL) :=
  lt_ (up2 T 0 2 0) (fun T1 => lt_ (up2 T1 0 3 (-1)) (fun T2 => bd (f_X2_takeApart L) (fun L3 => f_X3_readInto_h16 fuel L3 T2 0)))

/-! functions of X6 -/
def f_X6_thrown (M : SL) : Option (Int32) :=
  lt_ (M 0 4) (fun v1 => some v1)
def f_X6_refused (M : SL) (x1 : Int32) : Option (Int32 × SL) :=
  lt_ (up2 M 0 4 x1) (fun M1 => (if x1 ≤ 0 then  some (0, M1) else  some (1, M1)))
def f_X6_within_b14 : Option (Int32) :=
   some (0 : Int32)
def f_X6_within (x0 : Int32) (x1 : Int32) (x2 : Int32) : Option (Int32) :=
   (if x0 < x1 then  f_X6_within_b14  else  (if x2 < x0 then  f_X6_within_b14  else  some (1 : Int32)))
def f_X6_isMachine (M : SL) (x1 : Int32) : Option (Int32) :=
  lt_ (M 1 0) (fun v1 => lt_ ((v1 - 1 : Int32)) (fun v2 => bd (f_X6_within x1 0 v2) (fun r3 => gd (isB r3) ( some r3))))
def f_X6_of (x0 : Int32) : Option (Int32) :=
  lt_ ((16 * x0 : Int32)) (fun v1 => lt_ ((3 + v1 : Int32)) (fun v2 => some v2))
def f_X6_saves_b51 (K51 : SL → Int32 → Option (SL)) (M : SL) (x1 : Int32) : Option (SL) :=
   (if 251 ≤ x1 then lt_ (M 0 3) (fun v2 => lt_ ((v2 + 1 : Int32)) (fun v3 => lt_ (up2 M 0 3 v3) (fun M4 => some M4))) else lt_ (M 0 3) (fun v5 => lt_ ((251 * v5 : Int32)) (fun v6 => lt_ ((v6 + x1 : Int32)) (fun v7 => gd (chk x1 251) ( lt_ (M 1 x1.toNatClampNeg) (fun v9 => gd (chk v7 1004) ( lt_ (up2 M 2 v7.toNatClampNeg v9) (fun M11 => lt_ (x1 + 1) (fun z12 => K51 M11 z12)))))))))
def f_X6_saves_h51 : Nat → SL → Int32 → Option (SL)
  | 0, _, _ => none
  | n + 1, M, x1 => f_X6_saves_b51  (f_X6_saves_h51  n) M x1
def f_X6_saves_b49 (M : SL) : Option (SL) :=
   f_X6_saves_h51 fuel M 0
def f_X6_saves_b10 (K10 : SL → Int32 → Option (SL)) (M : SL) (x1 : Int32) : Option (SL) :=
   (if 753 ≤ x1 then lt_ (M 0 3) (fun v2 => lt_ ((v2 - 1 : Int32)) (fun v3 => lt_ (up2 M 0 3 v3) (fun M4 => f_X6_saves_b49 M4))) else lt_ ((x1 + 251 : Int32)) (fun v5 => gd (chk v5 1004) ( lt_ (M 2 v5.toNatClampNeg) (fun v7 => gd (chk x1 1004) ( lt_ (up2 M 2 x1.toNatClampNeg v7) (fun M9 => lt_ (x1 + 1) (fun z10 => K10 M9 z10)))))))
def f_X6_saves_h10 : Nat → SL → Int32 → Option (SL)
  | 0, _, _ => none
  | n + 1, M, x1 => f_X6_saves_b10  (f_X6_saves_h10  n) M x1
def f_X6_saves (M : SL) : Option (SL) :=
  lt_ (M 0 3) (fun v1 => (if ¬ v1 = 4 then  f_X6_saves_b49 M else  f_X6_saves_h10 fuel M 0))
def f_X6_undo_b33 (K33 : SL → Int32 → Option (Int32 × SL)) (M : SL) (x1 : Int32) : Option (Int32 × SL) :=
   (if 251 ≤ x1 then lt_ (M 0 3) (fun v2 => some (v2, M)) else lt_ (M 0 3) (fun v3 => lt_ ((251 * v3 : Int32)) (fun v4 => lt_ ((v4 + x1 : Int32)) (fun v5 => gd (chk v5 1004) ( lt_ (M 2 v5.toNatClampNeg) (fun v7 => gd (chk x1 251) ( lt_ (up2 M 1 x1.toNatClampNeg v7) (fun M9 => lt_ (x1 + 1) (fun z10 => K33 M9 z10)))))))))
def f_X6_undo_h33 : Nat → SL → Int32 → Option (Int32 × SL)
  | 0, _, _ => none
  | n + 1, M, x1 => f_X6_undo_b33  (f_X6_undo_h33  n) M x1
def f_X6_undo_b13 (M : SL) (s1 : Int32) : Option (Int32 × SL) :=
  bd2 (f_X6_refused M s1) (fun r1 M2 => (if r1 = 0 then lt_ (M2 0 3) (fun v5 => lt_ ((v5 - 1 : Int32)) (fun v6 => lt_ (up2 M2 0 3 v6) (fun M7 => f_X6_undo_h33 fuel M7 0))) else  some (0, M2)))
def f_X6_undo (M : SL) : Option (Int32 × SL) :=
  lt_ (M 0 3) (fun v1 => (if ¬ v1 = 0 then  f_X6_undo_b13 M 0 else  f_X6_undo_b13 M 1))
def f_X6_keeps_b2 (K2 : SL → Int32 → Option (SL)) (M : SL) (x1 : Int32) : Option (SL) :=
   (if 251 ≤ x1 then  some M else gd (chk x1 251) ( lt_ (M 1 x1.toNatClampNeg) (fun v3 => lt_ (up2 M 3 x1.toNatClampNeg v3) (fun M4 => lt_ (x1 + 1) (fun z5 => K2 M4 z5)))))
def f_X6_keeps_h2 : Nat → SL → Int32 → Option (SL)
  | 0, _, _ => none
  | n + 1, M, x1 => f_X6_keeps_b2  (f_X6_keeps_h2  n) M x1
def f_X6_keeps (M : SL) : Option (SL) :=
   f_X6_keeps_h2 fuel M 0
def f_X6_takesBack_b2 (K2 : SL → Int32 → Option (SL)) (M : SL) (x1 : Int32) : Option (SL) :=
   (if 251 ≤ x1 then  some M else gd (chk x1 251) ( lt_ (M 3 x1.toNatClampNeg) (fun v3 => lt_ (up2 M 1 x1.toNatClampNeg v3) (fun M4 => lt_ (x1 + 1) (fun z5 => K2 M4 z5)))))
def f_X6_takesBack_h2 : Nat → SL → Int32 → Option (SL)
  | 0, _, _ => none
  | n + 1, M, x1 => f_X6_takesBack_b2  (f_X6_takesBack_h2  n) M x1
def f_X6_takesBack (M : SL) : Option (SL) :=
   f_X6_takesBack_h2 fuel M 0
def f_X6_areCycles_b23 : Option (Int32) :=
   some (0 : Int32)
def f_X6_areCycles (x0 : Int32) (x1 : Int32) : Option (Int32) :=
  bd (f_X6_within x0 1 20) (fun r1 => (if r1 = 0 then  f_X6_areCycles_b23  else bd (f_X6_within x1 1 x0) (fun r4 => (if r4 = 0 then  f_X6_areCycles_b23  else  some (1 : Int32)))))
def f_X6_isCapacity (x0 : Int32) : Option (Int32) :=
  bd (f_X6_within x0 0 40) (fun r1 => gd (isB r1) ( some r1))
def f_X6_adds_b14 (K14 : SL → Int32 → Int32 → Int32 → Int32 → Int32 → Option (SL)) (M : SL) (x1 : Int32) (x2 : Int32) (x3 : Int32) (x4 : Int32) (x5 : Int32) : Option (SL) :=
   (if 16 ≤ x5 then lt_ ((x4 + 0 : Int32)) (fun v2 => gd (chk v2 251) ( lt_ (up2 M 1 v2.toNatClampNeg x1) (fun M4 => lt_ ((x4 + 1 : Int32)) (fun v5 => gd (chk v5 251) ( lt_ (up2 M4 1 v5.toNatClampNeg x2) (fun M7 => lt_ ((x4 + 3 : Int32)) (fun v8 => gd (chk v8 251) ( lt_ (up2 M7 1 v8.toNatClampNeg 40) (fun M10 => lt_ ((x4 + 4 : Int32)) (fun v11 => gd (chk v11 251) ( lt_ (up2 M10 1 v11.toNatClampNeg x3) (fun M13 => lt_ ((x4 + 6 : Int32)) (fun v14 => gd (chk v14 251) ( lt_ (up2 M13 1 v14.toNatClampNeg (-1)) (fun M16 => lt_ ((x4 + 7 : Int32)) (fun v17 => gd (chk v17 251) ( lt_ (up2 M16 1 v17.toNatClampNeg 1) (fun M19 => lt_ (M19 1 0) (fun v20 => lt_ ((v20 + 1 : Int32)) (fun v21 => lt_ (up2 M19 1 0 v21) (fun M22 => some M22))))))))))))))))))))) else lt_ ((x4 + x5 : Int32)) (fun v23 => gd (chk v23 251) ( lt_ (up2 M 1 v23.toNatClampNeg 0) (fun M25 => lt_ (x5 + 1) (fun z26 => K14 M25 x1 x2 x3 x4 z26)))))
def f_X6_adds_h14 : Nat → SL → Int32 → Int32 → Int32 → Int32 → Int32 → Option (SL)
  | 0, _, _, _, _, _, _ => none
  | n + 1, M, x1, x2, x3, x4, x5 => f_X6_adds_b14  (f_X6_adds_h14  n) M x1 x2 x3 x4 x5
def f_X6_adds (M : SL) (x1 : Int32) (x2 : Int32) (x3 : Int32) : Option (SL) :=
  lt_ (M 1 0) (fun v1 => bd (f_X6_of v1) (fun r2 => f_X6_adds_h14 fuel M x1 x2 x3 r2 0))
def f_X6_addMachine_b45 (M : SL) (x1 : Int32) (x2 : Int32) (x3 : Int32) (s1 : Int32) : Option (Int32 × SL) :=
  bd2 (f_X6_refused M s1) (fun r1 M2 => (if r1 = 0 then bd (f_X6_saves M2) (fun M5 => bd (f_X6_adds M5 x1 x2 x3) (fun M7 => lt_ (M7 1 0) (fun v9 => lt_ ((v9 - 1 : Int32)) (fun v10 => some (v10, M7))))) else  some (0, M2)))
def f_X6_addMachine_b16 (M : SL) (x1 : Int32) (x2 : Int32) (x3 : Int32) : Option (Int32 × SL) :=
   f_X6_addMachine_b45 M x1 x2 x3 1
def f_X6_addMachine_b40 (M : SL) (x1 : Int32) (x2 : Int32) (x3 : Int32) : Option (Int32 × SL) :=
   f_X6_addMachine_b45 M x1 x2 x3 2
def f_X6_addMachine (M : SL) (x1 : Int32) (x2 : Int32) (x3 : Int32) : Option (Int32 × SL) :=
  bd (f_X6_areCycles x1 x2) (fun r1 => (if r1 = 0 then  f_X6_addMachine_b16 M x1 x2 x3 else bd (f_X6_isCapacity x3) (fun r4 => (if ¬ r4 = 0 then lt_ (M 1 0) (fun v7 => (if v7 = 8 then  f_X6_addMachine_b40 M x1 x2 x3 else lt_ (M 1 1) (fun v9 => (if v9 ≤ 0 then  f_X6_addMachine_b45 M x1 x2 x3 0 else  f_X6_addMachine_b40 M x1 x2 x3)))) else  f_X6_addMachine_b16 M x1 x2 x3))))
def f_X6_areMarks_b23 : Option (Int32) :=
   some (0 : Int32)
def f_X6_areMarks (x0 : Int32) (x1 : Int32) : Option (Int32) :=
  bd (f_X6_within x1 0 40) (fun r1 => (if r1 = 0 then  f_X6_areMarks_b23  else bd (f_X6_within x0 0 x1) (fun r4 => (if r4 = 0 then  f_X6_areMarks_b23  else  some (1 : Int32)))))
def f_X6_setMachine_b36 (M : SL) (x1 : Int32) (x2 : Int32) (x3 : Int32) (x4 : Int32) (x5 : Int32) (s1 : Int32) : Option (Int32 × SL) :=
  bd2 (f_X6_refused M s1) (fun r1 M2 => (if r1 = 0 then bd (f_X6_saves M2) (fun M5 => bd (f_X6_of x1) (fun r7 => lt_ ((r7 + 1 : Int32)) (fun v9 => gd (chk v9 251) ( lt_ (M5 1 v9.toNatClampNeg) (fun v11 => lt_ ((r7 + 0 : Int32)) (fun v12 => gd (chk v12 251) ( lt_ (up2 M5 1 v12.toNatClampNeg x2) (fun M14 => lt_ ((r7 + 1 : Int32)) (fun v15 => gd (chk v15 251) ( lt_ (up2 M14 1 v15.toNatClampNeg x3) (fun M17 => lt_ ((r7 + 2 : Int32)) (fun v18 => gd (chk v18 251) ( lt_ (up2 M17 1 v18.toNatClampNeg x4) (fun M20 => lt_ ((r7 + 3 : Int32)) (fun v21 => gd (chk v21 251) ( lt_ (up2 M20 1 v21.toNatClampNeg x5) (fun M23 => some (v11, M23)))))))))))))))))) else  some (0, M2)))
def f_X6_setMachine_b35 (M : SL) (x1 : Int32) (x2 : Int32) (x3 : Int32) (x4 : Int32) (x5 : Int32) : Option (Int32 × SL) :=
   f_X6_setMachine_b36 M x1 x2 x3 x4 x5 2
def f_X6_setMachine (M : SL) (x1 : Int32) (x2 : Int32) (x3 : Int32) (x4 : Int32) (x5 : Int32) : Option (Int32 × SL) :=
  bd (f_X6_isMachine M x1) (fun r1 => (if ¬ r1 = 0 then bd (f_X6_areCycles x2 x3) (fun r4 => (if r4 = 0 then  f_X6_setMachine_b35 M x1 x2 x3 x4 x5 else bd (f_X6_areMarks x4 x5) (fun r7 => (if r7 = 0 then  f_X6_setMachine_b35 M x1 x2 x3 x4 x5 else  f_X6_setMachine_b36 M x1 x2 x3 x4 x5 0)))) else  f_X6_setMachine_b36 M x1 x2 x3 x4 x5 1))
def f_X6_setCapacity_b25 (M : SL) (x1 : Int32) (x2 : Int32) (s1 : Int32) : Option (Int32 × SL) :=
  bd2 (f_X6_refused M s1) (fun r1 M2 => (if r1 = 0 then bd (f_X6_saves M2) (fun M5 => bd (f_X6_of x1) (fun r7 => lt_ ((r7 + 4 : Int32)) (fun v9 => gd (chk v9 251) ( lt_ (M5 1 v9.toNatClampNeg) (fun v11 => bd (f_X6_of x1) (fun r12 => lt_ ((r12 + 4 : Int32)) (fun v14 => gd (chk v14 251) ( lt_ (up2 M5 1 v14.toNatClampNeg x2) (fun M16 => some (v11, M16)))))))))) else  some (0, M2)))
def f_X6_setCapacity (M : SL) (x1 : Int32) (x2 : Int32) : Option (Int32 × SL) :=
  bd (f_X6_isMachine M x1) (fun r1 => (if ¬ r1 = 0 then bd (f_X6_isCapacity x2) (fun r4 => (if r4 = 0 then  f_X6_setCapacity_b25 M x1 x2 2 else  f_X6_setCapacity_b25 M x1 x2 0)) else  f_X6_setCapacity_b25 M x1 x2 1))
def f_X6_plans (M : SL) (x1 : Int32) (x2 : Int32) (x3 : Int32) : Option (SL) :=
  lt_ (M 1 2) (fun v1 => lt_ ((3 * v1 : Int32)) (fun v2 => lt_ ((131 + v2 : Int32)) (fun v3 => gd (chk v3 251) ( lt_ (up2 M 1 v3.toNatClampNeg x1) (fun M5 => lt_ ((v3 + 1 : Int32)) (fun v6 => gd (chk v6 251) ( lt_ (up2 M5 1 v6.toNatClampNeg x2) (fun M8 => lt_ ((v3 + 2 : Int32)) (fun v9 => gd (chk v9 251) ( lt_ (up2 M8 1 v9.toNatClampNeg x3) (fun M11 => lt_ (M11 1 2) (fun v12 => lt_ ((v12 + 1 : Int32)) (fun v13 => lt_ (up2 M11 1 2 v13) (fun M14 => some M14))))))))))))))
def f_X6_addStop_b74 (M : SL) (x1 : Int32) (x2 : Int32) (x3 : Int32) (s1 : Int32) : Option (Int32 × SL) :=
  bd2 (f_X6_refused M s1) (fun r1 M2 => (if r1 = 0 then bd (f_X6_saves M2) (fun M5 => bd (f_X6_plans M5 x1 x2 x3) (fun M7 => lt_ (M7 1 2) (fun v9 => some (v9, M7)))) else  some (0, M2)))
def f_X6_addStop_b34 (M : SL) (x1 : Int32) (x2 : Int32) (x3 : Int32) (s0 : Int32) : Option (Int32 × SL) :=
  bd (f_X6_isMachine M x1) (fun r1 => (if ¬ r1 = 0 then  (if ¬ s0 = 0 then lt_ (M 1 2) (fun v5 => (if ¬ v5 = 40 then  f_X6_addStop_b74 M x1 x2 x3 0 else  f_X6_addStop_b74 M x1 x2 x3 3)) else  f_X6_addStop_b74 M x1 x2 x3 2) else  f_X6_addStop_b74 M x1 x2 x3 1))
def f_X6_addStop_b33 (M : SL) (x1 : Int32) (x2 : Int32) (x3 : Int32) : Option (Int32 × SL) :=
   f_X6_addStop_b34 M x1 x2 x3 0
def f_X6_addStop (M : SL) (x1 : Int32) (x2 : Int32) (x3 : Int32) : Option (Int32 × SL) :=
  lt_ (M 1 1) (fun v1 => lt_ ((v1 + 1 : Int32)) (fun v2 => bd (f_X6_within x2 v2 10000) (fun r3 => (if r3 = 0 then  f_X6_addStop_b33 M x1 x2 x3 else bd (f_X6_within x3 1 200) (fun r6 => (if r6 = 0 then  f_X6_addStop_b33 M x1 x2 x3 else  f_X6_addStop_b34 M x1 x2 x3 1))))))
def f_X6_draws (dr : Int64) : Option (Int32 × Int64) :=
  lt_ (dr) (fun w1 => lt_ ((1103515245 * w1 : Int64)) (fun w2 => lt_ ((w2 + 12345 : Int64)) (fun w3 => lt_ ((w3 - w3 / 2147483648 * 2147483648 : Int64)) (fun w4 => lt_ (w4) (fun dr5 => lt_ (dr5) (fun w6 => lt_ ((w6 / 65536 : Int64)) (fun w7 => lt_ ((w7 : Int64).toInt32) (fun v8 => some (v8, dr5)))))))))
def f_X6_addRandomStops_b201 (K123 : SL → Int64 → Int32 → Int32 → Int32 → Int32 → Int32 → Int32 → Int32 → Option (Int32 × SL × Int64)) (M : SL) (dr : Int64) (x1 : Int32) (x3 : Int32) (x4 : Int32) (x5 : Int32) (x7 : Int32) (x8 : Int32) (x9 : Int32) : Option (Int32 × SL × Int64) :=
  lt_ (x9 + 1) (fun z1 => K123 M dr x1 x3 x4 x5 x7 x8 z1)
def f_X6_addRandomStops_b163 (K123 : SL → Int64 → Int32 → Int32 → Int32 → Int32 → Int32 → Int32 → Int32 → Option (Int32 × SL × Int64)) (M : SL) (dr : Int64) (x1 : Int32) (x3 : Int32) (x4 : Int32) (x5 : Int32) (x7 : Int32) (x9 : Int32) (x10 : Int32) (s0 : Int32) : Option (Int32 × SL × Int64) :=
   (if s0 = 0 then  f_X6_addRandomStops_b201 K123 M dr x1 x3 x4 x5 x7 s0 x9 else bd2 (f_X6_draws dr) (fun r2 dr3 => lt_ ((2 * x4 : Int32)) (fun v5 => gd (nz v5) ( lt_ ((r2 - r2 / v5 * v5 : Int32)) (fun v7 => lt_ ((1 + v7 : Int32)) (fun v8 => bd (f_X6_plans M x1 x10 v8) (fun M9 => lt_ ((x10 + v8 : Int32)) (fun v11 => lt_ ((v11 - 1 : Int32)) (fun v12 => f_X6_addRandomStops_b201 K123 M9 dr3 x1 x3 x4 x5 v12 s0 x9)))))))))
def f_X6_addRandomStops_b207 (M : SL) (dr : Int64) : Option (Int32 × SL × Int64) :=
  lt_ (M 1 2) (fun v1 => some (v1, M, dr))
def f_X6_addRandomStops_b123 (K123 : SL → Int64 → Int32 → Int32 → Int32 → Int32 → Int32 → Int32 → Int32 → Option (Int32 × SL × Int64)) (M : SL) (dr : Int64) (x1 : Int32) (x3 : Int32) (x4 : Int32) (x5 : Int32) (x7 : Int32) (x8 : Int32) (x9 : Int32) : Option (Int32 × SL × Int64) :=
   (if x5 ≤ x9 then  f_X6_addRandomStops_b207 M dr else  (if x8 = 0 then  f_X6_addRandomStops_b207 M dr else lt_ ((x7 + 1 : Int32)) (fun v3 => bd2 (f_X6_draws dr) (fun r4 dr5 => lt_ ((2 * x3 : Int32)) (fun v7 => gd (nz v7) ( lt_ ((r4 - r4 / v7 * v7 : Int32)) (fun v9 => lt_ ((v3 + v9 : Int32)) (fun v10 => (if 10000 < v10 then  f_X6_addRandomStops_b163 K123 M dr5 x1 x3 x4 x5 x7 x9 v10 0 else  f_X6_addRandomStops_b163 K123 M dr5 x1 x3 x4 x5 x7 x9 v10 1)))))))))
def f_X6_addRandomStops_h123 : Nat → SL → Int64 → Int32 → Int32 → Int32 → Int32 → Int32 → Int32 → Int32 → Option (Int32 × SL × Int64)
  | 0, _, _, _, _, _, _, _, _, _ => none
  | n + 1, M, dr, x1, x3, x4, x5, x7, x8, x9 => f_X6_addRandomStops_b123  (f_X6_addRandomStops_h123  n) M dr x1 x3 x4 x5 x7 x8 x9
def f_X6_addRandomStops_b91 (M : SL) (dr : Int64) (x1 : Int32) (x2 : Int32) (x3 : Int32) (x4 : Int32) (x5 : Int32) (s1 : Int32) : Option (Int32 × SL × Int64) :=
  bd2 (f_X6_refused M s1) (fun r1 M2 => (if r1 = 0 then bd (f_X6_saves M2) (fun M5 => lt_ ((x2 : Int32).toInt64) (fun w7 => lt_ (w7) (fun dr8 => lt_ (M5 1 1) (fun v9 => f_X6_addRandomStops_h123 fuel M5 dr8 x1 x3 x4 x5 v9 1 0)))) else  some (0, M2, dr)))
def f_X6_addRandomStops_b48 (M : SL) (dr : Int64) (x1 : Int32) (x2 : Int32) (x3 : Int32) (x4 : Int32) (x5 : Int32) (s0 : Int32) : Option (Int32 × SL × Int64) :=
  bd (f_X6_isMachine M x1) (fun r1 => (if ¬ r1 = 0 then  (if ¬ s0 = 0 then lt_ (M 1 2) (fun v5 => lt_ ((v5 + x5 : Int32)) (fun v6 => (if v6 ≤ 40 then  f_X6_addRandomStops_b91 M dr x1 x2 x3 x4 x5 0 else  f_X6_addRandomStops_b91 M dr x1 x2 x3 x4 x5 3))) else  f_X6_addRandomStops_b91 M dr x1 x2 x3 x4 x5 2) else  f_X6_addRandomStops_b91 M dr x1 x2 x3 x4 x5 1))
def f_X6_addRandomStops_b47 (M : SL) (dr : Int64) (x1 : Int32) (x2 : Int32) (x3 : Int32) (x4 : Int32) (x5 : Int32) : Option (Int32 × SL × Int64) :=
   f_X6_addRandomStops_b48 M dr x1 x2 x3 x4 x5 0
def f_X6_addRandomStops (M : SL) (dr : Int64) (x1 : Int32) (x2 : Int32) (x3 : Int32) (x4 : Int32) (x5 : Int32) : Option (Int32 × SL × Int64) :=
  bd (f_X6_within x2 0 999999) (fun r1 => (if r1 = 0 then  f_X6_addRandomStops_b47 M dr x1 x2 x3 x4 x5 else bd (f_X6_within x3 1 500) (fun r4 => (if r4 = 0 then  f_X6_addRandomStops_b47 M dr x1 x2 x3 x4 x5 else bd (f_X6_within x4 1 100) (fun r7 => (if r7 = 0 then  f_X6_addRandomStops_b47 M dr x1 x2 x3 x4 x5 else bd (f_X6_within x5 1 40) (fun r10 => (if r10 = 0 then  f_X6_addRandomStops_b47 M dr x1 x2 x3 x4 x5 else  f_X6_addRandomStops_b48 M dr x1 x2 x3 x4 x5 1))))))))
def f_X6_clearStops_b96 (K20 : SL → Int32 → Int32 → Int32 → Option (Int32 × SL)) (M : SL) (x1 : Int32) (x2 : Int32) (x3 : Int32) : Option (Int32 × SL) :=
  lt_ (x3 + 1) (fun z1 => K20 M x1 x2 z1)
def f_X6_clearStops_b51 (K20 : SL → Int32 → Int32 → Int32 → Option (Int32 × SL)) (K51 : SL → Int32 → Int32 → Int32 → Int32 → Option (Int32 × SL)) (M : SL) (x1 : Int32) (x2 : Int32) (x3 : Int32) (x4 : Int32) : Option (Int32 × SL) :=
   (if 3 ≤ x4 then lt_ (x2 + 1) (fun z2 => f_X6_clearStops_b96 K20 M x1 z2 x3) else lt_ ((3 * x2 : Int32)) (fun v3 => lt_ ((131 + v3 : Int32)) (fun v4 => lt_ ((v4 + x4 : Int32)) (fun v5 => lt_ ((3 * x3 : Int32)) (fun v6 => lt_ ((131 + v6 : Int32)) (fun v7 => lt_ ((v7 + x4 : Int32)) (fun v8 => gd (chk v8 251) ( lt_ (M 1 v8.toNatClampNeg) (fun v10 => gd (chk v5 251) ( lt_ (up2 M 1 v5.toNatClampNeg v10) (fun M12 => lt_ (x4 + 1) (fun z13 => K51 M12 x1 x2 x3 z13))))))))))))
def f_X6_clearStops_h51 (K20 : SL → Int32 → Int32 → Int32 → Option (Int32 × SL)) : Nat → SL → Int32 → Int32 → Int32 → Int32 → Option (Int32 × SL)
  | 0, _, _, _, _, _ => none
  | n + 1, M, x1, x2, x3, x4 => f_X6_clearStops_b51 K20 (f_X6_clearStops_h51 K20 n) M x1 x2 x3 x4
def f_X6_clearStops_b20 (K20 : SL → Int32 → Int32 → Int32 → Option (Int32 × SL)) (M : SL) (x1 : Int32) (x2 : Int32) (x3 : Int32) : Option (Int32 × SL) :=
   (if x1 ≤ x3 then lt_ (up2 M 1 2 x2) (fun M2 => lt_ ((x1 - x2 : Int32)) (fun v3 => some (v3, M2))) else lt_ ((3 * x3 : Int32)) (fun v4 => lt_ ((131 + v4 : Int32)) (fun v5 => lt_ ((v5 + 1 : Int32)) (fun v6 => gd (chk v6 251) ( lt_ (M 1 v6.toNatClampNeg) (fun v8 => lt_ (M 1 1) (fun v9 => (if v9 < v8 then  f_X6_clearStops_b96 K20 M x1 x2 x3 else  f_X6_clearStops_h51 K20 fuel M x1 x2 x3 0))))))))
def f_X6_clearStops_h20 : Nat → SL → Int32 → Int32 → Int32 → Option (Int32 × SL)
  | 0, _, _, _, _ => none
  | n + 1, M, x1, x2, x3 => f_X6_clearStops_b20  (f_X6_clearStops_h20  n) M x1 x2 x3
def f_X6_clearStops (M : SL) : Option (Int32 × SL) :=
  lt_ (up2 M 0 4 0) (fun M1 => bd (f_X6_saves M1) (fun M2 => lt_ (M2 1 2) (fun v4 => f_X6_clearStops_h20 fuel M2 v4 0 0)))
def f_X6_size (M : SL) (x1 : Int32) : Option (Int32 × SL) :=
  lt_ (up2 M 0 4 0) (fun M1 => (if x1 = 0 then lt_ (M1 1 0) (fun v3 => some (v3, M1)) else lt_ (M1 1 2) (fun v4 => some (v4, M1))))
def f_X6_stop_b35 (M : SL) (x1 : Int32) (x2 : Int32) (s1 : Int32) : Option (Int32 × SL) :=
  bd2 (f_X6_refused M s1) (fun r1 M2 => (if r1 = 0 then lt_ ((3 * x1 : Int32)) (fun v5 => lt_ ((131 + v5 : Int32)) (fun v6 => lt_ ((v6 + x2 : Int32)) (fun v7 => gd (chk v7 251) ( lt_ (M2 1 v7.toNatClampNeg) (fun v9 => some (v9, M2)))))) else  some (0, M2)))
def f_X6_stop (M : SL) (x1 : Int32) (x2 : Int32) : Option (Int32 × SL) :=
  lt_ (M 1 2) (fun v1 => lt_ ((v1 - 1 : Int32)) (fun v2 => bd (f_X6_within x1 0 v2) (fun r3 => (if ¬ r3 = 0 then bd (f_X6_within x2 0 2) (fun r6 => (if r6 = 0 then  f_X6_stop_b35 M x1 x2 2 else  f_X6_stop_b35 M x1 x2 0)) else  f_X6_stop_b35 M x1 x2 1))))
def f_X6_laysDown_b124 (K22 : SL → Int32 → Int32 → Int32 → Option (SL)) (M : SL) (x1 : Int32) (x2 : Int32) (x3 : Int32) : Option (SL) :=
  lt_ (x3 + 1) (fun z1 => K22 M x1 x2 z1)
def f_X6_laysDown_b81 (K22 : SL → Int32 → Int32 → Int32 → Option (SL)) (K81 : SL → Int32 → Int32 → Int32 → Int32 → Int32 → Option (SL)) (M : SL) (x1 : Int32) (x2 : Int32) (x3 : Int32) (x5 : Int32) (x6 : Int32) : Option (SL) :=
   (if x5 ≤ x6 then  f_X6_laysDown_b124 K22 M x1 x2 x3 else  (if x2 < x6 then  f_X6_laysDown_b124 K22 M x1 x2 x3 else gd (chk x6 10001) ( lt_ (M 5 x6.toNatClampNeg) (fun v4 => lt_ ((3 * x3 : Int32)) (fun v5 => lt_ ((131 + v5 : Int32)) (fun v6 => gd (chk v6 251) ( lt_ (M 1 v6.toNatClampNeg) (fun v8 => lt_ ((1 <<< (v8 &&& 31) : Int32)) (fun v9 => lt_ ((v4 ||| v9 : Int32)) (fun v10 => lt_ (up2 M 5 x6.toNatClampNeg v10) (fun M11 => lt_ (x6 + 1) (fun z12 => K81 M11 x1 x2 x3 x5 z12))))))))))))
def f_X6_laysDown_h81 (K22 : SL → Int32 → Int32 → Int32 → Option (SL)) : Nat → SL → Int32 → Int32 → Int32 → Int32 → Int32 → Option (SL)
  | 0, _, _, _, _, _, _ => none
  | n + 1, M, x1, x2, x3, x5, x6 => f_X6_laysDown_b81 K22 (f_X6_laysDown_h81 K22 n) M x1 x2 x3 x5 x6
def f_X6_laysDown_b79 (K22 : SL → Int32 → Int32 → Int32 → Option (SL)) (M : SL) (x1 : Int32) (x2 : Int32) (x3 : Int32) (x5 : Int32) (s0 : Int32) : Option (SL) :=
   f_X6_laysDown_h81 K22 fuel M x1 x2 x3 x5 s0
def f_X6_laysDown_b22 (K22 : SL → Int32 → Int32 → Int32 → Option (SL)) (M : SL) (x1 : Int32) (x2 : Int32) (x3 : Int32) : Option (SL) :=
  lt_ (M 1 2) (fun v1 => (if v1 ≤ x3 then  some M else lt_ ((3 * x3 : Int32)) (fun v3 => lt_ ((131 + v3 : Int32)) (fun v4 => lt_ ((v4 + 1 : Int32)) (fun v5 => gd (chk v5 251) ( lt_ (M 1 v5.toNatClampNeg) (fun v7 => lt_ ((3 * x3 : Int32)) (fun v8 => lt_ ((131 + v8 : Int32)) (fun v9 => lt_ ((v9 + 2 : Int32)) (fun v10 => gd (chk v10 251) ( lt_ (M 1 v10.toNatClampNeg) (fun v12 => lt_ ((v7 + v12 : Int32)) (fun v13 => (if v7 ≤ x1 then  f_X6_laysDown_b79 K22 M x1 x2 x3 v13 x1 else  f_X6_laysDown_b79 K22 M x1 x2 x3 v13 v7))))))))))))))
def f_X6_laysDown_h22 : Nat → SL → Int32 → Int32 → Int32 → Option (SL)
  | 0, _, _, _, _ => none
  | n + 1, M, x1, x2, x3 => f_X6_laysDown_b22  (f_X6_laysDown_h22  n) M x1 x2 x3
def f_X6_laysDown_b2 (K2 : SL → Int32 → Int32 → Int32 → Option (SL)) (M : SL) (x1 : Int32) (x2 : Int32) (x3 : Int32) : Option (SL) :=
   (if x2 < x3 then  f_X6_laysDown_h22 fuel M x1 x2 0 else gd (chk x3 10001) ( lt_ (up2 M 5 x3.toNatClampNeg 0) (fun M3 => lt_ (x3 + 1) (fun z4 => K2 M3 x1 x2 z4))))
def f_X6_laysDown_h2 : Nat → SL → Int32 → Int32 → Int32 → Option (SL)
  | 0, _, _, _, _ => none
  | n + 1, M, x1, x2, x3 => f_X6_laysDown_b2  (f_X6_laysDown_h2  n) M x1 x2 x3
def f_X6_laysDown (M : SL) (x1 : Int32) (x2 : Int32) : Option (SL) :=
   f_X6_laysDown_h2 fuel M x1 x2 x1
def f_X6_isDown (M : SL) (x1 : Int32) (x2 : Int32) : Option (Int32) :=
  gd (chk x2 10001) ( lt_ (M 5 x2.toNatClampNeg) (fun v2 => lt_ ((v2 >>> (x1 &&& 31) : Int32)) (fun v3 => lt_ ((v3 &&& 1 : Int32)) (fun v4 => (if ¬ v4 = 1 then  some (0 : Int32) else  some (1 : Int32))))))
def f_X6_cycle (M : SL) (x1 : Int32) : Option (Int32) :=
  lt_ ((x1 + 7 : Int32)) (fun v1 => gd (chk v1 251) ( lt_ (M 1 v1.toNatClampNeg) (fun v3 => (if ¬ v3 = 1 then lt_ ((x1 + 0 : Int32)) (fun v5 => gd (chk v5 251) ( lt_ (M 1 v5.toNatClampNeg) (fun v7 => some v7))) else lt_ ((x1 + 1 : Int32)) (fun v8 => gd (chk v8 251) ( lt_ (M 1 v8.toNatClampNeg) (fun v10 => some v10)))))))
def f_X6_speeds_b43 (M : SL) (x2 : Int32) (x3 : Int32) (s0 : Int32) : Option (SL) :=
  lt_ ((x2 + 7 : Int32)) (fun v1 => (if s0 = 0 then lt_ ((x2 + 3 : Int32)) (fun v3 => gd (chk v3 251) ( lt_ (M 1 v3.toNatClampNeg) (fun v5 => (if x3 < v5 then lt_ ((x2 + 7 : Int32)) (fun v7 => gd (chk v7 251) ( lt_ (M 1 v7.toNatClampNeg) (fun v9 => gd (chk v1 251) ( lt_ (up2 M 1 v1.toNatClampNeg v9) (fun M11 => some M11))))) else gd (chk v1 251) ( lt_ (up2 M 1 v1.toNatClampNeg 0) (fun M13 => some M13)))))) else gd (chk v1 251) ( lt_ (up2 M 1 v1.toNatClampNeg 1) (fun M15 => some M15))))
def f_X6_speeds_b38 (M : SL) (x2 : Int32) (x3 : Int32) : Option (SL) :=
   f_X6_speeds_b43 M x2 x3 1
def f_X6_speeds (M : SL) (x1 : Int32) : Option (SL) :=
  bd (f_X6_of x1) (fun r1 => lt_ ((r1 + 5 : Int32)) (fun v3 => gd (chk v3 251) ( lt_ (M 1 v3.toNatClampNeg) (fun v5 => lt_ (M 1 0) (fun v6 => lt_ ((v6 - 1 : Int32)) (fun v7 => (if x1 = v7 then  f_X6_speeds_b38 M r1 v5 else lt_ ((r1 + 2 : Int32)) (fun v9 => gd (chk v9 251) ( lt_ (M 1 v9.toNatClampNeg) (fun v11 => (if v11 < v5 then  f_X6_speeds_b43 M r1 v5 0 else  f_X6_speeds_b38 M r1 v5)))))))))))
def f_X6_leaves_b118 (M : SL) (x3 : Int32) (x5 : Int32) : Option (SL) :=
   (if x5 = 0 then  some M else lt_ ((x3 + 6 : Int32)) (fun v2 => gd (chk v2 251) ( lt_ (up2 M 1 v2.toNatClampNeg (-1)) (fun M4 => lt_ ((x3 + 9 : Int32)) (fun v5 => lt_ ((v5 + 4 : Int32)) (fun v6 => gd (chk v6 251) ( lt_ (M4 1 v6.toNatClampNeg) (fun v8 => lt_ ((v8 + 1 : Int32)) (fun v9 => lt_ (up2 M4 1 v6.toNatClampNeg v9) (fun M10 => some M10))))))))))
def f_X6_leaves_b81 (M : SL) (x3 : Int32) (x5 : Int32) : Option (SL) :=
  lt_ ((x3 + 5 : Int32)) (fun v1 => gd (chk v1 251) ( lt_ (M 1 v1.toNatClampNeg) (fun v3 => lt_ ((x3 + 4 : Int32)) (fun v4 => gd (chk v4 251) ( lt_ (M 1 v4.toNatClampNeg) (fun v6 => (if v6 ≤ v3 then  f_X6_leaves_b118 M x3 0 else lt_ ((x3 + 5 : Int32)) (fun v8 => gd (chk v8 251) ( lt_ (M 1 v8.toNatClampNeg) (fun v10 => lt_ ((v10 + 1 : Int32)) (fun v11 => lt_ (up2 M 1 v8.toNatClampNeg v11) (fun M12 => f_X6_leaves_b118 M12 x3 x5))))))))))))
def f_X6_leaves (M : SL) (x1 : Int32) (x2 : Int32) : Option (SL) :=
  bd (f_X6_of x1) (fun r1 => lt_ ((r1 + 16 : Int32)) (fun v3 => lt_ (M 1 0) (fun v4 => lt_ ((v4 - 1 : Int32)) (fun v5 => (if v5 ≤ x1 then  f_X6_leaves_b118 M r1 1 else lt_ ((r1 + 5 : Int32)) (fun v7 => gd (chk v7 251) ( lt_ (M 1 v7.toNatClampNeg) (fun v9 => (if ¬ v9 = 0 then  f_X6_leaves_b81 M r1 1 else lt_ ((v3 + 6 : Int32)) (fun v11 => gd (chk v11 251) ( lt_ (M 1 v11.toNatClampNeg) (fun v13 => (if ¬ v13 = (-1) then  f_X6_leaves_b81 M r1 1 else lt_ ((x1 + 1 : Int32)) (fun v15 => bd (f_X6_isDown M v15 x2) (fun r16 => (if ¬ r16 = 0 then  f_X6_leaves_b81 M r1 1 else lt_ ((v3 + 6 : Int32)) (fun v19 => bd (f_X6_cycle M v3) (fun r20 => gd (chk v19 251) ( lt_ (up2 M 1 v19.toNatClampNeg r20) (fun M23 => f_X6_leaves_b118 M23 r1 1))))))))))))))))))))
def f_X6_takes_b28 (M : SL) (x1 : Int32) (x2 : Int32) (s0 : Int32) : Option (SL) :=
   (if s0 = 0 then  some M else lt_ ((x2 + 6 : Int32)) (fun v2 => bd (f_X6_cycle M x2) (fun r3 => gd (chk v2 251) ( lt_ (up2 M 1 v2.toNatClampNeg r3) (fun M6 => (if x1 ≤ 0 then  some M6 else lt_ ((x2 - 16 : Int32)) (fun v8 => lt_ ((v8 + 5 : Int32)) (fun v9 => gd (chk v9 251) ( lt_ (M6 1 v9.toNatClampNeg) (fun v11 => lt_ ((v11 - 1 : Int32)) (fun v12 => lt_ (up2 M6 1 v9.toNatClampNeg v12) (fun M13 => some M13))))))))))))
def f_X6_takes_b23 (M : SL) (x1 : Int32) (x2 : Int32) : Option (SL) :=
   f_X6_takes_b28 M x1 x2 1
def f_X6_takes (M : SL) (x1 : Int32) : Option (SL) :=
  bd (f_X6_of x1) (fun r1 => (if x1 = 0 then  f_X6_takes_b23 M x1 r1 else lt_ ((r1 - 16 : Int32)) (fun v4 => lt_ ((v4 + 5 : Int32)) (fun v5 => gd (chk v5 251) ( lt_ (M 1 v5.toNatClampNeg) (fun v7 => (if v7 ≤ 0 then  f_X6_takes_b28 M x1 r1 0 else  f_X6_takes_b23 M x1 r1)))))))
def f_X6_turns_b57 (M : SL) (x1 : Int32) (x2 : Int32) (x3 : Int32) : Option (Int32 × SL) :=
  lt_ ((x3 + 6 : Int32)) (fun v1 => gd (chk v1 251) ( lt_ (M 1 v1.toNatClampNeg) (fun v3 => (if v3 ≤ 0 then lt_ ((x3 + 6 : Int32)) (fun v5 => gd (chk v5 251) ( lt_ (M 1 v5.toNatClampNeg) (fun v7 => (if ¬ v7 = 0 then  some (2, M) else  some (3, M))))) else lt_ ((x3 + 6 : Int32)) (fun v9 => gd (chk v9 251) ( lt_ (M 1 v9.toNatClampNeg) (fun v11 => lt_ ((v11 - 1 : Int32)) (fun v12 => lt_ (up2 M 1 v9.toNatClampNeg v12) (fun M13 => lt_ ((x3 + 6 : Int32)) (fun v14 => gd (chk v14 251) ( lt_ (M13 1 v14.toNatClampNeg) (fun v16 => (if ¬ v16 = 0 then  some (1, M13) else bd (f_X6_leaves M13 x1 x2) (fun M18 => some (1, M18)))))))))))))))
def f_X6_turns_b39 (M : SL) (x1 : Int32) (x2 : Int32) (x3 : Int32) : Option (Int32 × SL) :=
  lt_ ((x3 + 6 : Int32)) (fun v1 => gd (chk v1 251) ( lt_ (M 1 v1.toNatClampNeg) (fun v3 => (if ¬ v3 = (-1) then  f_X6_turns_b57 M x1 x2 x3 else bd (f_X6_takes M x1) (fun M5 => f_X6_turns_b57 M5 x1 x2 x3)))))
def f_X6_turns (M : SL) (x1 : Int32) (x2 : Int32) : Option (Int32 × SL) :=
  bd (f_X6_of x1) (fun r1 => bd (f_X6_speeds M x1) (fun M3 => bd (f_X6_isDown M3 x1 x2) (fun r5 => (if r5 = 0 then lt_ ((r1 + 6 : Int32)) (fun v8 => gd (chk v8 251) ( lt_ (M3 1 v8.toNatClampNeg) (fun v10 => (if ¬ v10 = 0 then  f_X6_turns_b39 M3 x1 x2 r1 else bd (f_X6_leaves M3 x1 x2) (fun M12 => f_X6_turns_b39 M12 x1 x2 r1))))) else  some (4, M3)))))
def f_X6_passes_b149 (K76 : SL → Int32 → Option (SL)) (M : SL) (x1 : Int32) (s1 : Int32) (s2 : Int32) (s3 : Int32) : Option (SL) :=
  lt_ ((s2 + s3 : Int32)) (fun v1 => gd (chk s1 251) ( lt_ (up2 M 1 s1.toNatClampNeg v1) (fun M3 => lt_ (x1 + 1) (fun z4 => K76 M3 z4))))
def f_X6_passes_b76 (K76 : SL → Int32 → Option (SL)) (M : SL) (x1 : Int32) : Option (SL) :=
  lt_ (M 1 0) (fun v1 => lt_ ((v1 - 1 : Int32)) (fun v2 => (if v2 ≤ x1 then  some M else bd (f_X6_of x1) (fun r4 => lt_ ((r4 + 15 : Int32)) (fun v6 => gd (chk v6 251) ( lt_ (M 1 v6.toNatClampNeg) (fun v8 => lt_ ((r4 + 5 : Int32)) (fun v9 => gd (chk v9 251) ( lt_ (M 1 v9.toNatClampNeg) (fun v11 => lt_ ((v8 + v11 : Int32)) (fun v12 => lt_ (up2 M 1 v6.toNatClampNeg v12) (fun M13 => lt_ ((r4 + 9 : Int32)) (fun v14 => lt_ ((v14 + 5 : Int32)) (fun v15 => gd (chk v15 251) ( lt_ (M13 1 v15.toNatClampNeg) (fun v17 => lt_ ((r4 + 5 : Int32)) (fun v18 => gd (chk v18 251) ( lt_ (M13 1 v18.toNatClampNeg) (fun v20 => lt_ ((r4 + 4 : Int32)) (fun v21 => gd (chk v21 251) ( lt_ (M13 1 v21.toNatClampNeg) (fun v23 => (if v20 < v23 then  f_X6_passes_b149 K76 M13 x1 v15 v17 0 else  f_X6_passes_b149 K76 M13 x1 v15 v17 1)))))))))))))))))))))))
def f_X6_passes_h76 : Nat → SL → Int32 → Option (SL)
  | 0, _, _ => none
  | n + 1, M, x1 => f_X6_passes_b76  (f_X6_passes_h76  n) M x1
def f_X6_passes_b19 (K19 : SL → Int32 → Option (SL)) (M : SL) (x1 : Int32) : Option (SL) :=
   (if x1 < 0 then  f_X6_passes_h76 fuel M 0 else lt_ (M 1 1) (fun v2 => bd2 (f_X6_turns M x1 v2) (fun r3 M4 => bd (f_X6_of x1) (fun r6 => lt_ ((r6 + 8 : Int32)) (fun v8 => gd (chk v8 251) ( lt_ (up2 M4 1 v8.toNatClampNeg r3) (fun M10 => bd (f_X6_of x1) (fun r11 => lt_ ((r11 + 9 : Int32)) (fun v13 => lt_ ((v13 + r3 : Int32)) (fun v14 => lt_ ((v14 - 1 : Int32)) (fun v15 => gd (chk v15 251) ( lt_ (M10 1 v15.toNatClampNeg) (fun v17 => lt_ ((v17 + 1 : Int32)) (fun v18 => lt_ (up2 M10 1 v15.toNatClampNeg v18) (fun M19 => lt_ (x1 + (-1)) (fun z20 => K19 M19 z20))))))))))))))))
def f_X6_passes_h19 : Nat → SL → Int32 → Option (SL)
  | 0, _, _ => none
  | n + 1, M, x1 => f_X6_passes_b19  (f_X6_passes_h19  n) M x1
def f_X6_passes (M : SL) : Option (SL) :=
  lt_ (M 1 1) (fun v1 => lt_ ((v1 + 1 : Int32)) (fun v2 => lt_ (up2 M 1 1 v2) (fun M3 => lt_ (M3 1 0) (fun v4 => lt_ ((v4 - 1 : Int32)) (fun v5 => f_X6_passes_h19 fuel M3 v5)))))
def f_X6_made (M : SL) : Option (Int32) :=
  lt_ (M 1 0) (fun v1 => (if ¬ v1 = 0 then lt_ (M 1 0) (fun v3 => lt_ ((v3 - 1 : Int32)) (fun v4 => bd (f_X6_of v4) (fun r5 => lt_ ((r5 + 9 : Int32)) (fun v7 => lt_ ((v7 + 4 : Int32)) (fun v8 => gd (chk v8 251) ( lt_ (M 1 v8.toNatClampNeg) (fun v10 => some v10))))))) else  some (0 : Int32)))
def f_X6_goes_b27 (K27 : SL → Int32 → Int32 → Int32 → Option (Int32 × SL)) (M : SL) (x1 : Int32) (x2 : Int32) (x3 : Int32) : Option (Int32 × SL) :=
   (if x1 ≤ x3 then bd (f_X6_made M) (fun r2 => lt_ ((r2 - x2 : Int32)) (fun v4 => some (v4, M))) else bd (f_X6_passes M) (fun M5 => lt_ (x3 + 1) (fun z7 => K27 M5 x1 x2 z7)))
def f_X6_goes_h27 : Nat → SL → Int32 → Int32 → Int32 → Option (Int32 × SL)
  | 0, _, _, _, _ => none
  | n + 1, M, x1, x2, x3 => f_X6_goes_b27  (f_X6_goes_h27  n) M x1 x2 x3
def f_X6_goes (M : SL) (x1 : Int32) : Option (Int32 × SL) :=
  bd (f_X6_made M) (fun r1 => lt_ (M 1 1) (fun v3 => lt_ ((v3 + 1 : Int32)) (fun v4 => lt_ (M 1 1) (fun v5 => lt_ ((v5 + x1 : Int32)) (fun v6 => bd (f_X6_laysDown M v4 v6) (fun M7 => f_X6_goes_h27 fuel M7 x1 r1 0))))))
def f_X6_run_b44 (M : SL) (x1 : Int32) (s1 : Int32) : Option (Int32 × SL) :=
  bd2 (f_X6_refused M s1) (fun r1 M2 => (if r1 = 0 then bd (f_X6_saves M2) (fun M5 => bd2 (f_X6_goes M5 x1) (fun r7 M8 => some (r7, M8))) else  some (0, M2)))
def f_X6_run_b39 (M : SL) (x1 : Int32) : Option (Int32 × SL) :=
   f_X6_run_b44 M x1 2
def f_X6_run (M : SL) (x1 : Int32) : Option (Int32 × SL) :=
  bd (f_X6_within x1 0 2000) (fun r1 => (if ¬ r1 = 0 then lt_ (M 1 0) (fun v4 => (if v4 = 0 then  f_X6_run_b39 M x1 else lt_ (M 1 1) (fun v6 => lt_ ((v6 + x1 : Int32)) (fun v7 => (if v7 ≤ 10000 then  f_X6_run_b44 M x1 0 else  f_X6_run_b39 M x1))))) else  f_X6_run_b44 M x1 1))
def f_X6_empties_b26 (K9 : SL → Int32 → Option (SL)) (K26 : SL → Int32 → Int32 → Int32 → Option (SL)) (M : SL) (x1 : Int32) (x2 : Int32) (x3 : Int32) : Option (SL) :=
   (if 16 ≤ x3 then lt_ ((x2 + 6 : Int32)) (fun v2 => gd (chk v2 251) ( lt_ (up2 M 1 v2.toNatClampNeg (-1)) (fun M4 => lt_ ((x2 + 7 : Int32)) (fun v5 => gd (chk v5 251) ( lt_ (up2 M4 1 v5.toNatClampNeg 1) (fun M7 => lt_ (x1 + 1) (fun z8 => K9 M7 z8))))))) else lt_ ((x2 + x3 : Int32)) (fun v9 => gd (chk v9 251) ( lt_ (up2 M 1 v9.toNatClampNeg 0) (fun M11 => lt_ (x3 + 1) (fun z12 => K26 M11 x1 x2 z12)))))
def f_X6_empties_h26 (K9 : SL → Int32 → Option (SL)) : Nat → SL → Int32 → Int32 → Int32 → Option (SL)
  | 0, _, _, _, _ => none
  | n + 1, M, x1, x2, x3 => f_X6_empties_b26 K9 (f_X6_empties_h26 K9 n) M x1 x2 x3
def f_X6_empties_b9 (K9 : SL → Int32 → Option (SL)) (M : SL) (x1 : Int32) : Option (SL) :=
  lt_ (M 1 0) (fun v1 => (if v1 ≤ x1 then  some M else bd (f_X6_of x1) (fun r3 => f_X6_empties_h26 K9 fuel M x1 r3 5)))
def f_X6_empties_h9 : Nat → SL → Int32 → Option (SL)
  | 0, _, _ => none
  | n + 1, M, x1 => f_X6_empties_b9  (f_X6_empties_h9  n) M x1
def f_X6_empties (M : SL) : Option (SL) :=
  lt_ (up2 M 1 1 0) (fun M1 => f_X6_empties_h9 fuel M1 0)
def f_X6_restart (M : SL) : Option (Int32 × SL) :=
  lt_ (up2 M 0 4 0) (fun M1 => bd (f_X6_saves M1) (fun M2 => lt_ (M2 1 1) (fun v4 => bd (f_X6_empties M2) (fun M5 => some (v4, M5)))))
def f_X6_now (M : SL) : Option (Int32 × SL) :=
  lt_ (up2 M 0 4 0) (fun M1 => lt_ (M1 1 1) (fun v2 => some (v2, M1)))
def f_X6_output (M : SL) : Option (Int32 × SL) :=
  lt_ (up2 M 0 4 0) (fun M1 => bd (f_X6_made M1) (fun r2 => some (r2, M1)))
def f_X6_setting_b27 (M : SL) (x1 : Int32) (x2 : Int32) (s1 : Int32) : Option (Int32 × SL) :=
  bd2 (f_X6_refused M s1) (fun r1 M2 => (if r1 = 0 then bd (f_X6_of x1) (fun r5 => lt_ ((r5 + x2 : Int32)) (fun v7 => gd (chk v7 251) ( lt_ (M2 1 v7.toNatClampNeg) (fun v9 => some (v9, M2))))) else  some (0, M2)))
def f_X6_setting (M : SL) (x1 : Int32) (x2 : Int32) : Option (Int32 × SL) :=
  bd (f_X6_isMachine M x1) (fun r1 => (if ¬ r1 = 0 then bd (f_X6_within x2 0 4) (fun r4 => (if r4 = 0 then  f_X6_setting_b27 M x1 x2 2 else  f_X6_setting_b27 M x1 x2 0)) else  f_X6_setting_b27 M x1 x2 1))
def f_X6_tellMachine (M : SL) (x1 : Int32) (x2 : Int32) : Option (Int32) :=
  bd (f_X6_of x1) (fun r1 => lt_ ((r1 + 5 : Int32)) (fun v3 => lt_ ((v3 + x2 : Int32)) (fun v4 => gd (chk v4 251) ( lt_ (M 1 v4.toNatClampNeg) (fun v6 => some v6)))))
def f_X6_machine_b27 (M : SL) (x1 : Int32) (x2 : Int32) (s1 : Int32) : Option (Int32 × SL) :=
  bd2 (f_X6_refused M s1) (fun r1 M2 => (if r1 = 0 then bd (f_X6_tellMachine M2 x1 x2) (fun r5 => some (r5, M2)) else  some (0, M2)))
def f_X6_machine (M : SL) (x1 : Int32) (x2 : Int32) : Option (Int32 × SL) :=
  bd (f_X6_isMachine M x1) (fun r1 => (if ¬ r1 = 0 then bd (f_X6_within x2 0 3) (fun r4 => (if r4 = 0 then  f_X6_machine_b27 M x1 x2 2 else  f_X6_machine_b27 M x1 x2 0)) else  f_X6_machine_b27 M x1 x2 1))
def f_X6_count_b27 (M : SL) (x1 : Int32) (x2 : Int32) (s1 : Int32) : Option (Int32 × SL) :=
  bd2 (f_X6_refused M s1) (fun r1 M2 => (if r1 = 0 then bd (f_X6_of x1) (fun r5 => lt_ ((r5 + 9 : Int32)) (fun v7 => lt_ ((v7 + x2 : Int32)) (fun v8 => gd (chk v8 251) ( lt_ (M2 1 v8.toNatClampNeg) (fun v10 => some (v10, M2)))))) else  some (0, M2)))
def f_X6_count (M : SL) (x1 : Int32) (x2 : Int32) : Option (Int32 × SL) :=
  bd (f_X6_isMachine M x1) (fun r1 => (if ¬ r1 = 0 then bd (f_X6_within x2 0 5) (fun r4 => (if r4 = 0 then  f_X6_count_b27 M x1 x2 2 else  f_X6_count_b27 M x1 x2 0)) else  f_X6_count_b27 M x1 x2 1))
def f_X6_bottles_b47 (K4 : SL → Int32 → Int32 → Option (Int32)) (M : SL) (x2 : Int32) (s0 : Int32) (s1 : Int32) (s2 : Int32) : Option (Int32) :=
  lt_ ((s1 + s2 : Int32)) (fun v1 => lt_ ((s0 + v1 : Int32)) (fun v2 => lt_ (x2 + 1) (fun z3 => K4 M v2 z3)))
def f_X6_bottles_b4 (K4 : SL → Int32 → Int32 → Option (Int32)) (M : SL) (x1 : Int32) (x2 : Int32) : Option (Int32) :=
  lt_ (M 1 0) (fun v1 => (if v1 ≤ x2 then  some x1 else bd (f_X6_of x2) (fun r3 => lt_ ((r3 + 5 : Int32)) (fun v5 => gd (chk v5 251) ( lt_ (M 1 v5.toNatClampNeg) (fun v7 => bd (f_X6_of x2) (fun r8 => lt_ ((r8 + 6 : Int32)) (fun v10 => gd (chk v10 251) ( lt_ (M 1 v10.toNatClampNeg) (fun v12 => (if ¬ v12 = (-1) then  f_X6_bottles_b47 K4 M x2 x1 v7 1 else  f_X6_bottles_b47 K4 M x2 x1 v7 0)))))))))))
def f_X6_bottles_h4 : Nat → SL → Int32 → Int32 → Option (Int32)
  | 0, _, _, _ => none
  | n + 1, M, x1, x2 => f_X6_bottles_b4  (f_X6_bottles_h4  n) M x1 x2
def f_X6_bottles (M : SL) : Option (Int32) :=
   f_X6_bottles_h4 fuel M 0 0
def f_X6_inside (M : SL) : Option (Int32 × SL) :=
  lt_ (up2 M 0 4 0) (fun M1 => bd (f_X6_bottles M1) (fun r2 => some (r2, M1)))
def f_X6_most_b27 (K5 : SL → Int32 → Int32 → Int32 → Int32 → Option (Int32)) (M : SL) (x1 : Int32) (x2 : Int32) (x4 : Int32) (s0 : Int32) (s1 : Int32) : Option (Int32) :=
  lt_ ((s0 + s1 : Int32)) (fun v1 => lt_ (x4 + 1) (fun z2 => K5 M x1 x2 v1 z2))
def f_X6_most_b5 (K5 : SL → Int32 → Int32 → Int32 → Int32 → Option (Int32)) (M : SL) (x1 : Int32) (x2 : Int32) (x3 : Int32) (x4 : Int32) : Option (Int32) :=
   (if x2 < x4 then bd (f_X6_of x1) (fun r2 => lt_ ((r2 + 1 : Int32)) (fun v4 => gd (chk v4 251) ( lt_ (M 1 v4.toNatClampNeg) (fun v6 => gd (nz v6) ( lt_ ((x3 / v6 : Int32)) (fun v8 => some v8)))))) else bd (f_X6_isDown M x1 x4) (fun r9 => (if r9 = 0 then  f_X6_most_b27 K5 M x1 x2 x4 x3 1 else  f_X6_most_b27 K5 M x1 x2 x4 x3 0)))
def f_X6_most_h5 : Nat → SL → Int32 → Int32 → Int32 → Int32 → Option (Int32)
  | 0, _, _, _, _, _ => none
  | n + 1, M, x1, x2, x3, x4 => f_X6_most_b5  (f_X6_most_h5  n) M x1 x2 x3 x4
def f_X6_most (M : SL) (x1 : Int32) (x2 : Int32) : Option (Int32) :=
   f_X6_most_h5 fuel M x1 x2 0 1
def f_X6_slowestOf_b40 (K10 : SL → Int32 → Int32 → Int32 → Option (Int32 × SL)) (M : SL) (x1 : Int32) (x3 : Int32) (s0 : Int32) : Option (Int32 × SL) :=
  lt_ (x3 + 1) (fun z1 => K10 M x1 s0 z1)
def f_X6_slowestOf_b10 (K10 : SL → Int32 → Int32 → Int32 → Option (Int32 × SL)) (M : SL) (x1 : Int32) (x2 : Int32) (x3 : Int32) : Option (Int32 × SL) :=
  lt_ (M 1 0) (fun v1 => (if v1 ≤ x3 then  some (x2, M) else bd (f_X6_most M x3 x1) (fun r3 => bd (f_X6_most M x2 x1) (fun r5 => (if r5 ≤ r3 then  f_X6_slowestOf_b40 K10 M x1 x3 x2 else  f_X6_slowestOf_b40 K10 M x1 x3 x3)))))
def f_X6_slowestOf_h10 : Nat → SL → Int32 → Int32 → Int32 → Option (Int32 × SL)
  | 0, _, _, _, _ => none
  | n + 1, M, x1, x2, x3 => f_X6_slowestOf_b10  (f_X6_slowestOf_h10  n) M x1 x2 x3
def f_X6_slowestOf (M : SL) (x1 : Int32) : Option (Int32 × SL) :=
  bd (f_X6_laysDown M 1 x1) (fun M1 => f_X6_slowestOf_h10 fuel M1 x1 0 1)
def f_X6_refusedLimit_b30 (M : SL) (s1 : Int32) : Option (Int32 × SL) :=
  bd2 (f_X6_refused M s1) (fun r1 M2 => gd (isB r1) ( some (r1, M2)))
def f_X6_refusedLimit (M : SL) (x1 : Int32) : Option (Int32 × SL) :=
  bd (f_X6_within x1 1 10000) (fun r1 => (if ¬ r1 = 0 then lt_ (M 1 0) (fun v4 => (if ¬ v4 = 0 then  f_X6_refusedLimit_b30 M 0 else  f_X6_refusedLimit_b30 M 2)) else  f_X6_refusedLimit_b30 M 1))
def f_X6_bound (M : SL) (x1 : Int32) : Option (Int32 × SL) :=
  bd2 (f_X6_refusedLimit M x1) (fun r1 M2 => (if r1 = 0 then bd2 (f_X6_slowestOf M2 x1) (fun r5 M6 => bd (f_X6_most M6 r5 x1) (fun r8 => some (r8, M6))) else  some (0, M2)))
def f_X6_slowest (M : SL) (x1 : Int32) : Option (Int32 × SL) :=
  bd2 (f_X6_refusedLimit M x1) (fun r1 M2 => (if r1 = 0 then bd2 (f_X6_slowestOf M2 x1) (fun r5 M6 => some (r5, M6)) else  some (0, M2)))
def f_X6_idle (M : SL) (x1 : Int32) : Option (Int32) :=
  bd (f_X6_of x1) (fun r1 => lt_ ((r1 + 9 : Int32)) (fun v3 => lt_ ((v3 + 2 : Int32)) (fun v4 => lt_ ((v4 - 1 : Int32)) (fun v5 => gd (chk v5 251) ( lt_ (M 1 v5.toNatClampNeg) (fun v7 => bd (f_X6_of x1) (fun r8 => lt_ ((r8 + 9 : Int32)) (fun v10 => lt_ ((v10 + 3 : Int32)) (fun v11 => lt_ ((v11 - 1 : Int32)) (fun v12 => gd (chk v12 251) ( lt_ (M 1 v12.toNatClampNeg) (fun v14 => lt_ ((v7 + v14 : Int32)) (fun v15 => some v15)))))))))))))
def f_X6_limiting_b55 (K27 : SL → Int32 → Int32 → Option (Int32 × SL)) (M : SL) (x2 : Int32) (s0 : Int32) : Option (Int32 × SL) :=
  lt_ (x2 + 1) (fun z1 => K27 M s0 z1)
def f_X6_limiting_b27 (K27 : SL → Int32 → Int32 → Option (Int32 × SL)) (M : SL) (x1 : Int32) (x2 : Int32) : Option (Int32 × SL) :=
  lt_ (M 1 0) (fun v1 => (if v1 ≤ x2 then  some (x1, M) else bd (f_X6_idle M x2) (fun r3 => bd (f_X6_idle M x1) (fun r5 => (if r5 ≤ r3 then  f_X6_limiting_b55 K27 M x2 x1 else  f_X6_limiting_b55 K27 M x2 x2)))))
def f_X6_limiting_h27 : Nat → SL → Int32 → Int32 → Option (Int32 × SL)
  | 0, _, _, _ => none
  | n + 1, M, x1, x2 => f_X6_limiting_b27  (f_X6_limiting_h27  n) M x1 x2
def f_X6_limiting_b15 (M : SL) (s1 : Int32) : Option (Int32 × SL) :=
  bd2 (f_X6_refused M s1) (fun r1 M2 => (if r1 = 0 then  f_X6_limiting_h27 fuel M2 0 1 else  some (0, M2)))
def f_X6_limiting (M : SL) : Option (Int32 × SL) :=
  lt_ (M 1 0) (fun v1 => (if ¬ v1 = 0 then  f_X6_limiting_b15 M 0 else  f_X6_limiting_b15 M 1))
def f_X6_madeWith (M : SL) (x1 : Int32) (x2 : Int32) (x3 : Int32) : Option (Int32 × SL) :=
  bd (f_X6_keeps M) (fun M1 => bd (f_X6_of x1) (fun r3 => lt_ ((r3 + 4 : Int32)) (fun v5 => gd (chk v5 251) ( lt_ (up2 M1 1 v5.toNatClampNeg x2) (fun M7 => bd (f_X6_empties M7) (fun M8 => bd2 (f_X6_goes M8 x3) (fun r10 M11 => bd (f_X6_takesBack M11) (fun M13 => some (r10, M13)))))))))
def f_X6_areTicks (x0 : Int32) : Option (Int32) :=
  bd (f_X6_within x0 1 2000) (fun r1 => gd (isB r1) ( some r1))
def f_X6_outputWith_b32 (M : SL) (x1 : Int32) (x2 : Int32) (x3 : Int32) (s1 : Int32) : Option (Int32 × SL) :=
  bd2 (f_X6_refused M s1) (fun r1 M2 => (if r1 = 0 then bd2 (f_X6_madeWith M2 x1 x2 x3) (fun r5 M6 => some (r5, M6)) else  some (0, M2)))
def f_X6_outputWith_b31 (M : SL) (x1 : Int32) (x2 : Int32) (x3 : Int32) : Option (Int32 × SL) :=
   f_X6_outputWith_b32 M x1 x2 x3 2
def f_X6_outputWith (M : SL) (x1 : Int32) (x2 : Int32) (x3 : Int32) : Option (Int32 × SL) :=
  bd (f_X6_isMachine M x1) (fun r1 => (if ¬ r1 = 0 then bd (f_X6_isCapacity x2) (fun r4 => (if r4 = 0 then  f_X6_outputWith_b31 M x1 x2 x3 else bd (f_X6_areTicks x3) (fun r7 => (if r7 = 0 then  f_X6_outputWith_b31 M x1 x2 x3 else  f_X6_outputWith_b32 M x1 x2 x3 0)))) else  f_X6_outputWith_b32 M x1 x2 x3 1))
def f_X6_capacityFor_b47 (K47 : SL → Int32 → Int32 → Int32 → Int32 → Option (Int32 × SL)) (M : SL) (x1 : Int32) (x2 : Int32) (x3 : Int32) (x4 : Int32) : Option (Int32 × SL) :=
   (if 40 < x4 then  some ((-1), M) else bd2 (f_X6_madeWith M x1 x4 x2) (fun r2 M3 => (if r2 < x3 then lt_ (x4 + 1) (fun z6 => K47 M3 x1 x2 x3 z6) else  some (x4, M3))))
def f_X6_capacityFor_h47 : Nat → SL → Int32 → Int32 → Int32 → Int32 → Option (Int32 × SL)
  | 0, _, _, _, _, _ => none
  | n + 1, M, x1, x2, x3, x4 => f_X6_capacityFor_b47  (f_X6_capacityFor_h47  n) M x1 x2 x3 x4
def f_X6_capacityFor_b36 (M : SL) (x1 : Int32) (x2 : Int32) (x3 : Int32) (s1 : Int32) : Option (Int32 × SL) :=
  bd2 (f_X6_refused M s1) (fun r1 M2 => (if r1 = 0 then  f_X6_capacityFor_h47 fuel M2 x1 x2 x3 0 else  some (0, M2)))
def f_X6_capacityFor_b35 (M : SL) (x1 : Int32) (x2 : Int32) (x3 : Int32) : Option (Int32 × SL) :=
   f_X6_capacityFor_b36 M x1 x2 x3 2
def f_X6_capacityFor (M : SL) (x1 : Int32) (x2 : Int32) (x3 : Int32) : Option (Int32 × SL) :=
  bd (f_X6_isMachine M x1) (fun r1 => (if ¬ r1 = 0 then bd (f_X6_areTicks x2) (fun r4 => (if r4 = 0 then  f_X6_capacityFor_b35 M x1 x2 x3 else bd (f_X6_within x3 0 2000) (fun r7 => (if r7 = 0 then  f_X6_capacityFor_b35 M x1 x2 x3 else  f_X6_capacityFor_b36 M x1 x2 x3 0)))) else  f_X6_capacityFor_b36 M x1 x2 x3 1))
def f_X6_bestBuffer_b133 (K53 : SL → Int32 → Int32 → Int32 → Int32 → Int32 → Option (Int32 × SL)) (M : SL) (x1 : Int32) (x2 : Int32) (x3 : Int32) (x5 : Int32) (s0 : Int32) : Option (Int32 × SL) :=
  lt_ (x5 + 1) (fun z1 => K53 M x1 x2 x3 s0 z1)
def f_X6_bestBuffer_b118 (K53 : SL → Int32 → Int32 → Int32 → Int32 → Int32 → Option (Int32 × SL)) (M : SL) (x1 : Int32) (x2 : Int32) (x4 : Int32) (x5 : Int32) (x7 : Int32) (s0 : Int32) : Option (Int32 × SL) :=
   (if x7 ≤ x4 then  f_X6_bestBuffer_b133 K53 M x1 x2 s0 x5 x4 else  f_X6_bestBuffer_b133 K53 M x1 x2 s0 x5 x7)
def f_X6_bestBuffer_b99 (K53 : SL → Int32 → Int32 → Int32 → Int32 → Int32 → Option (Int32 × SL)) (M : SL) (x1 : Int32) (x2 : Int32) (x3 : Int32) (x4 : Int32) (x5 : Int32) (s1 : Int32) (s2 : Int32) : Option (Int32 × SL) :=
  bd2 (f_X6_madeWith M s1 s2 x1) (fun r1 M2 => (if r1 ≤ x4 then  f_X6_bestBuffer_b118 K53 M2 x1 x2 x4 x5 r1 x3 else  f_X6_bestBuffer_b118 K53 M2 x1 x2 x4 x5 r1 x5))
def f_X6_bestBuffer_b53 (K53 : SL → Int32 → Int32 → Int32 → Int32 → Int32 → Option (Int32 × SL)) (M : SL) (x1 : Int32) (x2 : Int32) (x3 : Int32) (x4 : Int32) (x5 : Int32) : Option (Int32 × SL) :=
  lt_ (M 1 0) (fun v1 => lt_ ((v1 - 1 : Int32)) (fun v2 => (if v2 ≤ x5 then  some (x3, M) else bd (f_X6_of x5) (fun r4 => lt_ ((r4 + 4 : Int32)) (fun v6 => gd (chk v6 251) ( lt_ (M 1 v6.toNatClampNeg) (fun v8 => lt_ ((v8 + x2 : Int32)) (fun v9 => (if v9 ≤ 40 then  f_X6_bestBuffer_b99 K53 M x1 x2 x3 x4 x5 x5 v9 else  f_X6_bestBuffer_b99 K53 M x1 x2 x3 x4 x5 x5 40)))))))))
def f_X6_bestBuffer_h53 : Nat → SL → Int32 → Int32 → Int32 → Int32 → Int32 → Option (Int32 × SL)
  | 0, _, _, _, _, _, _ => none
  | n + 1, M, x1, x2, x3, x4, x5 => f_X6_bestBuffer_b53  (f_X6_bestBuffer_h53  n) M x1 x2 x3 x4 x5
def f_X6_bestBuffer_b37 (M : SL) (x1 : Int32) (x2 : Int32) (s1 : Int32) : Option (Int32 × SL) :=
  bd2 (f_X6_refused M s1) (fun r1 M2 => (if r1 = 0 then  f_X6_bestBuffer_h53 fuel M2 x1 x2 0 (-1) 0 else  some (0, M2)))
def f_X6_bestBuffer_b18 (M : SL) (x1 : Int32) (x2 : Int32) : Option (Int32 × SL) :=
   f_X6_bestBuffer_b37 M x1 x2 1
def f_X6_bestBuffer (M : SL) (x1 : Int32) (x2 : Int32) : Option (Int32 × SL) :=
  bd (f_X6_areTicks x1) (fun r1 => (if r1 = 0 then  f_X6_bestBuffer_b18 M x1 x2 else bd (f_X6_within x2 1 40) (fun r4 => (if ¬ r4 = 0 then lt_ (M 1 0) (fun v7 => (if 2 ≤ v7 then  f_X6_bestBuffer_b37 M x1 x2 0 else  f_X6_bestBuffer_b37 M x1 x2 2)) else  f_X6_bestBuffer_b18 M x1 x2))))
def f_X6_append_b29 (M : SL) (x1 : Int32) (s1 : Int32) : Option (Int32 × SL) :=
  bd2 (f_X6_refused M s1) (fun r1 M2 => (if r1 = 0 then lt_ (M2 0 6) (fun v5 => gd (chk v5 120) ( lt_ (up2 M2 4 v5.toNatClampNeg x1) (fun M7 => lt_ (M7 0 6) (fun v8 => lt_ ((v8 + 1 : Int32)) (fun v9 => lt_ (up2 M7 0 6 v9) (fun M10 => lt_ (M10 0 6) (fun v11 => some (v11, M10)))))))) else  some (0, M2)))
def f_X6_append (M : SL) (x1 : Int32) : Option (Int32 × SL) :=
  bd (f_X6_within x1 0 127) (fun r1 => (if ¬ r1 = 0 then lt_ (M 0 6) (fun v4 => (if ¬ v4 = 120 then  f_X6_append_b29 M x1 0 else  f_X6_append_b29 M x1 2)) else  f_X6_append_b29 M x1 1))
def f_X6_clearText (M : SL) : Option (Int32 × SL) :=
  lt_ (up2 M 0 4 0) (fun M1 => lt_ (M1 0 6) (fun v2 => lt_ (up2 M1 0 6 0) (fun M3 => some (v2, M3))))
def f_X6_isAt_b32 (M : SL) : Option (Int32) :=
   some (0 : Int32)
def f_X6_isAt (M : SL) (x1 : Int32) (x2 : Int32) : Option (Int32) :=
  lt_ (M 0 9) (fun v1 => lt_ (M 0 6) (fun v2 => (if v2 ≤ v1 then  f_X6_isAt_b32 M else lt_ (M 0 9) (fun v4 => gd (chk v4 120) ( lt_ (M 4 v4.toNatClampNeg) (fun v6 => bd (f_X6_within v6 x1 x2) (fun r7 => (if r7 = 0 then  f_X6_isAt_b32 M else  some (1 : Int32)))))))))
def f_X6_sign (M : SL) (x1 : Int32) : Option (Int32 × SL) :=
  bd (f_X6_isAt M x1 x1) (fun r1 => lt_ (M 0 9) (fun v3 => (if r1 = 0 then lt_ ((v3 + 0 : Int32)) (fun v5 => lt_ (up2 M 0 9 v5) (fun M6 => gd (isB r1) ( some (r1, M6)))) else lt_ ((v3 + 1 : Int32)) (fun v8 => lt_ (up2 M 0 9 v8) (fun M9 => gd (isB r1) ( some (r1, M9)))))))
def f_X6_number_b68 (M : SL) (x1 : Int32) (x2 : Int32) (x3 : Int32) : Option (Int32 × SL) :=
  lt_ (M 0 9) (fun v1 => (if v1 = x3 then  some (0, M) else bd (f_X6_isAt M 48 57) (fun r3 => (if r3 = 0 then lt_ (M 0 10) (fun v6 => bd (f_X6_within v6 x1 x2) (fun r7 => (if r7 = 0 then lt_ (up2 M 0 9 x3) (fun M10 => gd (isB r7) ( some (r7, M10))) else lt_ (M 0 9) (fun v12 => lt_ (up2 M 0 9 v12) (fun M13 => gd (isB r7) ( some (r7, M13))))))) else  some (0, M)))))
def f_X6_number_b10 (K10 : SL → Int32 → Int32 → Int32 → Option (Int32 × SL)) (M : SL) (x1 : Int32) (x2 : Int32) (x3 : Int32) : Option (Int32 × SL) :=
  lt_ (M 0 9) (fun v1 => lt_ ((v1 - x3 : Int32)) (fun v2 => (if 2 ≤ v2 then  f_X6_number_b68 M x1 x2 x3 else bd (f_X6_isAt M 48 57) (fun r4 => (if r4 = 0 then  f_X6_number_b68 M x1 x2 x3 else lt_ (M 0 10) (fun v7 => lt_ ((10 * v7 : Int32)) (fun v8 => lt_ (M 0 9) (fun v9 => gd (chk v9 120) ( lt_ (M 4 v9.toNatClampNeg) (fun v11 => lt_ ((v8 + v11 : Int32)) (fun v12 => lt_ ((v12 - 48 : Int32)) (fun v13 => lt_ (up2 M 0 10 v13) (fun M14 => lt_ (M14 0 9) (fun v15 => lt_ ((v15 + 1 : Int32)) (fun v16 => lt_ (up2 M14 0 9 v16) (fun M17 => K10 M17 x1 x2 x3))))))))))))))))
def f_X6_number_h10 : Nat → SL → Int32 → Int32 → Int32 → Option (Int32 × SL)
  | 0, _, _, _, _ => none
  | n + 1, M, x1, x2, x3 => f_X6_number_b10  (f_X6_number_h10  n) M x1 x2 x3
def f_X6_number (M : SL) (x1 : Int32) (x2 : Int32) : Option (Int32 × SL) :=
  lt_ (M 0 9) (fun v1 => lt_ (up2 M 0 10 0) (fun M2 => f_X6_number_h10 fuel M2 x1 x2 v1))
def f_X6_readsMachine (M : SL) : Option (Int32 × SL) :=
  lt_ (M 1 0) (fun v1 => (if ¬ v1 = 8 then lt_ (M 0 9) (fun v3 => lt_ ((v3 + 1 : Int32)) (fun v4 => lt_ (up2 M 0 9 v4) (fun M5 => bd2 (f_X6_number M5 1 20) (fun r6 M7 => (if ¬ r6 = 0 then lt_ (M7 0 10) (fun v10 => bd2 (f_X6_sign M7 44) (fun r11 M12 => (if r11 = 0 then  some (0, M12) else bd2 (f_X6_number M12 1 v10) (fun r15 M16 => (if ¬ r15 = 0 then lt_ (M16 0 10) (fun v19 => bd2 (f_X6_sign M16 44) (fun r20 M21 => (if r20 = 0 then  some (0, M21) else bd2 (f_X6_number M21 0 40) (fun r24 M25 => (if ¬ r24 = 0 then lt_ (M25 0 10) (fun v28 => bd (f_X6_adds M25 v10 v19 v28) (fun M29 => bd2 (f_X6_sign M29 59) (fun r31 M32 => gd (isB r31) ( some (r31, M32))))) else  some (0, M25)))))) else  some (0, M16)))))) else  some (0, M7)))))) else  some (0, M)))
def f_X6_readsMarks (M : SL) : Option (Int32 × SL) :=
  lt_ (M 0 9) (fun v1 => lt_ ((v1 + 1 : Int32)) (fun v2 => lt_ (up2 M 0 9 v2) (fun M3 => lt_ (M3 1 0) (fun v4 => lt_ ((v4 - 1 : Int32)) (fun v5 => bd2 (f_X6_number M3 0 v5) (fun r6 M7 => (if ¬ r6 = 0 then lt_ (M7 0 10) (fun v10 => bd (f_X6_of v10) (fun r11 => bd2 (f_X6_sign M7 44) (fun r13 M14 => (if r13 = 0 then  some (0, M14) else bd2 (f_X6_number M14 0 40) (fun r17 M18 => (if ¬ r17 = 0 then lt_ (M18 0 10) (fun v21 => bd2 (f_X6_sign M18 44) (fun r22 M23 => (if r22 = 0 then  some (0, M23) else bd2 (f_X6_number M23 v21 40) (fun r26 M27 => (if ¬ r26 = 0 then lt_ ((r11 + 2 : Int32)) (fun v30 => gd (chk v30 251) ( lt_ (up2 M27 1 v30.toNatClampNeg v21) (fun M32 => lt_ ((r11 + 3 : Int32)) (fun v33 => lt_ (M32 0 10) (fun v34 => gd (chk v33 251) ( lt_ (up2 M32 1 v33.toNatClampNeg v34) (fun M36 => bd2 (f_X6_sign M36 59) (fun r37 M38 => gd (isB r37) ( some (r37, M38)))))))))) else  some (0, M27)))))) else  some (0, M18))))))) else  some (0, M7))))))))
def f_X6_parse_b100 (K38 : SL → Int32 → Option (Int32 × SL)) (M : SL) (s0 : Int32) : Option (Int32 × SL) :=
   K38 M s0
def f_X6_parse_b99 (K38 : SL → Int32 → Option (Int32 × SL)) (M : SL) : Option (Int32 × SL) :=
   f_X6_parse_b100 K38 M 0
def f_X6_parse_b106 (K106 : SL → Int32 → Int32 → Option (Int32 × SL)) (M : SL) (x1 : Int32) (x2 : Int32) : Option (Int32 × SL) :=
   (if 251 ≤ x2 then  (if ¬ x1 = 0 then bd (f_X6_saves M) (fun M3 => bd (f_X6_takesBack M3) (fun M5 => lt_ (M5 1 0) (fun v7 => some (v7, M5)))) else lt_ (M 0 9) (fun v8 => lt_ (((-10) - v8 : Int32)) (fun v9 => some (v9, M)))) else gd (chk x2 251) ( lt_ (M 1 x2.toNatClampNeg) (fun v11 => lt_ (M 3 x2.toNatClampNeg) (fun v12 => lt_ (up2 M 1 x2.toNatClampNeg v12) (fun M13 => lt_ (up2 M13 3 x2.toNatClampNeg v11) (fun M14 => lt_ (x2 + 1) (fun z15 => K106 M14 x1 z15)))))))
def f_X6_parse_h106 : Nat → SL → Int32 → Int32 → Option (Int32 × SL)
  | 0, _, _, _ => none
  | n + 1, M, x1, x2 => f_X6_parse_b106  (f_X6_parse_h106  n) M x1 x2
def f_X6_parse_b104 (M : SL) (x1 : Int32) : Option (Int32 × SL) :=
   f_X6_parse_h106 fuel M x1 0
def f_X6_parse_b38 (K38 : SL → Int32 → Option (Int32 × SL)) (M : SL) (x1 : Int32) : Option (Int32 × SL) :=
   (if x1 = 0 then  f_X6_parse_b104 M x1 else lt_ (M 0 9) (fun v2 => lt_ (M 0 6) (fun v3 => (if v3 ≤ v2 then  f_X6_parse_b104 M x1 else lt_ (M 0 9) (fun v5 => gd (chk v5 120) ( lt_ (M 4 v5.toNatClampNeg) (fun v7 => (if ¬ v7 = 109 then lt_ (M 0 9) (fun v9 => gd (chk v9 120) ( lt_ (M 4 v9.toNatClampNeg) (fun v11 => (if ¬ v11 = 104 then  f_X6_parse_b99 K38 M else bd2 (f_X6_readsMarks M) (fun r13 M14 => (if r13 = 0 then  f_X6_parse_b99 K38 M14 else  f_X6_parse_b100 K38 M14 1)))))) else bd2 (f_X6_readsMachine M) (fun r17 M18 => f_X6_parse_b100 K38 M18 r17)))))))))
def f_X6_parse_h38 : Nat → SL → Int32 → Option (Int32 × SL)
  | 0, _, _ => none
  | n + 1, M, x1 => f_X6_parse_b38  (f_X6_parse_h38  n) M x1
def f_X6_parse_b11 (K11 : SL → Int32 → Option (Int32 × SL)) (M : SL) (x1 : Int32) : Option (Int32 × SL) :=
   (if 251 ≤ x1 then lt_ (up2 M 0 9 0) (fun M2 => f_X6_parse_h38 fuel M2 1) else gd (chk x1 251) ( lt_ (up2 M 1 x1.toNatClampNeg 0) (fun M4 => lt_ (x1 + 1) (fun z5 => K11 M4 z5))))
def f_X6_parse_h11 : Nat → SL → Int32 → Option (Int32 × SL)
  | 0, _, _ => none
  | n + 1, M, x1 => f_X6_parse_b11  (f_X6_parse_h11  n) M x1
def f_X6_parse (M : SL) : Option (Int32 × SL) :=
  lt_ (up2 M 0 4 0) (fun M1 => bd (f_X6_keeps M1) (fun M2 => f_X6_parse_h11 fuel M2 0))
def f_X6_mix (hs : Int64) (x1 : Int32) : Option (Int64) :=
  lt_ (hs) (fun w1 => lt_ ((31 * w1 : Int64)) (fun w2 => lt_ ((x1 : Int32).toInt64) (fun w3 => lt_ ((w2 + w3 : Int64)) (fun w4 => lt_ (w4) (fun hs5 => some hs5)))))
def f_X6_digest_b113 (K50 : SL → Int64 → Int32 → Option (Int64 × SL × Int64)) (K113 : SL → Int64 → Int32 → Int32 → Option (Int64 × SL × Int64)) (M : SL) (hs : Int64) (x1 : Int32) (x2 : Int32) : Option (Int64 × SL × Int64) :=
   (if 6 ≤ x2 then lt_ (x1 + 1) (fun z2 => K50 M hs z2) else bd (f_X6_of x1) (fun r3 => lt_ ((r3 + 9 : Int32)) (fun v5 => lt_ ((v5 + x2 : Int32)) (fun v6 => gd (chk v6 251) ( lt_ (M 1 v6.toNatClampNeg) (fun v8 => bd (f_X6_mix hs v8) (fun hs9 => lt_ (x2 + 1) (fun z11 => K113 M hs9 x1 z11))))))))
def f_X6_digest_h113 (K50 : SL → Int64 → Int32 → Option (Int64 × SL × Int64)) : Nat → SL → Int64 → Int32 → Int32 → Option (Int64 × SL × Int64)
  | 0, _, _, _, _ => none
  | n + 1, M, hs, x1, x2 => f_X6_digest_b113 K50 (f_X6_digest_h113 K50 n) M hs x1 x2
def f_X6_digest_b90 (K50 : SL → Int64 → Int32 → Option (Int64 × SL × Int64)) (K90 : SL → Int64 → Int32 → Int32 → Option (Int64 × SL × Int64)) (M : SL) (hs : Int64) (x1 : Int32) (x2 : Int32) : Option (Int64 × SL × Int64) :=
   (if 4 ≤ x2 then  f_X6_digest_h113 K50 fuel M hs x1 0 else bd (f_X6_tellMachine M x1 x2) (fun r2 => bd (f_X6_mix hs r2) (fun hs4 => lt_ (x2 + 1) (fun z6 => K90 M hs4 x1 z6))))
def f_X6_digest_h90 (K50 : SL → Int64 → Int32 → Option (Int64 × SL × Int64)) : Nat → SL → Int64 → Int32 → Int32 → Option (Int64 × SL × Int64)
  | 0, _, _, _, _ => none
  | n + 1, M, hs, x1, x2 => f_X6_digest_b90 K50 (f_X6_digest_h90 K50 n) M hs x1 x2
def f_X6_digest_b62 (K50 : SL → Int64 → Int32 → Option (Int64 × SL × Int64)) (K62 : SL → Int64 → Int32 → Int32 → Option (Int64 × SL × Int64)) (M : SL) (hs : Int64) (x1 : Int32) (x2 : Int32) : Option (Int64 × SL × Int64) :=
   (if 5 ≤ x2 then  f_X6_digest_h90 K50 fuel M hs x1 0 else bd (f_X6_of x1) (fun r2 => lt_ ((r2 + x2 : Int32)) (fun v4 => gd (chk v4 251) ( lt_ (M 1 v4.toNatClampNeg) (fun v6 => bd (f_X6_mix hs v6) (fun hs7 => lt_ (x2 + 1) (fun z9 => K62 M hs7 x1 z9)))))))
def f_X6_digest_h62 (K50 : SL → Int64 → Int32 → Option (Int64 × SL × Int64)) : Nat → SL → Int64 → Int32 → Int32 → Option (Int64 × SL × Int64)
  | 0, _, _, _, _ => none
  | n + 1, M, hs, x1, x2 => f_X6_digest_b62 K50 (f_X6_digest_h62 K50 n) M hs x1 x2
def f_X6_digest_b161 (K161 : SL → Int64 → Int32 → Option (Int64 × SL × Int64)) (M : SL) (hs : Int64) (x1 : Int32) : Option (Int64 × SL × Int64) :=
  lt_ (M 1 2) (fun v1 => lt_ ((3 * v1 : Int32)) (fun v2 => (if v2 ≤ x1 then bd (f_X6_bottles M) (fun r4 => bd (f_X6_mix hs r4) (fun hs6 => lt_ (M 0 3) (fun v8 => bd (f_X6_mix hs6 v8) (fun hs9 => lt_ (hs9) (fun w11 => some (w11, M, hs9)))))) else lt_ ((131 + x1 : Int32)) (fun v12 => gd (chk v12 251) ( lt_ (M 1 v12.toNatClampNeg) (fun v14 => bd (f_X6_mix hs v14) (fun hs15 => lt_ (x1 + 1) (fun z17 => K161 M hs15 z17))))))))
def f_X6_digest_h161 : Nat → SL → Int64 → Int32 → Option (Int64 × SL × Int64)
  | 0, _, _, _ => none
  | n + 1, M, hs, x1 => f_X6_digest_b161  (f_X6_digest_h161  n) M hs x1
def f_X6_digest_b50 (K50 : SL → Int64 → Int32 → Option (Int64 × SL × Int64)) (M : SL) (hs : Int64) (x1 : Int32) : Option (Int64 × SL × Int64) :=
  lt_ (M 1 0) (fun v1 => (if v1 ≤ x1 then lt_ (M 1 2) (fun v3 => bd (f_X6_mix hs v3) (fun hs4 => f_X6_digest_h161 fuel M hs4 0)) else  f_X6_digest_h62 K50 fuel M hs x1 0))
def f_X6_digest_h50 : Nat → SL → Int64 → Int32 → Option (Int64 × SL × Int64)
  | 0, _, _, _ => none
  | n + 1, M, hs, x1 => f_X6_digest_b50  (f_X6_digest_h50  n) M hs x1
def f_X6_digest (M : SL) (hs : Int64) : Option (Int64 × SL × Int64) :=
  lt_ (up2 M 0 4 0) (fun M1 => lt_ (3109) (fun hs2 => lt_ (M1 0 6) (fun v3 => bd (f_X6_mix hs2 v3) (fun hs4 => lt_ (M1 1 1) (fun v6 => bd (f_X6_mix hs4 v6) (fun hs7 => bd (f_X6_made M1) (fun r9 => bd (f_X6_mix hs7 r9) (fun hs11 => lt_ (M1 1 0) (fun v13 => bd (f_X6_mix hs11 v13) (fun hs14 => f_X6_digest_h50 fuel M1 hs14 0))))))))))
end
section
/-! what a method that throws stands on: its texts, the two statics of Throwable, words of the tables that no list of words holds -/
def exN (k : Nat) : String := if k = 1 then "java/lang/IllegalArgumentException" else if k = 2 then "java/lang/IllegalStateException" else "java/lang/IndexOutOfBoundsException"
abbrev exL : List String := ["java/lang/RuntimeException", "java/lang/Exception"]
def skL : List (Nat × String) := [(43, "a cycle or the capacity is out of range"), (57, "no machine can be added now"), (72, "a cycle or a mark is out of range"), (82, "the capacity is out of range"), (84, "the first tick or the duration is out of range"), (95, "no more stops can be planned"), (101, "seed, up, down or number is out of range"), (103, "so many stops cannot be planned"), (118, "there is no such stop"), (129, "ticks is out of range"), (134, "the present tick would be too high"), (164, "wanted is out of range"), (166, "places is out of range"), (173, "value is no byte of a text"), (178, "the text is full"), (194, "there is no saved state"), (208, "there is no such machine"), (210, "there are too few machines"), (212, "what is out of range")]
abbrev twA : List Cond := vx_atS RX5 45 "java/lang/IllegalArgumentException" exL ++ vx_atS RX5 59 "java/lang/IllegalStateException" exL ++ vx_atS RX5 120 "java/lang/IndexOutOfBoundsException" exL
def twL : List Cond := twA.filter (fun w => !goodWord w)
theorem twL_tabs : ∀ w ∈ twL, w.onTables = true := by decide +kernel
theorem twL_in : ∀ w ∈ twL, w ∈ tables_1 := by decide +kernel
end
section
section GEN
variable {p : Program} {l : Launch} {e : Env} {s : State} {m : MethodId} {args : Array Value} {below : List Frame} {meth : Method} {c : Code} {D : va_G} {cs : Nat → ClassId} {ad : Nat → Nat}
/-! X4 copy -/
abbrev rmX4_copy : Room := { frames := 1, cells := 0, slots := 0, locals := 48 }
theorem q_X4_copy_0 : Cond.fieldLink RX4 21 "LineBuffers$Stops" "planned" "I" ∈ wsX4_copy := List.mem_of_getElem? (i := 1) rfl
theorem q_X4_copy_1 : Cond.fieldLink RX4 9 "LineBuffers$Stops" "machineOf" "[I" ∈ wsX4_copy := List.mem_of_getElem? (i := 2) rfl
theorem q_X4_copy_2 : Cond.methodLink RX4 25 arraycopyName ∈ wsX4_copy := List.mem_of_getElem? (i := 3) rfl
theorem q_X4_copy_3 : Cond.native arraycopyName ∈ wsX4_copy := List.mem_of_getElem? (i := 4) rfl
theorem q_X4_copy_4 : Cond.static arraycopyName ∈ wsX4_copy := List.mem_of_getElem? (i := 5) rfl
theorem q_X4_copy_5 : Cond.initialized "java/lang/System" ∈ wsX4_copy := List.mem_of_getElem? (i := 6) rfl
theorem q_X4_copy_6 : Cond.fieldLink RX4 15 "LineBuffers$Stops" "firstOf" "[I" ∈ wsX4_copy := List.mem_of_getElem? (i := 7) rfl
theorem q_X4_copy_7 : Cond.fieldLink RX4 18 "LineBuffers$Stops" "durationOf" "[I" ∈ wsX4_copy := List.mem_of_getElem? (i := 8) rfl
theorem n_X4_copy_X4 : ∀ x ∈ u_ws RX4 TX4 5, x ∈ wsX4_copy := fun x h => List.mem_cons_of_mem _ (List.mem_append_right _ h)
set_option maxRecDepth 100000 in
set_option maxHeartbeats 4000000 in
theorem w_X4_copy_e {res : (Nat → SL)} (C : Cx p s m args meth c cX4_copy 3 none RX4 wsX4_copy) (G : Gx D cs ad s) {i : Nat} (hi : i < 6) {j : Nat} (hj : j < 6) {Hs : SL} {T : SL} {M : SL} {dr : Int64} {hs : Int64} {o : Int64} {od : UInt64} {Ls : Nat → SL} {H : Heap} {locs : List Loc} {ls : Array Slot} (hP : va_P D vwCl (wA cs ad Ls Hs T M dr hs o od) H) (hS : va_S (Afr ad s.heap.size) s.heap H locs) (hl : lv_has ls 3 [(0, .ref (ad (5 + 14 * i + 10))), (1, .ref (ad (5 + 14 * j + 10)))]) (h : f_X4_copy i j Ls = some res) : W p l e rmX4_copy s m args below meth c H locs 0 0 (MQ below (va_Qv (fun (_ : Unit) => True) (fun _ t => va_P D vwCl (wA cs ad res Hs T M dr hs o od) t.heap) (Afr ad s.heap.size)) args s 0 0 (Afr ad s.heap.size)) (F0 m 0 ls []) := by
  unfold f_X4_copy at h
  refine lv_aload_n C.1 C.2.1 dX4_copy_0 rfl (lv_at hl 0 rfl) ?_
  obtain ⟨v1, ev1, h⟩ := lt_out h
  refine k_geti C G hP (c_sto hi) rfl 3 (by decide) n_X4_copy_X4 q_X4_copy_0 rfl ev1 dX4_copy_1 ?_
  refine lv_istore_n (lv' := [(2, .int v1), (0, .ref (ad (5 + 14 * i + 10))), (1, .ref (ad (5 + 14 * j + 10)))]) C.1 C.2.1 dX4_copy_4 rfl hl (by decide) rfl (fun ls hl => ?_)
  refine lv_aload_n C.1 C.2.1 dX4_copy_5 rfl (lv_at hl 1 rfl) ?_
  refine k_getf C G hP (c_sto hi) rfl 0 (by decide) n_X4_copy_X4 q_X4_copy_1 (v := .ref (ad (5 + 14 * i + 11))) rfl dX4_copy_6 ?_
  refine lv_iconst (v := 0) C.1 C.2.1 dX4_copy_9 (by decide) ?_
  refine lv_aload_n C.1 C.2.1 dX4_copy_10 rfl (lv_at hl 2 rfl) ?_
  refine k_getf C G hP (c_sto hj) rfl 0 (by decide) n_X4_copy_X4 q_X4_copy_1 (v := .ref (ad (5 + 14 * j + 11))) rfl dX4_copy_11 ?_
  refine lv_iconst (v := 0) C.1 C.2.1 dX4_copy_14 (by decide) ?_
  refine lv_iload_n C.1 C.2.1 dX4_copy_15 rfl (lv_at hl 0 rfl) ?_
  obtain ⟨g2, h⟩ := gd_out h
  have g2 := cpo_out g2
  obtain ⟨Ls3, eLs3, h⟩ := lt_out h
  refine k_copy C G hP hS hl.1 q_X4_copy_2 q_X4_copy_3 q_X4_copy_4 q_X4_copy_5 (c_sar hi (k := 11) (by decide)) (c_sar hj (k := 11) (by decide)) g2.1 g2.2.1 g2.2.2 (j := v1.toNatClampNeg) rfl (Nat.le_of_ble_eq_true rfl) (Nat.le_of_ble_eq_true rfl) (c_sarF hj (by decide)) dX4_copy_16 (fun H locs hP hS => ?_)
  rw [← eLs3] at hP
  refine lv_aload_n C.1 C.2.1 dX4_copy_19 rfl (lv_at hl 1 rfl) ?_
  refine k_getf C G hP (c_sto hi) rfl 1 (by decide) n_X4_copy_X4 q_X4_copy_6 (v := .ref (ad (5 + 14 * i + 12))) rfl dX4_copy_20 ?_
  refine lv_iconst (v := 0) C.1 C.2.1 dX4_copy_23 (by decide) ?_
  refine lv_aload_n C.1 C.2.1 dX4_copy_24 rfl (lv_at hl 2 rfl) ?_
  refine k_getf C G hP (c_sto hj) rfl 1 (by decide) n_X4_copy_X4 q_X4_copy_6 (v := .ref (ad (5 + 14 * j + 12))) rfl dX4_copy_25 ?_
  refine lv_iconst (v := 0) C.1 C.2.1 dX4_copy_28 (by decide) ?_
  refine lv_iload_n C.1 C.2.1 dX4_copy_29 rfl (lv_at hl 0 rfl) ?_
  obtain ⟨g4, h⟩ := gd_out h
  have g4 := cpo_out g4
  obtain ⟨Ls5, eLs5, h⟩ := lt_out h
  refine k_copy C G hP hS hl.1 q_X4_copy_2 q_X4_copy_3 q_X4_copy_4 q_X4_copy_5 (c_sar hi (k := 12) (by decide)) (c_sar hj (k := 12) (by decide)) g4.1 g4.2.1 g4.2.2 (j := v1.toNatClampNeg) rfl (Nat.le_of_ble_eq_true rfl) (Nat.le_of_ble_eq_true rfl) (c_sarF hj (by decide)) dX4_copy_30 (fun H locs hP hS => ?_)
  rw [← eLs5] at hP
  refine lv_aload_n C.1 C.2.1 dX4_copy_33 rfl (lv_at hl 1 rfl) ?_
  refine k_getf C G hP (c_sto hi) rfl 2 (by decide) n_X4_copy_X4 q_X4_copy_7 (v := .ref (ad (5 + 14 * i + 13))) rfl dX4_copy_34 ?_
  refine lv_iconst (v := 0) C.1 C.2.1 dX4_copy_37 (by decide) ?_
  refine lv_aload_n C.1 C.2.1 dX4_copy_38 rfl (lv_at hl 2 rfl) ?_
  refine k_getf C G hP (c_sto hj) rfl 2 (by decide) n_X4_copy_X4 q_X4_copy_7 (v := .ref (ad (5 + 14 * j + 13))) rfl dX4_copy_39 ?_
  refine lv_iconst (v := 0) C.1 C.2.1 dX4_copy_42 (by decide) ?_
  refine lv_iload_n C.1 C.2.1 dX4_copy_43 rfl (lv_at hl 0 rfl) ?_
  obtain ⟨g6, h⟩ := gd_out h
  have g6 := cpo_out g6
  obtain ⟨Ls7, eLs7, h⟩ := lt_out h
  refine k_copy C G hP hS hl.1 q_X4_copy_2 q_X4_copy_3 q_X4_copy_4 q_X4_copy_5 (c_sar hi (k := 13) (by decide)) (c_sar hj (k := 13) (by decide)) g6.1 g6.2.1 g6.2.2 (j := v1.toNatClampNeg) rfl (Nat.le_of_ble_eq_true rfl) (Nat.le_of_ble_eq_true rfl) (c_sarF hj (by decide)) dX4_copy_44 (fun H locs hP hS => ?_)
  rw [← eLs7] at hP
  refine lv_aload_n C.1 C.2.1 dX4_copy_47 rfl (lv_at hl 2 rfl) ?_
  refine lv_iload_n C.1 C.2.1 dX4_copy_48 rfl (lv_at hl 0 rfl) ?_
  obtain ⟨Ls8, eLs8, h⟩ := lt_out h
  refine k_puti C G hP hS (c_sto hj) rfl 3 (by decide) n_X4_copy_X4 q_X4_copy_0 tyX4_ok nmX4 rfl (tyX4_ok 3 (by decide)) (Nat.le_of_ble_eq_true rfl) (c_stoS3 hj) dX4_copy_49 (fun H locs hP hS => ?_)
  rw [← eLs8] at hP
  cases h
  exact k_vret C hP hS dX4_copy_52
set_option maxRecDepth 100000 in
set_option maxHeartbeats 4000000 in
theorem m_X4_copy (l : Launch) {D : va_G} {cs : Nat → ClassId} {ad : Nat → Nat} (hAd : adOK ad) (sz : Nat) {i : Nat} (hi : i < 6) {j : Nat} (hj : j < 6) {Ls : Nat → SL} {Hs : SL} {T : SL} {M : SL} {dr : Int64} {hs : Int64} {o : Int64} {od : UInt64} {res : (Nat → SL)} (h : f_X4_copy i j Ls = some res) : Met l yX4_copy wsX4_copy rmX4_copy (PA D cs sz (wA cs ad Ls Hs T M dr hs o od) [.ref (ad (5 + 14 * i + 10)), .ref (ad (5 + 14 * j + 10))]) (va_Qv (fun (_ : Unit) => True) (fun _ t => va_P D vwCl (wA cs ad res Hs T M dr hs o od) t.heap) (Afr ad sz)) 0 0 (Afr ad sz) :=
  k_met (by decide) rfl (Nat.le_of_ble_eq_true rfl) hAd (fun p e s m below meth c ls C G hP hsz hl hS => by
    subst hsz
    exact w_X4_copy_e C G hi hj hP hS hl  h)
/-! X4 plan -/
abbrev rmX4_plan : Room := { frames := 0, cells := 0, slots := 0, locals := 0 }
theorem q_X4_plan_0 : Cond.fieldLink RX4 21 "LineBuffers$Stops" "planned" "I" ∈ wsX4_plan := List.mem_of_getElem? (i := 1) rfl
theorem q_X4_plan_1 : Cond.fieldLink RX4 9 "LineBuffers$Stops" "machineOf" "[I" ∈ wsX4_plan := List.mem_of_getElem? (i := 2) rfl
theorem q_X4_plan_2 : Cond.fieldLink RX4 15 "LineBuffers$Stops" "firstOf" "[I" ∈ wsX4_plan := List.mem_of_getElem? (i := 3) rfl
theorem q_X4_plan_3 : Cond.fieldLink RX4 18 "LineBuffers$Stops" "durationOf" "[I" ∈ wsX4_plan := List.mem_of_getElem? (i := 4) rfl
theorem n_X4_plan_X4 : ∀ x ∈ u_ws RX4 TX4 5, x ∈ wsX4_plan := fun x h => List.mem_cons_of_mem _ (List.mem_append_right _ h)
set_option maxRecDepth 100000 in
set_option maxHeartbeats 4000000 in
theorem w_X4_plan_e {res : SL} (C : Cx p s m args meth c cX4_plan 4 none RX4 wsX4_plan) (G : Gx D cs ad s) {i : Nat} (hi : i < 6) {Ls : Nat → SL} {Hs : SL} {T : SL} {M : SL} {dr : Int64} {hs : Int64} {o : Int64} {od : UInt64} {L : SL} {x1 : Int32} {x2 : Int32} {x3 : Int32} {H : Heap} {locs : List Loc} {ls : Array Slot} (hP : va_P D vwCl (wA cs ad (va_up Ls i L) Hs T M dr hs o od) H) (hS : va_S (Afr ad s.heap.size) s.heap H locs) (hl : lv_has ls 4 [(0, .ref (ad (5 + 14 * i + 10))), (1, .int x1), (2, .int x2), (3, .int x3)]) (h : f_X4_plan L x1 x2 x3 = some res) : W p l e rmX4_plan s m args below meth c H locs 0 0 (MQ below (va_Qv (fun (_ : Unit) => True) (fun _ t => va_P D vwCl (wA cs ad (va_up Ls i res) Hs T M dr hs o od) t.heap) (Afr ad s.heap.size)) args s 0 0 (Afr ad s.heap.size)) (F0 m 0 ls []) := by
  unfold f_X4_plan at h
  refine lv_aload_n C.1 C.2.1 dX4_plan_0 rfl (lv_at hl 0 rfl) ?_
  obtain ⟨v1, ev1, h⟩ := lt_out h
  refine k_geti C G hP (v_sto hi) rfl 3 (by decide) n_X4_plan_X4 q_X4_plan_0 rfl ev1 dX4_plan_1 ?_
  refine lv_bipush (v := 40) C.1 C.2.1 dX4_plan_4 (by decide) ?_
  refine lv_icmp_ge (tgt := 49) C.1 C.2.1 dX4_plan_6 (by decide) (fun c2 => ?_) (fun c2 => ?_)
  · have h := if_t c2 h
    cases h
    exact k_vret C hP hS dX4_plan_49
  · have h := if_f c2 h
    refine lv_aload_n C.1 C.2.1 dX4_plan_9 rfl (lv_at hl 0 rfl) ?_
    refine k_getf C G hP (v_sto hi) rfl 0 (by decide) n_X4_plan_X4 q_X4_plan_1 (v := .ref (ad (5 + 14 * i + 11))) rfl dX4_plan_10 ?_
    refine lv_aload_n C.1 C.2.1 dX4_plan_13 rfl (lv_at hl 0 rfl) ?_
    obtain ⟨v3, ev3, h⟩ := lt_out h
    refine k_geti C G hP (v_sto hi) rfl 3 (by decide) n_X4_plan_X4 q_X4_plan_0 rfl ev3 dX4_plan_14 ?_
    refine lv_iload_n C.1 C.2.1 dX4_plan_17 rfl (lv_at hl 1 rfl) ?_
    obtain ⟨g4, h⟩ := gd_out h
    have g4 := chk_in g4
    obtain ⟨L5, eL5, h⟩ := lt_out h
    refine k_iast C G hP hS (v_sar hi (k := 11) (by decide)) g4 (j := v3.toNatClampNeg) rfl (v_sarS hi (k := 11) (by decide)) dX4_plan_18 (fun H locs hP hS => ?_)
    rw [← eL5] at hP
    refine lv_aload_n C.1 C.2.1 dX4_plan_19 rfl (lv_at hl 0 rfl) ?_
    refine k_getf C G hP (v_sto hi) rfl 1 (by decide) n_X4_plan_X4 q_X4_plan_2 (v := .ref (ad (5 + 14 * i + 12))) rfl dX4_plan_20 ?_
    refine lv_aload_n C.1 C.2.1 dX4_plan_23 rfl (lv_at hl 0 rfl) ?_
    obtain ⟨v6, ev6, h⟩ := lt_out h
    refine k_geti C G hP (v_sto hi) rfl 3 (by decide) n_X4_plan_X4 q_X4_plan_0 rfl ev6 dX4_plan_24 ?_
    refine lv_iload_n C.1 C.2.1 dX4_plan_27 rfl (lv_at hl 2 rfl) ?_
    obtain ⟨g7, h⟩ := gd_out h
    have g7 := chk_in g7
    obtain ⟨L8, eL8, h⟩ := lt_out h
    refine k_iast C G hP hS (v_sar hi (k := 12) (by decide)) g7 (j := v6.toNatClampNeg) rfl (v_sarS hi (k := 12) (by decide)) dX4_plan_28 (fun H locs hP hS => ?_)
    rw [← eL8] at hP
    refine lv_aload_n C.1 C.2.1 dX4_plan_29 rfl (lv_at hl 0 rfl) ?_
    refine k_getf C G hP (v_sto hi) rfl 2 (by decide) n_X4_plan_X4 q_X4_plan_3 (v := .ref (ad (5 + 14 * i + 13))) rfl dX4_plan_30 ?_
    refine lv_aload_n C.1 C.2.1 dX4_plan_33 rfl (lv_at hl 0 rfl) ?_
    obtain ⟨v9, ev9, h⟩ := lt_out h
    refine k_geti C G hP (v_sto hi) rfl 3 (by decide) n_X4_plan_X4 q_X4_plan_0 rfl ev9 dX4_plan_34 ?_
    refine lv_iload_n C.1 C.2.1 dX4_plan_37 rfl (lv_at hl 3 rfl) ?_
    obtain ⟨g10, h⟩ := gd_out h
    have g10 := chk_in g10
    obtain ⟨L11, eL11, h⟩ := lt_out h
    refine k_iast C G hP hS (v_sar hi (k := 13) (by decide)) g10 (j := v9.toNatClampNeg) rfl (v_sarS hi (k := 13) (by decide)) dX4_plan_38 (fun H locs hP hS => ?_)
    rw [← eL11] at hP
    refine lv_aload_n C.1 C.2.1 dX4_plan_39 rfl (lv_at hl 0 rfl) ?_
    refine lv_dup C.1 C.2.1 dX4_plan_40 rfl ?_
    obtain ⟨v12, ev12, h⟩ := lt_out h
    refine k_geti C G hP (v_sto hi) rfl 3 (by decide) n_X4_plan_X4 q_X4_plan_0 rfl ev12 dX4_plan_41 ?_
    refine lv_iconst (v := 1) C.1 C.2.1 dX4_plan_44 (by decide) ?_
    obtain ⟨v13, ev13, h⟩ := lt_out h
    refine k_iadd C ev13 dX4_plan_45 ?_
    obtain ⟨L14, eL14, h⟩ := lt_out h
    refine k_puti C G hP hS (v_sto hi) rfl 3 (by decide) n_X4_plan_X4 q_X4_plan_0 tyX4_ok nmX4 rfl (tyX4_ok 3 (by decide)) (Nat.le_of_ble_eq_true rfl) (v_stoS3 hi) dX4_plan_46 (fun H locs hP hS => ?_)
    rw [← eL14] at hP
    cases h
    exact k_vret C hP hS dX4_plan_49
set_option maxRecDepth 100000 in
set_option maxHeartbeats 4000000 in
theorem m_X4_plan (l : Launch) {D : va_G} {cs : Nat → ClassId} {ad : Nat → Nat} (hAd : adOK ad) (sz : Nat) {i : Nat} (hi : i < 6) {Ls : Nat → SL} {Hs : SL} {T : SL} {M : SL} {dr : Int64} {hs : Int64} {o : Int64} {od : UInt64} {L : SL} {x1 : Int32} {x2 : Int32} {x3 : Int32} {res : SL} (h : f_X4_plan L x1 x2 x3 = some res) : Met l yX4_plan wsX4_plan rmX4_plan (PA D cs sz (wA cs ad (va_up Ls i L) Hs T M dr hs o od) [.ref (ad (5 + 14 * i + 10)), .int x1, .int x2, .int x3]) (va_Qv (fun (_ : Unit) => True) (fun _ t => va_P D vwCl (wA cs ad (va_up Ls i res) Hs T M dr hs o od) t.heap) (Afr ad sz)) 0 0 (Afr ad sz) :=
  k_met (by decide) rfl (Nat.le_of_ble_eq_true rfl) hAd (fun p e s m below meth c ls C G hP hsz hl hS => by
    subst hsz
    exact w_X4_plan_e C G hi hP hS hl  h)
/-! X4 dropAfter -/
abbrev rmX4_dropAfter : Room := { frames := 1, cells := 0, slots := 0, locals := 23 }
theorem q_X4_dropAfter_0 : Cond.fieldLink RX4 21 "LineBuffers$Stops" "planned" "I" ∈ wsX4_dropAfter := List.mem_of_getElem? (i := 1) rfl
theorem q_X4_dropAfter_1 : Cond.fieldLink RX4 15 "LineBuffers$Stops" "firstOf" "[I" ∈ wsX4_dropAfter := List.mem_of_getElem? (i := 2) rfl
theorem q_X4_dropAfter_2 : Cond.fieldLink RX4 9 "LineBuffers$Stops" "machineOf" "[I" ∈ wsX4_dropAfter := List.mem_of_getElem? (i := 3) rfl
theorem q_X4_dropAfter_3 : Cond.fieldLink RX4 18 "LineBuffers$Stops" "durationOf" "[I" ∈ wsX4_dropAfter := List.mem_of_getElem? (i := 4) rfl
theorem n_X4_dropAfter_X4 : ∀ x ∈ u_ws RX4 TX4 5, x ∈ wsX4_dropAfter := fun x h => List.mem_cons_of_mem _ (List.mem_append_right _ h)
set_option maxRecDepth 100000 in
set_option maxHeartbeats 4000000 in
theorem w_X4_dropAfter_b49 {res : Int32 × SL} (C : Cx p s m args meth c cX4_dropAfter 4 (some .int) RX4 wsX4_dropAfter) (G : Gx D cs ad s) {i : Nat} (hi : i < 6) {Ls : Nat → SL} {Hs : SL} {T : SL} {M : SL} {dr : Int64} {hs : Int64} {o : Int64} {od : UInt64} {K12 : SL → Int32 → Int32 → Int32 → Option (Int32 × SL)} (hK12 : ∀ {L : SL} {x1 : Int32} {x2 : Int32} {x3 : Int32} {H : Heap} {locs : List Loc} {ls : Array Slot}, va_P D vwCl (wA cs ad (va_up Ls i L) Hs T M dr hs o od) H → va_S (Afr ad s.heap.size) s.heap H locs → lv_has ls 4 [(0, .ref (ad (5 + 14 * i + 10))), (1, .int x1), (2, .int x2), (3, .int x3)] → K12 L x1 x2 x3 = some res → W p l e rmX4_dropAfter s m args below meth c H locs 0 0 (MQ below (va_Qi (fun r' (_ : Unit) => r' = res.1) (fun _ t => va_P D vwCl (wA cs ad (va_up Ls i res.2) Hs T M dr hs o od) t.heap) (Afr ad s.heap.size)) args s 0 0 (Afr ad s.heap.size)) (F0 m 12 ls [])) {L : SL} {x1 : Int32} {x2 : Int32} {x3 : Int32} {H : Heap} {locs : List Loc} {ls : Array Slot} (hP : va_P D vwCl (wA cs ad (va_up Ls i L) Hs T M dr hs o od) H) (hS : va_S (Afr ad s.heap.size) s.heap H locs) (hl : lv_has ls 4 [(0, .ref (ad (5 + 14 * i + 10))), (1, .int x1), (2, .int x2), (3, .int x3)]) (h : f_X4_dropAfter_b49 K12 L x1 x2 x3 = some res) : W p l e rmX4_dropAfter s m args below meth c H locs 0 0 (MQ below (va_Qi (fun r' (_ : Unit) => r' = res.1) (fun _ t => va_P D vwCl (wA cs ad (va_up Ls i res.2) Hs T M dr hs o od) t.heap) (Afr ad s.heap.size)) args s 0 0 (Afr ad s.heap.size)) (F0 m 49 ls []) := by
  unfold f_X4_dropAfter_b49 at h
  obtain ⟨z1, ez1, h⟩ := lt_out h
  refine lv_iinc (v := z1) (lv' := [(3, .int z1), (0, .ref (ad (5 + 14 * i + 10))), (1, .int x1), (2, .int x2)]) C.1 C.2.1 dX4_dropAfter_49 hl (k := 3) rfl (by rw [ez1]; rfl) (by decide) rfl (fun ls hl => ?_)
  refine lv_goto (tgt := 12) C.1 C.2.1 dX4_dropAfter_52 (by decide) ?_
  exact hK12 hP hS (lv_sub hl [1, 2, 3, 0] rfl)  h
set_option maxRecDepth 100000 in
set_option maxHeartbeats 4000000 in
theorem w_X4_dropAfter_b12 {res : Int32 × SL} (C : Cx p s m args meth c cX4_dropAfter 4 (some .int) RX4 wsX4_dropAfter) (G : Gx D cs ad s) {i : Nat} (hi : i < 6) {Ls : Nat → SL} {Hs : SL} {T : SL} {M : SL} {dr : Int64} {hs : Int64} {o : Int64} {od : UInt64} {K12 : SL → Int32 → Int32 → Int32 → Option (Int32 × SL)} (hK12 : ∀ {L : SL} {x1 : Int32} {x2 : Int32} {x3 : Int32} {H : Heap} {locs : List Loc} {ls : Array Slot}, va_P D vwCl (wA cs ad (va_up Ls i L) Hs T M dr hs o od) H → va_S (Afr ad s.heap.size) s.heap H locs → lv_has ls 4 [(0, .ref (ad (5 + 14 * i + 10))), (1, .int x1), (2, .int x2), (3, .int x3)] → K12 L x1 x2 x3 = some res → W p l e rmX4_dropAfter s m args below meth c H locs 0 0 (MQ below (va_Qi (fun r' (_ : Unit) => r' = res.1) (fun _ t => va_P D vwCl (wA cs ad (va_up Ls i res.2) Hs T M dr hs o od) t.heap) (Afr ad s.heap.size)) args s 0 0 (Afr ad s.heap.size)) (F0 m 12 ls [])) {L : SL} {x1 : Int32} {x2 : Int32} {x3 : Int32} {H : Heap} {locs : List Loc} {ls : Array Slot} (hP : va_P D vwCl (wA cs ad (va_up Ls i L) Hs T M dr hs o od) H) (hS : va_S (Afr ad s.heap.size) s.heap H locs) (hl : lv_has ls 4 [(0, .ref (ad (5 + 14 * i + 10))), (1, .int x1), (2, .int x2), (3, .int x3)]) (h : f_X4_dropAfter_b12 K12 L x1 x2 x3 = some res) : W p l e rmX4_dropAfter s m args below meth c H locs 0 0 (MQ below (va_Qi (fun r' (_ : Unit) => r' = res.1) (fun _ t => va_P D vwCl (wA cs ad (va_up Ls i res.2) Hs T M dr hs o od) t.heap) (Afr ad s.heap.size)) args s 0 0 (Afr ad s.heap.size)) (F0 m 12 ls []) := by
  unfold f_X4_dropAfter_b12 at h
  refine lv_iload_n C.1 C.2.1 dX4_dropAfter_12 rfl (lv_at hl 3 rfl) ?_
  refine lv_iload_n C.1 C.2.1 dX4_dropAfter_13 rfl (lv_at hl 2 rfl) ?_
  refine lv_icmp_ge (tgt := 55) C.1 C.2.1 dX4_dropAfter_14 (by decide) (fun c1 => ?_) (fun c1 => ?_)
  · have h := if_t c1 h
    refine lv_iload_n C.1 C.2.1 dX4_dropAfter_55 rfl (lv_at hl 2 rfl) ?_
    refine lv_aload_n C.1 C.2.1 dX4_dropAfter_56 rfl (lv_at hl 0 rfl) ?_
    obtain ⟨v2, ev2, h⟩ := lt_out h
    refine k_geti C G hP (v_sto hi) rfl 3 (by decide) n_X4_dropAfter_X4 q_X4_dropAfter_0 rfl ev2 dX4_dropAfter_57 ?_
    obtain ⟨v3, ev3, h⟩ := lt_out h
    refine k_isub C ev3 dX4_dropAfter_60 ?_
    cases h
    exact k_iret C hP hS dX4_dropAfter_61
  · have h := if_f c1 h
    refine lv_aload_n C.1 C.2.1 dX4_dropAfter_17 rfl (lv_at hl 0 rfl) ?_
    refine k_getf C G hP (v_sto hi) rfl 1 (by decide) n_X4_dropAfter_X4 q_X4_dropAfter_1 (v := .ref (ad (5 + 14 * i + 12))) rfl dX4_dropAfter_18 ?_
    refine lv_iload_n C.1 C.2.1 dX4_dropAfter_21 rfl (lv_at hl 3 rfl) ?_
    obtain ⟨g4, h⟩ := gd_out h
    have g4 := chk_in g4
    obtain ⟨v5, ev5, h⟩ := lt_out h
    refine k_iald C G hP (v_sar hi (k := 12) (by decide)) g4 (j := x3.toNatClampNeg) rfl ev5 dX4_dropAfter_22 ?_
    refine lv_iload_n C.1 C.2.1 dX4_dropAfter_23 rfl (lv_at hl 1 rfl) ?_
    refine lv_icmp_gt (tgt := 49) C.1 C.2.1 dX4_dropAfter_24 (by decide) (fun c6 => ?_) (fun c6 => ?_)
    · have h := if_t c6 h
      exact w_X4_dropAfter_b49 C G hi hK12 hP hS (lv_sub hl [0, 1, 2, 3] rfl) h
    · have h := if_f c6 h
      refine lv_aload_n C.1 C.2.1 dX4_dropAfter_27 rfl (lv_at hl 0 rfl) ?_
      refine lv_aload_n C.1 C.2.1 dX4_dropAfter_28 rfl (lv_at hl 0 rfl) ?_
      refine k_getf C G hP (v_sto hi) rfl 0 (by decide) n_X4_dropAfter_X4 q_X4_dropAfter_2 (v := .ref (ad (5 + 14 * i + 11))) rfl dX4_dropAfter_29 ?_
      refine lv_iload_n C.1 C.2.1 dX4_dropAfter_32 rfl (lv_at hl 3 rfl) ?_
      obtain ⟨v7, ev7, h⟩ := lt_out h
      refine k_iald C G hP (v_sar hi (k := 11) (by decide)) g4 (j := x3.toNatClampNeg) rfl ev7 dX4_dropAfter_33 ?_
      refine lv_aload_n C.1 C.2.1 dX4_dropAfter_34 rfl (lv_at hl 0 rfl) ?_
      refine k_getf C G hP (v_sto hi) rfl 1 (by decide) n_X4_dropAfter_X4 q_X4_dropAfter_1 (v := .ref (ad (5 + 14 * i + 12))) rfl dX4_dropAfter_35 ?_
      refine lv_iload_n C.1 C.2.1 dX4_dropAfter_38 rfl (lv_at hl 3 rfl) ?_
      obtain ⟨v8, ev8, h⟩ := lt_out h
      refine k_iald C G hP (v_sar hi (k := 12) (by decide)) g4 (j := x3.toNatClampNeg) rfl ev8 dX4_dropAfter_39 ?_
      refine lv_aload_n C.1 C.2.1 dX4_dropAfter_40 rfl (lv_at hl 0 rfl) ?_
      refine k_getf C G hP (v_sto hi) rfl 2 (by decide) n_X4_dropAfter_X4 q_X4_dropAfter_3 (v := .ref (ad (5 + 14 * i + 13))) rfl dX4_dropAfter_41 ?_
      refine lv_iload_n C.1 C.2.1 dX4_dropAfter_44 rfl (lv_at hl 3 rfl) ?_
      obtain ⟨v9, ev9, h⟩ := lt_out h
      refine k_iald C G hP (v_sar hi (k := 13) (by decide)) g4 (j := x3.toNatClampNeg) rfl ev9 dX4_dropAfter_45 ?_
      obtain ⟨L10, c11, h⟩ := bd_out h
      refine k_callVv C G hP hS (m_X4_plan l G.2.1 _ hi c11) (v_sto hi) rfl (cwV 3 C.2.2.2.2.2.1 gX4_dropAfter_X4_plan rfl rfl rfl (by decide +kernel) ⟨Nat.le_of_ble_eq_true rfl, Nat.le_of_ble_eq_true rfl⟩) (As := [.int v7, .int v8, .int v9]) rfl hl.1 rfl (Nat.le_of_ble_eq_true rfl) dX4_dropAfter_46 ⟨Nat.le_of_ble_eq_true rfl, Nat.le_of_ble_eq_true rfl⟩ (fun H locs hP hS => ?_)
      exact w_X4_dropAfter_b49 C G hi hK12 hP hS (lv_sub hl [0, 1, 2, 3] rfl) h
set_option maxRecDepth 100000 in
set_option maxHeartbeats 4000000 in
theorem w_X4_dropAfter_h12 {res : Int32 × SL} (C : Cx p s m args meth c cX4_dropAfter 4 (some .int) RX4 wsX4_dropAfter) (G : Gx D cs ad s) {i : Nat} (hi : i < 6) {Ls : Nat → SL} {Hs : SL} {T : SL} {M : SL} {dr : Int64} {hs : Int64} {o : Int64} {od : UInt64} : ∀ (n : Nat) {L : SL} {x1 : Int32} {x2 : Int32} {x3 : Int32} {H : Heap} {locs : List Loc} {ls : Array Slot}, va_P D vwCl (wA cs ad (va_up Ls i L) Hs T M dr hs o od) H → va_S (Afr ad s.heap.size) s.heap H locs → lv_has ls 4 [(0, .ref (ad (5 + 14 * i + 10))), (1, .int x1), (2, .int x2), (3, .int x3)] → f_X4_dropAfter_h12 n L x1 x2 x3 = some res → W p l e rmX4_dropAfter s m args below meth c H locs 0 0 (MQ below (va_Qi (fun r' (_ : Unit) => r' = res.1) (fun _ t => va_P D vwCl (wA cs ad (va_up Ls i res.2) Hs T M dr hs o od) t.heap) (Afr ad s.heap.size)) args s 0 0 (Afr ad s.heap.size)) (F0 m 12 ls []) := by
  intro n
  induction n with
  | zero => intro L x1 x2 x3 H locs ls hP hS hl  h; cases h
  | succ n ih => intro L x1 x2 x3 H locs ls hP hS hl  h; exact w_X4_dropAfter_b12 C G hi  ih hP hS hl  h
set_option maxRecDepth 100000 in
set_option maxHeartbeats 4000000 in
theorem w_X4_dropAfter_e {res : Int32 × SL} (C : Cx p s m args meth c cX4_dropAfter 4 (some .int) RX4 wsX4_dropAfter) (G : Gx D cs ad s) {i : Nat} (hi : i < 6) {Ls : Nat → SL} {Hs : SL} {T : SL} {M : SL} {dr : Int64} {hs : Int64} {o : Int64} {od : UInt64} {L : SL} {x1 : Int32} {H : Heap} {locs : List Loc} {ls : Array Slot} (hP : va_P D vwCl (wA cs ad (va_up Ls i L) Hs T M dr hs o od) H) (hS : va_S (Afr ad s.heap.size) s.heap H locs) (hl : lv_has ls 4 [(0, .ref (ad (5 + 14 * i + 10))), (1, .int x1)]) (h : f_X4_dropAfter L x1 = some res) : W p l e rmX4_dropAfter s m args below meth c H locs 0 0 (MQ below (va_Qi (fun r' (_ : Unit) => r' = res.1) (fun _ t => va_P D vwCl (wA cs ad (va_up Ls i res.2) Hs T M dr hs o od) t.heap) (Afr ad s.heap.size)) args s 0 0 (Afr ad s.heap.size)) (F0 m 0 ls []) := by
  unfold f_X4_dropAfter at h
  refine lv_aload_n C.1 C.2.1 dX4_dropAfter_0 rfl (lv_at hl 0 rfl) ?_
  obtain ⟨v1, ev1, h⟩ := lt_out h
  refine k_geti C G hP (v_sto hi) rfl 3 (by decide) n_X4_dropAfter_X4 q_X4_dropAfter_0 rfl ev1 dX4_dropAfter_1 ?_
  refine lv_istore_n (lv' := [(2, .int v1), (0, .ref (ad (5 + 14 * i + 10))), (1, .int x1)]) C.1 C.2.1 dX4_dropAfter_4 rfl hl (by decide) rfl (fun ls hl => ?_)
  refine lv_aload_n C.1 C.2.1 dX4_dropAfter_5 rfl (lv_at hl 1 rfl) ?_
  refine lv_iconst (v := 0) C.1 C.2.1 dX4_dropAfter_6 (by decide) ?_
  obtain ⟨L2, eL2, h⟩ := lt_out h
  refine k_puti C G hP hS (v_sto hi) rfl 3 (by decide) n_X4_dropAfter_X4 q_X4_dropAfter_0 tyX4_ok nmX4 rfl (tyX4_ok 3 (by decide)) (Nat.le_of_ble_eq_true rfl) (v_stoS3 hi) dX4_dropAfter_7 (fun H locs hP hS => ?_)
  rw [← eL2] at hP
  refine lv_iconst (v := 0) C.1 C.2.1 dX4_dropAfter_10 (by decide) ?_
  refine lv_istore_n (lv' := [(3, .int 0), (2, .int v1), (0, .ref (ad (5 + 14 * i + 10))), (1, .int x1)]) C.1 C.2.1 dX4_dropAfter_11 rfl hl (by decide) rfl (fun ls hl => ?_)
  exact w_X4_dropAfter_h12 C G hi fuel hP hS (lv_sub hl [2, 3, 1, 0] rfl) h
set_option maxRecDepth 100000 in
set_option maxHeartbeats 4000000 in
theorem m_X4_dropAfter (l : Launch) {D : va_G} {cs : Nat → ClassId} {ad : Nat → Nat} (hAd : adOK ad) (sz : Nat) {i : Nat} (hi : i < 6) {Ls : Nat → SL} {Hs : SL} {T : SL} {M : SL} {dr : Int64} {hs : Int64} {o : Int64} {od : UInt64} {L : SL} {x1 : Int32} {res : Int32 × SL} (h : f_X4_dropAfter L x1 = some res) : Met l yX4_dropAfter wsX4_dropAfter rmX4_dropAfter (PA D cs sz (wA cs ad (va_up Ls i L) Hs T M dr hs o od) [.ref (ad (5 + 14 * i + 10)), .int x1]) (va_Qi (fun r' (_ : Unit) => r' = res.1) (fun _ t => va_P D vwCl (wA cs ad (va_up Ls i res.2) Hs T M dr hs o od) t.heap) (Afr ad sz)) 0 0 (Afr ad sz) :=
  k_met (by decide) rfl (Nat.le_of_ble_eq_true rfl) hAd (fun p e s m below meth c ls C G hP hsz hl hS => by
    subst hsz
    exact w_X4_dropAfter_e C G hi hP hS hl  h)
/-! X4 value -/
abbrev rmX4_value : Room := { frames := 0, cells := 0, slots := 0, locals := 0 }
theorem q_X4_value_0 : Cond.fieldLink RX4 18 "LineBuffers$Stops" "durationOf" "[I" ∈ wsX4_value := List.mem_of_getElem? (i := 3) rfl
theorem q_X4_value_1 : Cond.fieldLink RX4 15 "LineBuffers$Stops" "firstOf" "[I" ∈ wsX4_value := List.mem_of_getElem? (i := 2) rfl
theorem q_X4_value_2 : Cond.fieldLink RX4 9 "LineBuffers$Stops" "machineOf" "[I" ∈ wsX4_value := List.mem_of_getElem? (i := 1) rfl
theorem n_X4_value_X4 : ∀ x ∈ u_ws RX4 TX4 5, x ∈ wsX4_value := fun x h => List.mem_cons_of_mem _ (List.mem_append_right _ h)
set_option maxRecDepth 100000 in
set_option maxHeartbeats 4000000 in
theorem w_X4_value_e {res : Int32} (C : Cx p s m args meth c cX4_value 3 (some .int) RX4 wsX4_value) (G : Gx D cs ad s) {i : Nat} (hi : i < 6) {Ls : Nat → SL} {Hs : SL} {T : SL} {M : SL} {dr : Int64} {hs : Int64} {o : Int64} {od : UInt64} {L : SL} {x1 : Int32} {x2 : Int32} {H : Heap} {locs : List Loc} {ls : Array Slot} (hP : va_P D vwCl (wA cs ad (va_up Ls i L) Hs T M dr hs o od) H) (hS : va_S (Afr ad s.heap.size) s.heap H locs) (hl : lv_has ls 3 [(0, .ref (ad (5 + 14 * i + 10))), (1, .int x1), (2, .int x2)]) (h : f_X4_value L x1 x2 = some res) : W p l e rmX4_value s m args below meth c H locs 0 0 (MQ below (va_Qi (fun r' (_ : Unit) => r' = res) (fun _ t => va_P D vwCl (wA cs ad (va_up Ls i L) Hs T M dr hs o od) t.heap) (Afr ad s.heap.size)) args s 0 0 (Afr ad s.heap.size)) (F0 m 0 ls []) := by
  unfold f_X4_value at h
  refine lv_iload_n C.1 C.2.1 dX4_value_0 rfl (lv_at hl 2 rfl) ?_
  refine lv_if_ne (tgt := 11) C.1 C.2.1 dX4_value_1 (by decide) (fun c1 => ?_) (fun c1 => ?_)
  · have h := if_t c1 h
    refine lv_iload_n C.1 C.2.1 dX4_value_11 rfl (lv_at hl 2 rfl) ?_
    refine lv_iconst (v := 1) C.1 C.2.1 dX4_value_12 (by decide) ?_
    refine lv_icmp_ne (tgt := 25) C.1 C.2.1 dX4_value_13 (by decide) (fun c2 => ?_) (fun c2 => ?_)
    · have h := if_t c2 h
      refine lv_aload_n C.1 C.2.1 dX4_value_25 rfl (lv_at hl 0 rfl) ?_
      refine k_getf C G hP (v_sto hi) rfl 2 (by decide) n_X4_value_X4 q_X4_value_0 (v := .ref (ad (5 + 14 * i + 13))) rfl dX4_value_26 ?_
      refine lv_iload_n C.1 C.2.1 dX4_value_29 rfl (lv_at hl 1 rfl) ?_
      obtain ⟨g3, h⟩ := gd_out h
      have g3 := chk_in g3
      obtain ⟨v4, ev4, h⟩ := lt_out h
      refine k_iald C G hP (v_sar hi (k := 13) (by decide)) g3 (j := x1.toNatClampNeg) rfl ev4 dX4_value_30 ?_
      cases h
      exact k_iret C hP hS dX4_value_31
    · have h := if_n c2 h
      refine lv_aload_n C.1 C.2.1 dX4_value_16 rfl (lv_at hl 0 rfl) ?_
      refine k_getf C G hP (v_sto hi) rfl 1 (by decide) n_X4_value_X4 q_X4_value_1 (v := .ref (ad (5 + 14 * i + 12))) rfl dX4_value_17 ?_
      refine lv_iload_n C.1 C.2.1 dX4_value_20 rfl (lv_at hl 1 rfl) ?_
      obtain ⟨g5, h⟩ := gd_out h
      have g5 := chk_in g5
      obtain ⟨v6, ev6, h⟩ := lt_out h
      refine k_iald C G hP (v_sar hi (k := 12) (by decide)) g5 (j := x1.toNatClampNeg) rfl ev6 dX4_value_21 ?_
      refine lv_goto (tgt := 31) C.1 C.2.1 dX4_value_22 (by decide) ?_
      cases h
      exact k_iret C hP hS dX4_value_31
  · have h := if_n c1 h
    refine lv_aload_n C.1 C.2.1 dX4_value_4 rfl (lv_at hl 0 rfl) ?_
    refine k_getf C G hP (v_sto hi) rfl 0 (by decide) n_X4_value_X4 q_X4_value_2 (v := .ref (ad (5 + 14 * i + 11))) rfl dX4_value_5 ?_
    refine lv_iload_n C.1 C.2.1 dX4_value_8 rfl (lv_at hl 1 rfl) ?_
    obtain ⟨g7, h⟩ := gd_out h
    have g7 := chk_in g7
    obtain ⟨v8, ev8, h⟩ := lt_out h
    refine k_iald C G hP (v_sar hi (k := 11) (by decide)) g7 (j := x1.toNatClampNeg) rfl ev8 dX4_value_9 ?_
    cases h
    exact k_iret C hP hS dX4_value_10
set_option maxRecDepth 100000 in
set_option maxHeartbeats 4000000 in
theorem m_X4_value (l : Launch) {D : va_G} {cs : Nat → ClassId} {ad : Nat → Nat} (hAd : adOK ad) (sz : Nat) {i : Nat} (hi : i < 6) {Ls : Nat → SL} {Hs : SL} {T : SL} {M : SL} {dr : Int64} {hs : Int64} {o : Int64} {od : UInt64} {L : SL} {x1 : Int32} {x2 : Int32} {res : Int32} (h : f_X4_value L x1 x2 = some res) : Met l yX4_value wsX4_value rmX4_value (PA D cs sz (wA cs ad (va_up Ls i L) Hs T M dr hs o od) [.ref (ad (5 + 14 * i + 10)), .int x1, .int x2]) (va_Qi (fun r' (_ : Unit) => r' = res) (fun _ t => va_P D vwCl (wA cs ad (va_up Ls i L) Hs T M dr hs o od) t.heap) (Afr ad sz)) 0 0 (Afr ad sz) :=
  k_met (by decide) rfl (Nat.le_of_ble_eq_true rfl) hAd (fun p e s m below meth c ls C G hP hsz hl hS => by
    subst hsz
    exact w_X4_value_e C G hi hP hS hl  h)
/-! X4 lookAt -/
abbrev rmX4_lookAt : Room := { frames := 1, cells := 0, slots := 0, locals := 24 }
theorem q_X4_lookAt_0 : Cond.constant RX4 37 (2147483647) ∈ wsX4_lookAt := List.mem_of_getElem? (i := 1) rfl
theorem q_X4_lookAt_1 : Cond.fieldLink RX4 38 "LineBuffers$Stops" "downBits" "I" ∈ wsX4_lookAt := List.mem_of_getElem? (i := 2) rfl
theorem q_X4_lookAt_2 : Cond.fieldLink RX4 21 "LineBuffers$Stops" "planned" "I" ∈ wsX4_lookAt := List.mem_of_getElem? (i := 3) rfl
theorem q_X4_lookAt_3 : Cond.fieldLink RX4 15 "LineBuffers$Stops" "firstOf" "[I" ∈ wsX4_lookAt := List.mem_of_getElem? (i := 4) rfl
theorem q_X4_lookAt_4 : Cond.fieldLink RX4 18 "LineBuffers$Stops" "durationOf" "[I" ∈ wsX4_lookAt := List.mem_of_getElem? (i := 5) rfl
theorem q_X4_lookAt_5 : Cond.fieldLink RX4 9 "LineBuffers$Stops" "machineOf" "[I" ∈ wsX4_lookAt := List.mem_of_getElem? (i := 10) rfl
theorem q_X4_lookAt_6 : Cond.methodLink RX4 41 Lib.Math.min.name ∈ wsX4_lookAt := List.mem_of_getElem? (i := 6) rfl
theorem q_X4_lookAt_7 : Cond.static Lib.Math.min.name ∈ wsX4_lookAt := List.mem_of_getElem? (i := 7) rfl
theorem q_X4_lookAt_8 : Cond.initialized "java/lang/Math" ∈ wsX4_lookAt := List.mem_of_getElem? (i := 8) rfl
theorem q_X4_lookAt_9 : Cond.code Lib.Math.min.name Lib.Math.min.code 2 (some .int) ∈ wsX4_lookAt := List.mem_of_getElem? (i := 9) rfl
theorem n_X4_lookAt_X4 : ∀ x ∈ u_ws RX4 TX4 5, x ∈ wsX4_lookAt := fun x h => List.mem_cons_of_mem _ (List.mem_append_right _ h)
set_option maxRecDepth 100000 in
set_option maxHeartbeats 4000000 in
theorem w_X4_lookAt_b83 {res : Int32 × SL} (C : Cx p s m args meth c cX4_lookAt 6 (some .int) RX4 wsX4_lookAt) (G : Gx D cs ad s) {i : Nat} (hi : i < 6) {Ls : Nat → SL} {Hs : SL} {T : SL} {M : SL} {dr : Int64} {hs : Int64} {o : Int64} {od : UInt64} {K10 : SL → Int32 → Int32 → Int32 → Option (Int32 × SL)} (hK10 : ∀ {L : SL} {x1 : Int32} {x2 : Int32} {x3 : Int32} {H : Heap} {locs : List Loc} {ls : Array Slot}, va_P D vwCl (wA cs ad (va_up Ls i L) Hs T M dr hs o od) H → va_S (Afr ad s.heap.size) s.heap H locs → lv_has ls 6 [(0, .ref (ad (5 + 14 * i + 10))), (1, .int x1), (2, .int x2), (3, .int x3)] → K10 L x1 x2 x3 = some res → W p l e rmX4_lookAt s m args below meth c H locs 0 0 (MQ below (va_Qi (fun r' (_ : Unit) => r' = res.1) (fun _ t => va_P D vwCl (wA cs ad (va_up Ls i res.2) Hs T M dr hs o od) t.heap) (Afr ad s.heap.size)) args s 0 0 (Afr ad s.heap.size)) (F0 m 10 ls [])) {L : SL} {x1 : Int32} {x2 : Int32} {x3 : Int32} {H : Heap} {locs : List Loc} {ls : Array Slot} (hP : va_P D vwCl (wA cs ad (va_up Ls i L) Hs T M dr hs o od) H) (hS : va_S (Afr ad s.heap.size) s.heap H locs) (hl : lv_has ls 6 [(0, .ref (ad (5 + 14 * i + 10))), (1, .int x1), (2, .int x2), (3, .int x3)]) (h : f_X4_lookAt_b83 K10 L x1 x2 x3 = some res) : W p l e rmX4_lookAt s m args below meth c H locs 0 0 (MQ below (va_Qi (fun r' (_ : Unit) => r' = res.1) (fun _ t => va_P D vwCl (wA cs ad (va_up Ls i res.2) Hs T M dr hs o od) t.heap) (Afr ad s.heap.size)) args s 0 0 (Afr ad s.heap.size)) (F0 m 83 ls []) := by
  unfold f_X4_lookAt_b83 at h
  obtain ⟨z1, ez1, h⟩ := lt_out h
  refine lv_iinc (v := z1) (lv' := [(3, .int z1), (0, .ref (ad (5 + 14 * i + 10))), (1, .int x1), (2, .int x2)]) C.1 C.2.1 dX4_lookAt_83 hl (k := 3) rfl (by rw [ez1]; rfl) (by decide) rfl (fun ls hl => ?_)
  refine lv_goto (tgt := 10) C.1 C.2.1 dX4_lookAt_86 (by decide) ?_
  exact hK10 hP hS (lv_sub hl [1, 2, 3, 0] rfl)  h
set_option maxRecDepth 100000 in
set_option maxHeartbeats 4000000 in
theorem w_X4_lookAt_b10 {res : Int32 × SL} (C : Cx p s m args meth c cX4_lookAt 6 (some .int) RX4 wsX4_lookAt) (G : Gx D cs ad s) {i : Nat} (hi : i < 6) {Ls : Nat → SL} {Hs : SL} {T : SL} {M : SL} {dr : Int64} {hs : Int64} {o : Int64} {od : UInt64} {K10 : SL → Int32 → Int32 → Int32 → Option (Int32 × SL)} (hK10 : ∀ {L : SL} {x1 : Int32} {x2 : Int32} {x3 : Int32} {H : Heap} {locs : List Loc} {ls : Array Slot}, va_P D vwCl (wA cs ad (va_up Ls i L) Hs T M dr hs o od) H → va_S (Afr ad s.heap.size) s.heap H locs → lv_has ls 6 [(0, .ref (ad (5 + 14 * i + 10))), (1, .int x1), (2, .int x2), (3, .int x3)] → K10 L x1 x2 x3 = some res → W p l e rmX4_lookAt s m args below meth c H locs 0 0 (MQ below (va_Qi (fun r' (_ : Unit) => r' = res.1) (fun _ t => va_P D vwCl (wA cs ad (va_up Ls i res.2) Hs T M dr hs o od) t.heap) (Afr ad s.heap.size)) args s 0 0 (Afr ad s.heap.size)) (F0 m 10 ls [])) {L : SL} {x1 : Int32} {x2 : Int32} {x3 : Int32} {H : Heap} {locs : List Loc} {ls : Array Slot} (hP : va_P D vwCl (wA cs ad (va_up Ls i L) Hs T M dr hs o od) H) (hS : va_S (Afr ad s.heap.size) s.heap H locs) (hl : lv_has ls 6 [(0, .ref (ad (5 + 14 * i + 10))), (1, .int x1), (2, .int x2), (3, .int x3)]) (h : f_X4_lookAt_b10 K10 L x1 x2 x3 = some res) : W p l e rmX4_lookAt s m args below meth c H locs 0 0 (MQ below (va_Qi (fun r' (_ : Unit) => r' = res.1) (fun _ t => va_P D vwCl (wA cs ad (va_up Ls i res.2) Hs T M dr hs o od) t.heap) (Afr ad s.heap.size)) args s 0 0 (Afr ad s.heap.size)) (F0 m 10 ls []) := by
  unfold f_X4_lookAt_b10 at h
  refine lv_iload_n C.1 C.2.1 dX4_lookAt_10 rfl (lv_at hl 3 rfl) ?_
  refine lv_aload_n C.1 C.2.1 dX4_lookAt_11 rfl (lv_at hl 0 rfl) ?_
  obtain ⟨v1, ev1, h⟩ := lt_out h
  refine k_geti C G hP (v_sto hi) rfl 3 (by decide) n_X4_lookAt_X4 q_X4_lookAt_2 rfl ev1 dX4_lookAt_12 ?_
  refine lv_icmp_ge (tgt := 89) C.1 C.2.1 dX4_lookAt_15 (by decide) (fun c2 => ?_) (fun c2 => ?_)
  · have h := if_t c2 h
    refine lv_iload_n C.1 C.2.1 dX4_lookAt_89 rfl (lv_at hl 2 rfl) ?_
    cases h
    exact k_iret C hP hS dX4_lookAt_90
  · have h := if_f c2 h
    refine lv_aload_n C.1 C.2.1 dX4_lookAt_18 rfl (lv_at hl 0 rfl) ?_
    refine k_getf C G hP (v_sto hi) rfl 1 (by decide) n_X4_lookAt_X4 q_X4_lookAt_3 (v := .ref (ad (5 + 14 * i + 12))) rfl dX4_lookAt_19 ?_
    refine lv_iload_n C.1 C.2.1 dX4_lookAt_22 rfl (lv_at hl 3 rfl) ?_
    obtain ⟨g3, h⟩ := gd_out h
    have g3 := chk_in g3
    obtain ⟨v4, ev4, h⟩ := lt_out h
    refine k_iald C G hP (v_sar hi (k := 12) (by decide)) g3 (j := x3.toNatClampNeg) rfl ev4 dX4_lookAt_23 ?_
    refine lv_istore (lv' := [(4, .int v4), (0, .ref (ad (5 + 14 * i + 10))), (1, .int x1), (2, .int x2), (3, .int x3)]) C.1 C.2.1 dX4_lookAt_24 hl (by decide) rfl (fun ls hl => ?_)
    refine lv_iload C.1 C.2.1 dX4_lookAt_26 (lv_at hl 0 rfl) ?_
    refine lv_aload_n C.1 C.2.1 dX4_lookAt_28 rfl (lv_at hl 1 rfl) ?_
    refine k_getf C G hP (v_sto hi) rfl 2 (by decide) n_X4_lookAt_X4 q_X4_lookAt_4 (v := .ref (ad (5 + 14 * i + 13))) rfl dX4_lookAt_29 ?_
    refine lv_iload_n C.1 C.2.1 dX4_lookAt_32 rfl (lv_at hl 4 rfl) ?_
    obtain ⟨v5, ev5, h⟩ := lt_out h
    refine k_iald C G hP (v_sar hi (k := 13) (by decide)) g3 (j := x3.toNatClampNeg) rfl ev5 dX4_lookAt_33 ?_
    obtain ⟨v6, ev6, h⟩ := lt_out h
    refine k_iadd C ev6 dX4_lookAt_34 ?_
    refine lv_istore (lv' := [(5, .int v6), (4, .int v4), (0, .ref (ad (5 + 14 * i + 10))), (1, .int x1), (2, .int x2), (3, .int x3)]) C.1 C.2.1 dX4_lookAt_35 hl (by decide) rfl (fun ls hl => ?_)
    refine lv_iload C.1 C.2.1 dX4_lookAt_37 (lv_at hl 1 rfl) ?_
    refine lv_iload_n C.1 C.2.1 dX4_lookAt_39 rfl (lv_at hl 3 rfl) ?_
    refine lv_icmp_le (tgt := 53) C.1 C.2.1 dX4_lookAt_40 (by decide) (fun c7 => ?_) (fun c7 => ?_)
    · have h := if_t c7 h
      refine lv_iload C.1 C.2.1 dX4_lookAt_53 (lv_at hl 0 rfl) ?_
      refine lv_iload_n C.1 C.2.1 dX4_lookAt_55 rfl (lv_at hl 3 rfl) ?_
      refine lv_icmp_le (tgt := 83) C.1 C.2.1 dX4_lookAt_56 (by decide) (fun c8 => ?_) (fun c8 => ?_)
      · have h := if_t c8 h
        exact w_X4_lookAt_b83 C G hi hK10 hP hS (lv_sub hl [2, 3, 4, 5] rfl) h
      · have h := if_f c8 h
        refine lv_aload_n C.1 C.2.1 dX4_lookAt_59 rfl (lv_at hl 2 rfl) ?_
        refine lv_dup C.1 C.2.1 dX4_lookAt_60 rfl ?_
        obtain ⟨v9, ev9, h⟩ := lt_out h
        refine k_geti C G hP (v_sto hi) rfl 4 (by decide) n_X4_lookAt_X4 q_X4_lookAt_1 rfl ev9 dX4_lookAt_61 ?_
        refine lv_iconst (v := 1) C.1 C.2.1 dX4_lookAt_64 (by decide) ?_
        refine lv_aload_n C.1 C.2.1 dX4_lookAt_65 rfl (lv_at hl 2 rfl) ?_
        refine k_getf C G hP (v_sto hi) rfl 0 (by decide) n_X4_lookAt_X4 q_X4_lookAt_5 (v := .ref (ad (5 + 14 * i + 11))) rfl dX4_lookAt_66 ?_
        refine lv_iload_n C.1 C.2.1 dX4_lookAt_69 rfl (lv_at hl 5 rfl) ?_
        obtain ⟨v10, ev10, h⟩ := lt_out h
        refine k_iald C G hP (v_sar hi (k := 11) (by decide)) g3 (j := x3.toNatClampNeg) rfl ev10 dX4_lookAt_70 ?_
        obtain ⟨v11, ev11, h⟩ := lt_out h
        refine k_ishl C ev11 dX4_lookAt_71 ?_
        obtain ⟨v12, ev12, h⟩ := lt_out h
        refine k_ior C ev12 dX4_lookAt_72 ?_
        obtain ⟨L13, eL13, h⟩ := lt_out h
        refine k_puti C G hP hS (v_sto hi) rfl 4 (by decide) n_X4_lookAt_X4 q_X4_lookAt_1 tyX4_ok nmX4 rfl (tyX4_ok 4 (by decide)) (Nat.le_of_ble_eq_true rfl) (v_stoS4 hi) dX4_lookAt_73 (fun H locs hP hS => ?_)
        rw [← eL13] at hP
        refine lv_iload_n C.1 C.2.1 dX4_lookAt_76 rfl (lv_at hl 4 rfl) ?_
        refine lv_iload C.1 C.2.1 dX4_lookAt_77 (lv_at hl 0 rfl) ?_
        obtain ⟨v14, ev14, h⟩ := lt_out h
        refine k_min C G hl.1 q_X4_lookAt_6 q_X4_lookAt_7 q_X4_lookAt_8 q_X4_lookAt_9 (Nat.le_of_ble_eq_true rfl) (Nat.le_of_ble_eq_true rfl) (Nat.le_of_ble_eq_true rfl) (Nat.le_of_ble_eq_true rfl) ev14 dX4_lookAt_79 ?_
        refine lv_istore_n (lv' := [(2, .int v14), (5, .int v6), (4, .int v4), (0, .ref (ad (5 + 14 * i + 10))), (1, .int x1), (3, .int x3)]) C.1 C.2.1 dX4_lookAt_82 rfl hl (by decide) rfl (fun ls hl => ?_)
        exact w_X4_lookAt_b83 C G hi hK10 hP hS (lv_sub hl [3, 4, 0, 5] rfl) h
    · have h := if_f c7 h
      refine lv_iload_n C.1 C.2.1 dX4_lookAt_43 rfl (lv_at hl 4 rfl) ?_
      refine lv_iload C.1 C.2.1 dX4_lookAt_44 (lv_at hl 1 rfl) ?_
      obtain ⟨v15, ev15, h⟩ := lt_out h
      refine k_min C G hl.1 q_X4_lookAt_6 q_X4_lookAt_7 q_X4_lookAt_8 q_X4_lookAt_9 (Nat.le_of_ble_eq_true rfl) (Nat.le_of_ble_eq_true rfl) (Nat.le_of_ble_eq_true rfl) (Nat.le_of_ble_eq_true rfl) ev15 dX4_lookAt_46 ?_
      refine lv_istore_n (lv' := [(2, .int v15), (5, .int v6), (4, .int v4), (0, .ref (ad (5 + 14 * i + 10))), (1, .int x1), (3, .int x3)]) C.1 C.2.1 dX4_lookAt_49 rfl hl (by decide) rfl (fun ls hl => ?_)
      refine lv_goto (tgt := 83) C.1 C.2.1 dX4_lookAt_50 (by decide) ?_
      exact w_X4_lookAt_b83 C G hi hK10 hP hS (lv_sub hl [3, 4, 0, 5] rfl) h
set_option maxRecDepth 100000 in
set_option maxHeartbeats 4000000 in
theorem w_X4_lookAt_h10 {res : Int32 × SL} (C : Cx p s m args meth c cX4_lookAt 6 (some .int) RX4 wsX4_lookAt) (G : Gx D cs ad s) {i : Nat} (hi : i < 6) {Ls : Nat → SL} {Hs : SL} {T : SL} {M : SL} {dr : Int64} {hs : Int64} {o : Int64} {od : UInt64} : ∀ (n : Nat) {L : SL} {x1 : Int32} {x2 : Int32} {x3 : Int32} {H : Heap} {locs : List Loc} {ls : Array Slot}, va_P D vwCl (wA cs ad (va_up Ls i L) Hs T M dr hs o od) H → va_S (Afr ad s.heap.size) s.heap H locs → lv_has ls 6 [(0, .ref (ad (5 + 14 * i + 10))), (1, .int x1), (2, .int x2), (3, .int x3)] → f_X4_lookAt_h10 n L x1 x2 x3 = some res → W p l e rmX4_lookAt s m args below meth c H locs 0 0 (MQ below (va_Qi (fun r' (_ : Unit) => r' = res.1) (fun _ t => va_P D vwCl (wA cs ad (va_up Ls i res.2) Hs T M dr hs o od) t.heap) (Afr ad s.heap.size)) args s 0 0 (Afr ad s.heap.size)) (F0 m 10 ls []) := by
  intro n
  induction n with
  | zero => intro L x1 x2 x3 H locs ls hP hS hl  h; cases h
  | succ n ih => intro L x1 x2 x3 H locs ls hP hS hl  h; exact w_X4_lookAt_b10 C G hi  ih hP hS hl  h
set_option maxRecDepth 100000 in
set_option maxHeartbeats 4000000 in
theorem w_X4_lookAt_e {res : Int32 × SL} (C : Cx p s m args meth c cX4_lookAt 6 (some .int) RX4 wsX4_lookAt) (G : Gx D cs ad s) {i : Nat} (hi : i < 6) {Ls : Nat → SL} {Hs : SL} {T : SL} {M : SL} {dr : Int64} {hs : Int64} {o : Int64} {od : UInt64} {L : SL} {x1 : Int32} {H : Heap} {locs : List Loc} {ls : Array Slot} (hP : va_P D vwCl (wA cs ad (va_up Ls i L) Hs T M dr hs o od) H) (hS : va_S (Afr ad s.heap.size) s.heap H locs) (hl : lv_has ls 6 [(0, .ref (ad (5 + 14 * i + 10))), (1, .int x1)]) (h : f_X4_lookAt L x1 = some res) : W p l e rmX4_lookAt s m args below meth c H locs 0 0 (MQ below (va_Qi (fun r' (_ : Unit) => r' = res.1) (fun _ t => va_P D vwCl (wA cs ad (va_up Ls i res.2) Hs T M dr hs o od) t.heap) (Afr ad s.heap.size)) args s 0 0 (Afr ad s.heap.size)) (F0 m 0 ls []) := by
  unfold f_X4_lookAt at h
  refine k_ldci C G q_X4_lookAt_0 dX4_lookAt_0 ?_
  refine lv_istore_n (lv' := [(2, .int 2147483647), (0, .ref (ad (5 + 14 * i + 10))), (1, .int x1)]) C.1 C.2.1 dX4_lookAt_2 rfl hl (by decide) rfl (fun ls hl => ?_)
  refine lv_aload_n C.1 C.2.1 dX4_lookAt_3 rfl (lv_at hl 1 rfl) ?_
  refine lv_iconst (v := 0) C.1 C.2.1 dX4_lookAt_4 (by decide) ?_
  obtain ⟨L1, eL1, h⟩ := lt_out h
  refine k_puti C G hP hS (v_sto hi) rfl 4 (by decide) n_X4_lookAt_X4 q_X4_lookAt_1 tyX4_ok nmX4 rfl (tyX4_ok 4 (by decide)) (Nat.le_of_ble_eq_true rfl) (v_stoS4 hi) dX4_lookAt_5 (fun H locs hP hS => ?_)
  rw [← eL1] at hP
  refine lv_iconst (v := 0) C.1 C.2.1 dX4_lookAt_8 (by decide) ?_
  refine lv_istore_n (lv' := [(3, .int 0), (2, .int 2147483647), (0, .ref (ad (5 + 14 * i + 10))), (1, .int x1)]) C.1 C.2.1 dX4_lookAt_9 rfl hl (by decide) rfl (fun ls hl => ?_)
  exact w_X4_lookAt_h10 C G hi fuel hP hS (lv_sub hl [2, 3, 1, 0] rfl) h
set_option maxRecDepth 100000 in
set_option maxHeartbeats 4000000 in
theorem m_X4_lookAt (l : Launch) {D : va_G} {cs : Nat → ClassId} {ad : Nat → Nat} (hAd : adOK ad) (sz : Nat) {i : Nat} (hi : i < 6) {Ls : Nat → SL} {Hs : SL} {T : SL} {M : SL} {dr : Int64} {hs : Int64} {o : Int64} {od : UInt64} {L : SL} {x1 : Int32} {res : Int32 × SL} (h : f_X4_lookAt L x1 = some res) : Met l yX4_lookAt wsX4_lookAt rmX4_lookAt (PA D cs sz (wA cs ad (va_up Ls i L) Hs T M dr hs o od) [.ref (ad (5 + 14 * i + 10)), .int x1]) (va_Qi (fun r' (_ : Unit) => r' = res.1) (fun _ t => va_P D vwCl (wA cs ad (va_up Ls i res.2) Hs T M dr hs o od) t.heap) (Afr ad sz)) 0 0 (Afr ad sz) :=
  k_met (by decide) rfl (Nat.le_of_ble_eq_true rfl) hAd (fun p e s m below meth c ls C G hP hsz hl hS => by
    subst hsz
    exact w_X4_lookAt_e C G hi hP hS hl  h)
/-! X4 isDown -/
abbrev rmX4_isDown : Room := { frames := 0, cells := 0, slots := 0, locals := 0 }
theorem q_X4_isDown_0 : Cond.fieldLink RX4 38 "LineBuffers$Stops" "downBits" "I" ∈ wsX4_isDown := List.mem_of_getElem? (i := 1) rfl
theorem n_X4_isDown_X4 : ∀ x ∈ u_ws RX4 TX4 5, x ∈ wsX4_isDown := fun x h => List.mem_cons_of_mem _ (List.mem_append_right _ h)
set_option maxRecDepth 100000 in
set_option maxHeartbeats 4000000 in
theorem w_X4_isDown_e {res : Int32} (C : Cx p s m args meth c cX4_isDown 2 (some .boolean) RX4 wsX4_isDown) (G : Gx D cs ad s) {i : Nat} (hi : i < 6) {Ls : Nat → SL} {Hs : SL} {T : SL} {M : SL} {dr : Int64} {hs : Int64} {o : Int64} {od : UInt64} {L : SL} {x1 : Int32} {H : Heap} {locs : List Loc} {ls : Array Slot} (hP : va_P D vwCl (wA cs ad (va_up Ls i L) Hs T M dr hs o od) H) (hS : va_S (Afr ad s.heap.size) s.heap H locs) (hl : lv_has ls 2 [(0, .ref (ad (5 + 14 * i + 10))), (1, .int x1)]) (h : f_X4_isDown L x1 = some res) : W p l e rmX4_isDown s m args below meth c H locs 0 0 (MQ below (va_Qi (fun r' (_ : Unit) => r' = res) (fun _ t => va_P D vwCl (wA cs ad (va_up Ls i L) Hs T M dr hs o od) t.heap) (Afr ad s.heap.size)) args s 0 0 (Afr ad s.heap.size)) (F0 m 0 ls []) := by
  unfold f_X4_isDown at h
  refine lv_aload_n C.1 C.2.1 dX4_isDown_0 rfl (lv_at hl 0 rfl) ?_
  obtain ⟨v1, ev1, h⟩ := lt_out h
  refine k_geti C G hP (v_sto hi) rfl 4 (by decide) n_X4_isDown_X4 q_X4_isDown_0 rfl ev1 dX4_isDown_1 ?_
  refine lv_iload_n C.1 C.2.1 dX4_isDown_4 rfl (lv_at hl 1 rfl) ?_
  obtain ⟨v2, ev2, h⟩ := lt_out h
  refine k_ishr C ev2 dX4_isDown_5 ?_
  refine lv_iconst (v := 1) C.1 C.2.1 dX4_isDown_6 (by decide) ?_
  obtain ⟨v3, ev3, h⟩ := lt_out h
  refine k_iand C ev3 dX4_isDown_7 ?_
  refine lv_iconst (v := 1) C.1 C.2.1 dX4_isDown_8 (by decide) ?_
  refine lv_icmp_ne (tgt := 16) C.1 C.2.1 dX4_isDown_9 (by decide) (fun c4 => ?_) (fun c4 => ?_)
  · have h := if_t c4 h
    refine lv_iconst (v := 0) C.1 C.2.1 dX4_isDown_16 (by decide) ?_
    cases h
    exact k_zret C hP hS rfl dX4_isDown_17
  · have h := if_n c4 h
    refine lv_iconst (v := 1) C.1 C.2.1 dX4_isDown_12 (by decide) ?_
    refine lv_goto (tgt := 17) C.1 C.2.1 dX4_isDown_13 (by decide) ?_
    cases h
    exact k_zret C hP hS rfl dX4_isDown_17
set_option maxRecDepth 100000 in
set_option maxHeartbeats 4000000 in
theorem m_X4_isDown (l : Launch) {D : va_G} {cs : Nat → ClassId} {ad : Nat → Nat} (hAd : adOK ad) (sz : Nat) {i : Nat} (hi : i < 6) {Ls : Nat → SL} {Hs : SL} {T : SL} {M : SL} {dr : Int64} {hs : Int64} {o : Int64} {od : UInt64} {L : SL} {x1 : Int32} {res : Int32} (h : f_X4_isDown L x1 = some res) : Met l yX4_isDown wsX4_isDown rmX4_isDown (PA D cs sz (wA cs ad (va_up Ls i L) Hs T M dr hs o od) [.ref (ad (5 + 14 * i + 10)), .int x1]) (va_Qi (fun r' (_ : Unit) => r' = res) (fun _ t => va_P D vwCl (wA cs ad (va_up Ls i L) Hs T M dr hs o od) t.heap) (Afr ad sz)) 0 0 (Afr ad sz) :=
  k_met (by decide) rfl (Nat.le_of_ble_eq_true rfl) hAd (fun p e s m below meth c ls C G hP hsz hl hS => by
    subst hsz
    exact w_X4_isDown_e C G hi hP hS hl  h)
/-! X4 mixInto -/
abbrev rmX4_mixInto : Room := { frames := 1, cells := 0, slots := 0, locals := 22 }
theorem q_X4_mixInto_0 : Cond.constantLong RX4 47 (31) ∈ wsX4_mixInto := List.mem_of_getElem? (i := 1) rfl
theorem q_X4_mixInto_1 : Cond.fieldLink RX4 21 "LineBuffers$Stops" "planned" "I" ∈ wsX4_mixInto := List.mem_of_getElem? (i := 2) rfl
theorem n_X4_mixInto_X4 : ∀ x ∈ u_ws RX4 TX4 5, x ∈ wsX4_mixInto := fun x h => List.mem_cons_of_mem _ (List.mem_append_right _ h)
set_option maxRecDepth 100000 in
set_option maxHeartbeats 4000000 in
theorem w_X4_mixInto_b27 {res : Int64} (C : Cx p s m args meth c cX4_mixInto 7 (some .long) RX4 wsX4_mixInto) (G : Gx D cs ad s) {i : Nat} (hi : i < 6) {Ls : Nat → SL} {Hs : SL} {T : SL} {M : SL} {dr : Int64} {hs : Int64} {o : Int64} {od : UInt64} {L : SL} {K15 : SL → Int64 → Int32 → Option (Int64)} (hK15 : ∀ {y3 : Int64} {x5 : Int32} {H : Heap} {locs : List Loc} {ls : Array Slot}, va_P D vwCl (wA cs ad (va_up Ls i L) Hs T M dr hs o od) H → va_S (Afr ad s.heap.size) s.heap H locs → lv_has ls 7 [(0, .ref (ad (5 + 14 * i + 10))), (3, .long y3), (5, .int x5)] → K15 L y3 x5 = some res → W p l e rmX4_mixInto s m args below meth c H locs 0 0 (MQ below (va_Ql (fun r' (_ : Unit) => r' = res) (fun _ t => va_P D vwCl (wA cs ad (va_up Ls i L) Hs T M dr hs o od) t.heap) (Afr ad s.heap.size)) args s 0 0 (Afr ad s.heap.size)) (F0 m 15 ls [])) {K27 : SL → Int64 → Int32 → Int32 → Option (Int64)} (hK27 : ∀ {y3 : Int64} {x5 : Int32} {x6 : Int32} {H : Heap} {locs : List Loc} {ls : Array Slot}, va_P D vwCl (wA cs ad (va_up Ls i L) Hs T M dr hs o od) H → va_S (Afr ad s.heap.size) s.heap H locs → lv_has ls 7 [(0, .ref (ad (5 + 14 * i + 10))), (3, .long y3), (5, .int x5), (6, .int x6)] → K27 L y3 x5 x6 = some res → W p l e rmX4_mixInto s m args below meth c H locs 0 0 (MQ below (va_Ql (fun r' (_ : Unit) => r' = res) (fun _ t => va_P D vwCl (wA cs ad (va_up Ls i L) Hs T M dr hs o od) t.heap) (Afr ad s.heap.size)) args s 0 0 (Afr ad s.heap.size)) (F0 m 27 ls [])) {y3 : Int64} {x5 : Int32} {x6 : Int32} {H : Heap} {locs : List Loc} {ls : Array Slot} (hP : va_P D vwCl (wA cs ad (va_up Ls i L) Hs T M dr hs o od) H) (hS : va_S (Afr ad s.heap.size) s.heap H locs) (hl : lv_has ls 7 [(0, .ref (ad (5 + 14 * i + 10))), (3, .long y3), (5, .int x5), (6, .int x6)]) (h : f_X4_mixInto_b27 K15 K27 L y3 x5 x6 = some res) : W p l e rmX4_mixInto s m args below meth c H locs 0 0 (MQ below (va_Ql (fun r' (_ : Unit) => r' = res) (fun _ t => va_P D vwCl (wA cs ad (va_up Ls i L) Hs T M dr hs o od) t.heap) (Afr ad s.heap.size)) args s 0 0 (Afr ad s.heap.size)) (F0 m 27 ls []) := by
  unfold f_X4_mixInto_b27 at h
  refine lv_iload C.1 C.2.1 dX4_mixInto_27 (lv_at hl 3 rfl) ?_
  refine lv_iconst (v := 3) C.1 C.2.1 dX4_mixInto_29 (by decide) ?_
  refine lv_icmp_ge (tgt := 55) C.1 C.2.1 dX4_mixInto_30 (by decide) (fun c1 => ?_) (fun c1 => ?_)
  · have h := if_t c1 h
    obtain ⟨z2, ez2, h⟩ := lt_out h
    refine lv_iinc (v := z2) (lv' := [(5, .int z2), (0, .ref (ad (5 + 14 * i + 10))), (3, .long y3), (6, .int x6)]) C.1 C.2.1 dX4_mixInto_55 hl (k := 2) rfl (by rw [ez2]; rfl) (by decide) rfl (fun ls hl => ?_)
    refine lv_goto (tgt := 15) C.1 C.2.1 dX4_mixInto_58 (by decide) ?_
    exact hK15 hP hS (lv_sub hl [1, 2, 0] rfl)  h
  · have h := if_f c1 h
    refine k_ldcl C G q_X4_mixInto_0 dX4_mixInto_33 ?_
    refine lv_lload_n C.1 C.2.1 dX4_mixInto_36 rfl (lv_at hl 1 rfl) ?_
    obtain ⟨w3, ew3, h⟩ := lt_out h
    refine k_lmul C ew3 dX4_mixInto_37 ?_
    refine lv_aload_n C.1 C.2.1 dX4_mixInto_38 rfl (lv_at hl 0 rfl) ?_
    refine lv_iload C.1 C.2.1 dX4_mixInto_39 (lv_at hl 2 rfl) ?_
    refine lv_iload C.1 C.2.1 dX4_mixInto_41 (lv_at hl 3 rfl) ?_
    obtain ⟨r4, c5, h⟩ := bd_out h
    refine k_callVi C G hP hS (m_X4_value l G.2.1 _ hi c5) (v_sto hi) rfl (cwV 2 C.2.2.2.2.2.1 gX4_mixInto_X4_value rfl rfl rfl (by decide +kernel) ⟨Nat.le_of_ble_eq_true rfl, Nat.le_of_ble_eq_true rfl⟩) (As := [.int x5, .int x6]) rfl hl.1 rfl (Nat.le_of_ble_eq_true rfl) dX4_mixInto_43 ⟨Nat.le_of_ble_eq_true rfl, Nat.le_of_ble_eq_true rfl⟩ (fun H locs hP hS => ?_)
    obtain ⟨w6, ew6, h⟩ := lt_out h
    refine k_i2l C ew6 dX4_mixInto_46 ?_
    obtain ⟨w7, ew7, h⟩ := lt_out h
    refine k_ladd C ew7 dX4_mixInto_47 ?_
    refine lv_lstore_n (lv' := [(3, .long w7), (0, .ref (ad (5 + 14 * i + 10))), (5, .int x5), (6, .int x6)]) C.1 C.2.1 dX4_mixInto_48 rfl hl (by decide) rfl (fun ls hl => ?_)
    obtain ⟨z8, ez8, h⟩ := lt_out h
    refine lv_iinc (v := z8) (lv' := [(6, .int z8), (3, .long w7), (0, .ref (ad (5 + 14 * i + 10))), (5, .int x5)]) C.1 C.2.1 dX4_mixInto_49 hl (k := 3) rfl (by rw [ez8]; rfl) (by decide) rfl (fun ls hl => ?_)
    refine lv_goto (tgt := 27) C.1 C.2.1 dX4_mixInto_52 (by decide) ?_
    exact hK27 hP hS (lv_sub hl [2, 1, 3, 0] rfl)  h
set_option maxRecDepth 100000 in
set_option maxHeartbeats 4000000 in
theorem w_X4_mixInto_h27 {res : Int64} (C : Cx p s m args meth c cX4_mixInto 7 (some .long) RX4 wsX4_mixInto) (G : Gx D cs ad s) {i : Nat} (hi : i < 6) {Ls : Nat → SL} {Hs : SL} {T : SL} {M : SL} {dr : Int64} {hs : Int64} {o : Int64} {od : UInt64} {L : SL} {K15 : SL → Int64 → Int32 → Option (Int64)} (hK15 : ∀ {y3 : Int64} {x5 : Int32} {H : Heap} {locs : List Loc} {ls : Array Slot}, va_P D vwCl (wA cs ad (va_up Ls i L) Hs T M dr hs o od) H → va_S (Afr ad s.heap.size) s.heap H locs → lv_has ls 7 [(0, .ref (ad (5 + 14 * i + 10))), (3, .long y3), (5, .int x5)] → K15 L y3 x5 = some res → W p l e rmX4_mixInto s m args below meth c H locs 0 0 (MQ below (va_Ql (fun r' (_ : Unit) => r' = res) (fun _ t => va_P D vwCl (wA cs ad (va_up Ls i L) Hs T M dr hs o od) t.heap) (Afr ad s.heap.size)) args s 0 0 (Afr ad s.heap.size)) (F0 m 15 ls [])) : ∀ (n : Nat) {y3 : Int64} {x5 : Int32} {x6 : Int32} {H : Heap} {locs : List Loc} {ls : Array Slot}, va_P D vwCl (wA cs ad (va_up Ls i L) Hs T M dr hs o od) H → va_S (Afr ad s.heap.size) s.heap H locs → lv_has ls 7 [(0, .ref (ad (5 + 14 * i + 10))), (3, .long y3), (5, .int x5), (6, .int x6)] → f_X4_mixInto_h27 K15 n L y3 x5 x6 = some res → W p l e rmX4_mixInto s m args below meth c H locs 0 0 (MQ below (va_Ql (fun r' (_ : Unit) => r' = res) (fun _ t => va_P D vwCl (wA cs ad (va_up Ls i L) Hs T M dr hs o od) t.heap) (Afr ad s.heap.size)) args s 0 0 (Afr ad s.heap.size)) (F0 m 27 ls []) := by
  intro n
  induction n with
  | zero => intro  y3 x5 x6 H locs ls hP hS hl  h; cases h
  | succ n ih => intro  y3 x5 x6 H locs ls hP hS hl  h; exact w_X4_mixInto_b27 C G hi hK15 ih hP hS hl  h
set_option maxRecDepth 100000 in
set_option maxHeartbeats 4000000 in
theorem w_X4_mixInto_b15 {res : Int64} (C : Cx p s m args meth c cX4_mixInto 7 (some .long) RX4 wsX4_mixInto) (G : Gx D cs ad s) {i : Nat} (hi : i < 6) {Ls : Nat → SL} {Hs : SL} {T : SL} {M : SL} {dr : Int64} {hs : Int64} {o : Int64} {od : UInt64} {L : SL} {K15 : SL → Int64 → Int32 → Option (Int64)} (hK15 : ∀ {y3 : Int64} {x5 : Int32} {H : Heap} {locs : List Loc} {ls : Array Slot}, va_P D vwCl (wA cs ad (va_up Ls i L) Hs T M dr hs o od) H → va_S (Afr ad s.heap.size) s.heap H locs → lv_has ls 7 [(0, .ref (ad (5 + 14 * i + 10))), (3, .long y3), (5, .int x5)] → K15 L y3 x5 = some res → W p l e rmX4_mixInto s m args below meth c H locs 0 0 (MQ below (va_Ql (fun r' (_ : Unit) => r' = res) (fun _ t => va_P D vwCl (wA cs ad (va_up Ls i L) Hs T M dr hs o od) t.heap) (Afr ad s.heap.size)) args s 0 0 (Afr ad s.heap.size)) (F0 m 15 ls [])) {y3 : Int64} {x5 : Int32} {H : Heap} {locs : List Loc} {ls : Array Slot} (hP : va_P D vwCl (wA cs ad (va_up Ls i L) Hs T M dr hs o od) H) (hS : va_S (Afr ad s.heap.size) s.heap H locs) (hl : lv_has ls 7 [(0, .ref (ad (5 + 14 * i + 10))), (3, .long y3), (5, .int x5)]) (h : f_X4_mixInto_b15 K15 L y3 x5 = some res) : W p l e rmX4_mixInto s m args below meth c H locs 0 0 (MQ below (va_Ql (fun r' (_ : Unit) => r' = res) (fun _ t => va_P D vwCl (wA cs ad (va_up Ls i L) Hs T M dr hs o od) t.heap) (Afr ad s.heap.size)) args s 0 0 (Afr ad s.heap.size)) (F0 m 15 ls []) := by
  unfold f_X4_mixInto_b15 at h
  refine lv_iload C.1 C.2.1 dX4_mixInto_15 (lv_at hl 2 rfl) ?_
  refine lv_aload_n C.1 C.2.1 dX4_mixInto_17 rfl (lv_at hl 0 rfl) ?_
  obtain ⟨v1, ev1, h⟩ := lt_out h
  refine k_geti C G hP (v_sto hi) rfl 3 (by decide) n_X4_mixInto_X4 q_X4_mixInto_1 rfl ev1 dX4_mixInto_18 ?_
  refine lv_icmp_ge (tgt := 61) C.1 C.2.1 dX4_mixInto_21 (by decide) (fun c2 => ?_) (fun c2 => ?_)
  · have h := if_t c2 h
    refine lv_lload_n C.1 C.2.1 dX4_mixInto_61 rfl (lv_at hl 1 rfl) ?_
    cases h
    exact k_lret C hP hS dX4_mixInto_62
  · have h := if_f c2 h
    refine lv_iconst (v := 0) C.1 C.2.1 dX4_mixInto_24 (by decide) ?_
    refine lv_istore (lv' := [(6, .int 0), (0, .ref (ad (5 + 14 * i + 10))), (3, .long y3), (5, .int x5)]) C.1 C.2.1 dX4_mixInto_25 hl (by decide) rfl (fun ls hl => ?_)
    exact w_X4_mixInto_h27 C G hi hK15 fuel hP hS (lv_sub hl [1, 2, 3, 0] rfl) h
set_option maxRecDepth 100000 in
set_option maxHeartbeats 4000000 in
theorem w_X4_mixInto_h15 {res : Int64} (C : Cx p s m args meth c cX4_mixInto 7 (some .long) RX4 wsX4_mixInto) (G : Gx D cs ad s) {i : Nat} (hi : i < 6) {Ls : Nat → SL} {Hs : SL} {T : SL} {M : SL} {dr : Int64} {hs : Int64} {o : Int64} {od : UInt64} {L : SL} : ∀ (n : Nat) {y3 : Int64} {x5 : Int32} {H : Heap} {locs : List Loc} {ls : Array Slot}, va_P D vwCl (wA cs ad (va_up Ls i L) Hs T M dr hs o od) H → va_S (Afr ad s.heap.size) s.heap H locs → lv_has ls 7 [(0, .ref (ad (5 + 14 * i + 10))), (3, .long y3), (5, .int x5)] → f_X4_mixInto_h15 n L y3 x5 = some res → W p l e rmX4_mixInto s m args below meth c H locs 0 0 (MQ below (va_Ql (fun r' (_ : Unit) => r' = res) (fun _ t => va_P D vwCl (wA cs ad (va_up Ls i L) Hs T M dr hs o od) t.heap) (Afr ad s.heap.size)) args s 0 0 (Afr ad s.heap.size)) (F0 m 15 ls []) := by
  intro n
  induction n with
  | zero => intro  y3 x5 H locs ls hP hS hl  h; cases h
  | succ n ih => intro  y3 x5 H locs ls hP hS hl  h; exact w_X4_mixInto_b15 C G hi  ih hP hS hl  h
set_option maxRecDepth 100000 in
set_option maxHeartbeats 4000000 in
theorem w_X4_mixInto_e {res : Int64} (C : Cx p s m args meth c cX4_mixInto 7 (some .long) RX4 wsX4_mixInto) (G : Gx D cs ad s) {i : Nat} (hi : i < 6) {Ls : Nat → SL} {Hs : SL} {T : SL} {M : SL} {dr : Int64} {hs : Int64} {o : Int64} {od : UInt64} {L : SL} {y1 : Int64} {H : Heap} {locs : List Loc} {ls : Array Slot} (hP : va_P D vwCl (wA cs ad (va_up Ls i L) Hs T M dr hs o od) H) (hS : va_S (Afr ad s.heap.size) s.heap H locs) (hl : lv_has ls 7 [(0, .ref (ad (5 + 14 * i + 10))), (1, .long y1)]) (h : f_X4_mixInto L y1 = some res) : W p l e rmX4_mixInto s m args below meth c H locs 0 0 (MQ below (va_Ql (fun r' (_ : Unit) => r' = res) (fun _ t => va_P D vwCl (wA cs ad (va_up Ls i L) Hs T M dr hs o od) t.heap) (Afr ad s.heap.size)) args s 0 0 (Afr ad s.heap.size)) (F0 m 0 ls []) := by
  unfold f_X4_mixInto at h
  refine k_ldcl C G q_X4_mixInto_0 dX4_mixInto_0 ?_
  refine lv_lload_n C.1 C.2.1 dX4_mixInto_3 rfl (lv_at hl 1 rfl) ?_
  obtain ⟨w1, ew1, h⟩ := lt_out h
  refine k_lmul C ew1 dX4_mixInto_4 ?_
  refine lv_aload_n C.1 C.2.1 dX4_mixInto_5 rfl (lv_at hl 0 rfl) ?_
  obtain ⟨v2, ev2, h⟩ := lt_out h
  refine k_geti C G hP (v_sto hi) rfl 3 (by decide) n_X4_mixInto_X4 q_X4_mixInto_1 rfl ev2 dX4_mixInto_6 ?_
  obtain ⟨w3, ew3, h⟩ := lt_out h
  refine k_i2l C ew3 dX4_mixInto_9 ?_
  obtain ⟨w4, ew4, h⟩ := lt_out h
  refine k_ladd C ew4 dX4_mixInto_10 ?_
  refine lv_lstore_n (lv' := [(3, .long w4), (0, .ref (ad (5 + 14 * i + 10))), (1, .long y1)]) C.1 C.2.1 dX4_mixInto_11 rfl hl (by decide) rfl (fun ls hl => ?_)
  refine lv_iconst (v := 0) C.1 C.2.1 dX4_mixInto_12 (by decide) ?_
  refine lv_istore (lv' := [(5, .int 0), (3, .long w4), (0, .ref (ad (5 + 14 * i + 10))), (1, .long y1)]) C.1 C.2.1 dX4_mixInto_13 hl (by decide) rfl (fun ls hl => ?_)
  exact w_X4_mixInto_h15 C G hi fuel hP hS (lv_sub hl [2, 1, 0] rfl) h
set_option maxRecDepth 100000 in
set_option maxHeartbeats 4000000 in
theorem m_X4_mixInto (l : Launch) {D : va_G} {cs : Nat → ClassId} {ad : Nat → Nat} (hAd : adOK ad) (sz : Nat) {i : Nat} (hi : i < 6) {Ls : Nat → SL} {Hs : SL} {T : SL} {M : SL} {dr : Int64} {hs : Int64} {o : Int64} {od : UInt64} {L : SL} {y1 : Int64} {res : Int64} (h : f_X4_mixInto L y1 = some res) : Met l yX4_mixInto wsX4_mixInto rmX4_mixInto (PA D cs sz (wA cs ad (va_up Ls i L) Hs T M dr hs o od) [.ref (ad (5 + 14 * i + 10)), .long y1]) (va_Ql (fun r' (_ : Unit) => r' = res) (fun _ t => va_P D vwCl (wA cs ad (va_up Ls i L) Hs T M dr hs o od) t.heap) (Afr ad sz)) 0 0 (Afr ad sz) :=
  k_met (by decide) rfl (Nat.le_of_ble_eq_true rfl) hAd (fun p e s m below meth c ls C G hP hsz hl hS => by
    subst hsz
    exact w_X4_mixInto_e C G hi hP hS hl  h)
end GEN
end
section
section GEN
variable {p : Program} {l : Launch} {e : Env} {s : State} {m : MethodId} {args : Array Value} {below : List Frame} {meth : Method} {c : Code} {D : va_G} {cs : Nat → ClassId} {ad : Nat → Nat}
/-! X2 copy -/
abbrev rmX2_copy : Room := { frames := 2, cells := 0, slots := 0, locals := 70 }
theorem q_X2_copy_0 : Cond.fieldLink RX2 23 "LineBuffers$Line" "machines" "I" ∈ wsX2_copy := List.mem_of_getElem? (i := 1) rfl
theorem q_X2_copy_1 : Cond.fieldLink RX2 19 "LineBuffers$Line" "stops" "LLineBuffers$Stops;" ∈ wsX2_copy := List.mem_of_getElem? (i := 7) rfl
theorem q_X2_copy_2 : Cond.fieldLink RX2 37 "LineBuffers$Line" "tick" "I" ∈ wsX2_copy := List.mem_of_getElem? (i := 8) rfl
theorem q_X2_copy_3 : Cond.fieldLink RX2 11 "LineBuffers$Line" "rows" "[[I" ∈ wsX2_copy := List.mem_of_getElem? (i := 2) rfl
theorem q_X2_copy_4 : Cond.methodLink RX2 27 arraycopyName ∈ wsX2_copy := List.mem_of_getElem? (i := 3) rfl
theorem q_X2_copy_5 : Cond.native arraycopyName ∈ wsX2_copy := List.mem_of_getElem? (i := 4) rfl
theorem q_X2_copy_6 : Cond.static arraycopyName ∈ wsX2_copy := List.mem_of_getElem? (i := 5) rfl
theorem q_X2_copy_7 : Cond.initialized "java/lang/System" ∈ wsX2_copy := List.mem_of_getElem? (i := 6) rfl
theorem n_X2_copy_X2 : ∀ x ∈ u_ws RX2 TX2 4, x ∈ wsX2_copy := fun x h => List.mem_cons_of_mem _ (List.mem_append_left _ (List.mem_append_right _ h))
set_option maxRecDepth 100000 in
set_option maxHeartbeats 4000000 in
theorem w_X2_copy_b11 {res : (Nat → SL)} (C : Cx p s m args meth c cX2_copy 3 none RX2 wsX2_copy) (G : Gx D cs ad s) {i : Nat} (hi : i < 6) {j : Nat} (hj : j < 6) {Hs : SL} {T : SL} {M : SL} {dr : Int64} {hs : Int64} {o : Int64} {od : UInt64} {K11 : (Nat → SL) → Int32 → Option ((Nat → SL))} (hK11 : ∀ {Ls : Nat → SL} {x2 : Int32} {H : Heap} {locs : List Loc} {ls : Array Slot}, va_P D vwCl (wA cs ad Ls Hs T M dr hs o od) H → va_S (Afr ad s.heap.size) s.heap H locs → lv_has ls 3 [(0, .ref (ad (5 + 14 * i + 0))), (1, .ref (ad (5 + 14 * j + 0))), (2, .int x2)] → K11 Ls x2 = some res → W p l e rmX2_copy s m args below meth c H locs 0 0 (MQ below (va_Qv (fun (_ : Unit) => True) (fun _ t => va_P D vwCl (wA cs ad res Hs T M dr hs o od) t.heap) (Afr ad s.heap.size)) args s 0 0 (Afr ad s.heap.size)) (F0 m 11 ls [])) {Ls : Nat → SL} {x2 : Int32} {H : Heap} {locs : List Loc} {ls : Array Slot} (hP : va_P D vwCl (wA cs ad Ls Hs T M dr hs o od) H) (hS : va_S (Afr ad s.heap.size) s.heap H locs) (hl : lv_has ls 3 [(0, .ref (ad (5 + 14 * i + 0))), (1, .ref (ad (5 + 14 * j + 0))), (2, .int x2)]) (h : f_X2_copy_b11 i j K11 Ls x2 = some res) : W p l e rmX2_copy s m args below meth c H locs 0 0 (MQ below (va_Qv (fun (_ : Unit) => True) (fun _ t => va_P D vwCl (wA cs ad res Hs T M dr hs o od) t.heap) (Afr ad s.heap.size)) args s 0 0 (Afr ad s.heap.size)) (F0 m 11 ls []) := by
  unfold f_X2_copy_b11 at h
  refine lv_iload_n C.1 C.2.1 dX2_copy_11 rfl (lv_at hl 2 rfl) ?_
  refine lv_aload_n C.1 C.2.1 dX2_copy_12 rfl (lv_at hl 0 rfl) ?_
  obtain ⟨v1, ev1, h⟩ := lt_out h
  refine k_geti C G hP (c_obj hi) rfl 2 (by decide) n_X2_copy_X2 q_X2_copy_0 rfl ev1 dX2_copy_13 ?_
  refine lv_icmp_ge (tgt := 44) C.1 C.2.1 dX2_copy_16 (by decide) (fun c2 => ?_) (fun c2 => ?_)
  · have h := if_t c2 h
    refine lv_aload_n C.1 C.2.1 dX2_copy_44 rfl (lv_at hl 0 rfl) ?_
    refine k_getf C G hP (c_obj hi) rfl 1 (by decide) n_X2_copy_X2 q_X2_copy_1 (v := .ref (ad (5 + 14 * i + 10))) rfl dX2_copy_45 ?_
    refine lv_aload_n C.1 C.2.1 dX2_copy_48 rfl (lv_at hl 1 rfl) ?_
    refine k_getf C G hP (c_obj hj) rfl 1 (by decide) n_X2_copy_X2 q_X2_copy_1 (v := .ref (ad (5 + 14 * j + 10))) rfl dX2_copy_49 ?_
    obtain ⟨Ls3, c4, h⟩ := bd_out h
    refine k_callSv C G hP hS (m_X4_copy l G.2.1 _ hi hj c4) (va_cwS 2 C.2.2.2.2.2.1 gX2_copy_X4_copy rfl rfl rfl (by decide +kernel) ⟨Nat.le_of_ble_eq_true rfl, Nat.le_of_ble_eq_true rfl⟩) (As := [.ref (ad (5 + 14 * i + 10)), .ref (ad (5 + 14 * j + 10))]) rfl hl.1 rfl (Nat.le_of_ble_eq_true rfl) dX2_copy_52 ⟨Nat.le_of_ble_eq_true rfl, Nat.le_of_ble_eq_true rfl⟩ (fun H locs hP hS => ?_)
    refine lv_aload_n C.1 C.2.1 dX2_copy_55 rfl (lv_at hl 1 rfl) ?_
    refine lv_aload_n C.1 C.2.1 dX2_copy_56 rfl (lv_at hl 0 rfl) ?_
    obtain ⟨v5, ev5, h⟩ := lt_out h
    refine k_geti C G hP (c_obj hi) rfl 2 (by decide) n_X2_copy_X2 q_X2_copy_0 rfl ev5 dX2_copy_57 ?_
    obtain ⟨Ls6, eLs6, h⟩ := lt_out h
    refine k_puti C G hP hS (c_obj hj) rfl 2 (by decide) n_X2_copy_X2 q_X2_copy_0 tyX2_ok nmX2 rfl (tyX2_ok 2 (by decide)) (Nat.le_of_ble_eq_true rfl) (c_objS2 hj) dX2_copy_60 (fun H locs hP hS => ?_)
    rw [← eLs6] at hP
    refine lv_aload_n C.1 C.2.1 dX2_copy_63 rfl (lv_at hl 1 rfl) ?_
    refine lv_aload_n C.1 C.2.1 dX2_copy_64 rfl (lv_at hl 0 rfl) ?_
    obtain ⟨v7, ev7, h⟩ := lt_out h
    refine k_geti C G hP (c_obj hi) rfl 3 (by decide) n_X2_copy_X2 q_X2_copy_2 rfl ev7 dX2_copy_65 ?_
    obtain ⟨Ls8, eLs8, h⟩ := lt_out h
    refine k_puti C G hP hS (c_obj hj) rfl 3 (by decide) n_X2_copy_X2 q_X2_copy_2 tyX2_ok nmX2 rfl (tyX2_ok 3 (by decide)) (Nat.le_of_ble_eq_true rfl) (c_objS3 hj) dX2_copy_68 (fun H locs hP hS => ?_)
    rw [← eLs8] at hP
    cases h
    exact k_vret C hP hS dX2_copy_71
  · have h := if_f c2 h
    refine lv_aload_n C.1 C.2.1 dX2_copy_19 rfl (lv_at hl 0 rfl) ?_
    refine k_getf C G hP (c_obj hi) rfl 0 (by decide) n_X2_copy_X2 q_X2_copy_3 (v := .ref (ad (5 + 14 * i + 1))) rfl dX2_copy_20 ?_
    refine lv_iload_n C.1 C.2.1 dX2_copy_23 rfl (lv_at hl 2 rfl) ?_
    obtain ⟨g9, h⟩ := gd_out h
    have g9 := chk_in g9
    obtain ⟨kq10, ekq10, h⟩ := lt_out h
    have hkq10 : 2 ≤ kq10 ∧ kq10 < 10 := row_k g9 ekq10
    refine k_aaldR C G hP (c_rows hi) g9 (b := ad (5 + 14 * i + kq10)) (by rw [ekq10]) dX2_copy_24 ?_
    refine lv_iconst (v := 0) C.1 C.2.1 dX2_copy_25 (by decide) ?_
    refine lv_aload_n C.1 C.2.1 dX2_copy_26 rfl (lv_at hl 1 rfl) ?_
    refine k_getf C G hP (c_obj hj) rfl 0 (by decide) n_X2_copy_X2 q_X2_copy_3 (v := .ref (ad (5 + 14 * j + 1))) rfl dX2_copy_27 ?_
    refine lv_iload_n C.1 C.2.1 dX2_copy_30 rfl (lv_at hl 2 rfl) ?_
    obtain ⟨kq11, ekq11, h⟩ := lt_out h
    have hkq11 : 2 ≤ kq11 ∧ kq11 < 10 := row_k g9 ekq11
    refine k_aaldR C G hP (c_rows hj) g9 (b := ad (5 + 14 * j + kq11)) (by rw [ekq11]) dX2_copy_31 ?_
    refine lv_iconst (v := 0) C.1 C.2.1 dX2_copy_32 (by decide) ?_
    refine lv_bipush (v := 16) C.1 C.2.1 dX2_copy_33 (by decide) ?_
    obtain ⟨Ls12, eLs12, h⟩ := lt_out h
    refine k_copy C G hP hS hl.1 q_X2_copy_4 q_X2_copy_5 q_X2_copy_6 q_X2_copy_7 (c_row hi hkq10) (c_row hj hkq11) (by decide) (Nat.le_of_ble_eq_true rfl) (Nat.le_of_ble_eq_true rfl) (j := 16) rfl (Nat.le_of_ble_eq_true rfl) (Nat.le_of_ble_eq_true rfl) (c_rowF hj hkq11) dX2_copy_35 (fun H locs hP hS => ?_)
    rw [← eLs12] at hP
    obtain ⟨z13, ez13, h⟩ := lt_out h
    refine lv_iinc (v := z13) (lv' := [(2, .int z13), (0, .ref (ad (5 + 14 * i + 0))), (1, .ref (ad (5 + 14 * j + 0)))]) C.1 C.2.1 dX2_copy_38 hl (k := 2) rfl (by rw [ez13]; rfl) (by decide) rfl (fun ls hl => ?_)
    refine lv_goto (tgt := 11) C.1 C.2.1 dX2_copy_41 (by decide) ?_
    exact hK11 hP hS (lv_sub hl [1, 2, 0] rfl)  h
set_option maxRecDepth 100000 in
set_option maxHeartbeats 4000000 in
theorem w_X2_copy_h11 {res : (Nat → SL)} (C : Cx p s m args meth c cX2_copy 3 none RX2 wsX2_copy) (G : Gx D cs ad s) {i : Nat} (hi : i < 6) {j : Nat} (hj : j < 6) {Hs : SL} {T : SL} {M : SL} {dr : Int64} {hs : Int64} {o : Int64} {od : UInt64} : ∀ (n : Nat) {Ls : Nat → SL} {x2 : Int32} {H : Heap} {locs : List Loc} {ls : Array Slot}, va_P D vwCl (wA cs ad Ls Hs T M dr hs o od) H → va_S (Afr ad s.heap.size) s.heap H locs → lv_has ls 3 [(0, .ref (ad (5 + 14 * i + 0))), (1, .ref (ad (5 + 14 * j + 0))), (2, .int x2)] → f_X2_copy_h11 i j n Ls x2 = some res → W p l e rmX2_copy s m args below meth c H locs 0 0 (MQ below (va_Qv (fun (_ : Unit) => True) (fun _ t => va_P D vwCl (wA cs ad res Hs T M dr hs o od) t.heap) (Afr ad s.heap.size)) args s 0 0 (Afr ad s.heap.size)) (F0 m 11 ls []) := by
  intro n
  induction n with
  | zero => intro Ls x2 H locs ls hP hS hl  h; cases h
  | succ n ih => intro Ls x2 H locs ls hP hS hl  h; exact w_X2_copy_b11 C G hi hj  ih hP hS hl  h
set_option maxRecDepth 100000 in
set_option maxHeartbeats 4000000 in
theorem w_X2_copy_e {res : (Nat → SL)} (C : Cx p s m args meth c cX2_copy 3 none RX2 wsX2_copy) (G : Gx D cs ad s) {i : Nat} (hi : i < 6) {j : Nat} (hj : j < 6) {Hs : SL} {T : SL} {M : SL} {dr : Int64} {hs : Int64} {o : Int64} {od : UInt64} {Ls : Nat → SL} {H : Heap} {locs : List Loc} {ls : Array Slot} (hP : va_P D vwCl (wA cs ad Ls Hs T M dr hs o od) H) (hS : va_S (Afr ad s.heap.size) s.heap H locs) (hl : lv_has ls 3 [(0, .ref (ad (5 + 14 * i + 0))), (1, .ref (ad (5 + 14 * j + 0)))]) (h : f_X2_copy i j Ls = some res) : W p l e rmX2_copy s m args below meth c H locs 0 0 (MQ below (va_Qv (fun (_ : Unit) => True) (fun _ t => va_P D vwCl (wA cs ad res Hs T M dr hs o od) t.heap) (Afr ad s.heap.size)) args s 0 0 (Afr ad s.heap.size)) (F0 m 0 ls []) := by
  unfold f_X2_copy at h
  refine lv_aload_n C.1 C.2.1 dX2_copy_0 rfl (lv_at hl 0 rfl) ?_
  refine lv_ifnull C.1 C.2.1 dX2_copy_1 ?_
  refine lv_aload_n C.1 C.2.1 dX2_copy_4 rfl (lv_at hl 1 rfl) ?_
  refine lv_ifnonnull (tgt := 9) C.1 C.2.1 dX2_copy_5 (by decide) ?_
  refine lv_iconst (v := 0) C.1 C.2.1 dX2_copy_9 (by decide) ?_
  refine lv_istore_n (lv' := [(2, .int 0), (0, .ref (ad (5 + 14 * i + 0))), (1, .ref (ad (5 + 14 * j + 0)))]) C.1 C.2.1 dX2_copy_10 rfl hl (by decide) rfl (fun ls hl => ?_)
  exact w_X2_copy_h11 C G hi hj fuel hP hS (lv_sub hl [1, 2, 0] rfl) h
set_option maxRecDepth 100000 in
set_option maxHeartbeats 4000000 in
theorem m_X2_copy (l : Launch) {D : va_G} {cs : Nat → ClassId} {ad : Nat → Nat} (hAd : adOK ad) (sz : Nat) {i : Nat} (hi : i < 6) {j : Nat} (hj : j < 6) {Ls : Nat → SL} {Hs : SL} {T : SL} {M : SL} {dr : Int64} {hs : Int64} {o : Int64} {od : UInt64} {res : (Nat → SL)} (h : f_X2_copy i j Ls = some res) : Met l yX2_copy wsX2_copy rmX2_copy (PA D cs sz (wA cs ad Ls Hs T M dr hs o od) [.ref (ad (5 + 14 * i + 0)), .ref (ad (5 + 14 * j + 0))]) (va_Qv (fun (_ : Unit) => True) (fun _ t => va_P D vwCl (wA cs ad res Hs T M dr hs o od) t.heap) (Afr ad sz)) 0 0 (Afr ad sz) :=
  k_met (by decide) rfl (Nat.le_of_ble_eq_true rfl) hAd (fun p e s m below meth c ls C G hP hsz hl hS => by
    subst hsz
    exact w_X2_copy_e C G hi hj hP hS hl  h)
/-! X2 takeApart -/
abbrev rmX2_takeApart : Room := { frames := 0, cells := 0, slots := 0, locals := 0 }
theorem q_X2_takeApart_0 : Cond.fieldLink RX2 23 "LineBuffers$Line" "machines" "I" ∈ wsX2_takeApart := List.mem_of_getElem? (i := 1) rfl
theorem q_X2_takeApart_1 : Cond.fieldLink RX2 37 "LineBuffers$Line" "tick" "I" ∈ wsX2_takeApart := List.mem_of_getElem? (i := 2) rfl
theorem q_X2_takeApart_2 : Cond.fieldLink RX2 19 "LineBuffers$Line" "stops" "LLineBuffers$Stops;" ∈ wsX2_takeApart := List.mem_of_getElem? (i := 3) rfl
theorem n_X2_takeApart_X2 : ∀ x ∈ u_ws RX2 TX2 4, x ∈ wsX2_takeApart := fun x h => List.mem_cons_of_mem _ (List.mem_append_left _ (List.mem_append_right _ h))
theorem n_X2_takeApart_X4 : ∀ x ∈ u_ws RX4 TX4 5, x ∈ wsX2_takeApart := fun x h => List.mem_cons_of_mem _ (List.mem_append_right _ h)
set_option maxRecDepth 100000 in
set_option maxHeartbeats 4000000 in
theorem w_X2_takeApart_e {res : SL} (C : Cx p s m args meth c cX2_takeApart 1 none RX2 wsX2_takeApart) (G : Gx D cs ad s) {i : Nat} (hi : i < 6) {Ls : Nat → SL} {Hs : SL} {T : SL} {M : SL} {dr : Int64} {hs : Int64} {o : Int64} {od : UInt64} {L : SL} {H : Heap} {locs : List Loc} {ls : Array Slot} (hP : va_P D vwCl (wA cs ad (va_up Ls i L) Hs T M dr hs o od) H) (hS : va_S (Afr ad s.heap.size) s.heap H locs) (hl : lv_has ls 1 [(0, .ref (ad (5 + 14 * i + 0)))]) (h : f_X2_takeApart L = some res) : W p l e rmX2_takeApart s m args below meth c H locs 0 0 (MQ below (va_Qv (fun (_ : Unit) => True) (fun _ t => va_P D vwCl (wA cs ad (va_up Ls i res) Hs T M dr hs o od) t.heap) (Afr ad s.heap.size)) args s 0 0 (Afr ad s.heap.size)) (F0 m 0 ls []) := by
  unfold f_X2_takeApart at h
  refine lv_aload_n C.1 C.2.1 dX2_takeApart_0 rfl (lv_at hl 0 rfl) ?_
  refine lv_iconst (v := 0) C.1 C.2.1 dX2_takeApart_1 (by decide) ?_
  obtain ⟨L1, eL1, h⟩ := lt_out h
  refine k_puti C G hP hS (v_obj hi) rfl 2 (by decide) n_X2_takeApart_X2 q_X2_takeApart_0 tyX2_ok nmX2 rfl (tyX2_ok 2 (by decide)) (Nat.le_of_ble_eq_true rfl) (v_objS2 hi) dX2_takeApart_2 (fun H locs hP hS => ?_)
  rw [← eL1] at hP
  refine lv_aload_n C.1 C.2.1 dX2_takeApart_5 rfl (lv_at hl 0 rfl) ?_
  refine lv_iconst (v := 0) C.1 C.2.1 dX2_takeApart_6 (by decide) ?_
  obtain ⟨L2, eL2, h⟩ := lt_out h
  refine k_puti C G hP hS (v_obj hi) rfl 3 (by decide) n_X2_takeApart_X2 q_X2_takeApart_1 tyX2_ok nmX2 rfl (tyX2_ok 3 (by decide)) (Nat.le_of_ble_eq_true rfl) (v_objS3 hi) dX2_takeApart_7 (fun H locs hP hS => ?_)
  rw [← eL2] at hP
  refine lv_aload_n C.1 C.2.1 dX2_takeApart_10 rfl (lv_at hl 0 rfl) ?_
  refine k_getf C G hP (v_obj hi) rfl 1 (by decide) n_X2_takeApart_X2 q_X2_takeApart_2 (v := .ref (ad (5 + 14 * i + 10))) rfl dX2_takeApart_11 ?_
  refine lv_iconst (v := 0) C.1 C.2.1 dX2_takeApart_14 (by decide) ?_
  obtain ⟨L3, eL3, h⟩ := lt_out h
  refine k_putiN C G hP hS (v_sto hi) rfl 3 (by decide) n_X2_takeApart_X4 (List.mem_of_getElem? (i := 0) rfl) tyX4_ok nmX4 rfl (tyX4_ok 3 (by decide)) (Nat.le_of_ble_eq_true rfl) (v_stoS3 hi) dX2_takeApart_15 (fun H locs hP hS => ?_)
  rw [← eL3] at hP
  cases h
  exact k_vret C hP hS dX2_takeApart_18
set_option maxRecDepth 100000 in
set_option maxHeartbeats 4000000 in
theorem m_X2_takeApart (l : Launch) {D : va_G} {cs : Nat → ClassId} {ad : Nat → Nat} (hAd : adOK ad) (sz : Nat) {i : Nat} (hi : i < 6) {Ls : Nat → SL} {Hs : SL} {T : SL} {M : SL} {dr : Int64} {hs : Int64} {o : Int64} {od : UInt64} {L : SL} {res : SL} (h : f_X2_takeApart L = some res) : Met l yX2_takeApart wsX2_takeApart rmX2_takeApart (PA D cs sz (wA cs ad (va_up Ls i L) Hs T M dr hs o od) [.ref (ad (5 + 14 * i + 0))]) (va_Qv (fun (_ : Unit) => True) (fun _ t => va_P D vwCl (wA cs ad (va_up Ls i res) Hs T M dr hs o od) t.heap) (Afr ad sz)) 0 0 (Afr ad sz) :=
  k_met (by decide) rfl (Nat.le_of_ble_eq_true rfl) hAd (fun p e s m below meth c ls C G hP hsz hl hS => by
    subst hsz
    exact w_X2_takeApart_e C G hi hP hS hl  h)
/-! X2 empty -/
abbrev rmX2_empty : Room := { frames := 0, cells := 0, slots := 0, locals := 0 }
set_option maxRecDepth 100000 in
set_option maxHeartbeats 4000000 in
theorem w_X2_empty_b2 {res : SL} (C : Cx p s m args meth c cX2_empty 2 none RX2 wsX2_empty) (G : Gx D cs ad s) {i : Nat} (hi : i < 6) {Ls : Nat → SL} {Hs : SL} {T : SL} {M : SL} {dr : Int64} {hs : Int64} {o : Int64} {od : UInt64} {K2 : SL → Nat → Int32 → Option (SL)} (hK2 : ∀ {L : SL} {k0 : Nat} {x1 : Int32} {H : Heap} {locs : List Loc} {ls : Array Slot}, va_P D vwCl (wA cs ad (va_up Ls i L) Hs T M dr hs o od) H → va_S (Afr ad s.heap.size) s.heap H locs → lv_has ls 2 [(0, .ref (ad (5 + 14 * i + k0))), (1, .int x1)] → (2 ≤ k0 ∧ k0 < 10) → K2 L k0 x1 = some res → W p l e rmX2_empty s m args below meth c H locs 0 0 (MQ below (va_Qv (fun (_ : Unit) => True) (fun _ t => va_P D vwCl (wA cs ad (va_up Ls i res) Hs T M dr hs o od) t.heap) (Afr ad s.heap.size)) args s 0 0 (Afr ad s.heap.size)) (F0 m 2 ls [])) {L : SL} {k0 : Nat} {x1 : Int32} {H : Heap} {locs : List Loc} {ls : Array Slot} (hP : va_P D vwCl (wA cs ad (va_up Ls i L) Hs T M dr hs o od) H) (hS : va_S (Afr ad s.heap.size) s.heap H locs) (hl : lv_has ls 2 [(0, .ref (ad (5 + 14 * i + k0))), (1, .int x1)]) (hk0 : 2 ≤ k0 ∧ k0 < 10) (h : f_X2_empty_b2 K2 L k0 x1 = some res) : W p l e rmX2_empty s m args below meth c H locs 0 0 (MQ below (va_Qv (fun (_ : Unit) => True) (fun _ t => va_P D vwCl (wA cs ad (va_up Ls i res) Hs T M dr hs o od) t.heap) (Afr ad s.heap.size)) args s 0 0 (Afr ad s.heap.size)) (F0 m 2 ls []) := by
  unfold f_X2_empty_b2 at h
  refine lv_iload_n C.1 C.2.1 dX2_empty_2 rfl (lv_at hl 1 rfl) ?_
  refine lv_bipush (v := 16) C.1 C.2.1 dX2_empty_3 (by decide) ?_
  refine lv_icmp_ge (tgt := 18) C.1 C.2.1 dX2_empty_5 (by decide) (fun c1 => ?_) (fun c1 => ?_)
  · have h := if_t c1 h
    refine lv_aload_n C.1 C.2.1 dX2_empty_18 rfl (lv_at hl 0 rfl) ?_
    refine lv_bipush (v := 6) C.1 C.2.1 dX2_empty_19 (by decide) ?_
    refine lv_iconst (v := (-1)) C.1 C.2.1 dX2_empty_21 (by decide) ?_
    obtain ⟨L2, eL2, h⟩ := lt_out h
    refine k_iast C G hP hS (v_row hi hk0) (chk_in rfl) (j := 6) rfl (v_rowS hi hk0) dX2_empty_22 (fun H locs hP hS => ?_)
    rw [← eL2] at hP
    refine lv_aload_n C.1 C.2.1 dX2_empty_23 rfl (lv_at hl 0 rfl) ?_
    refine lv_bipush (v := 7) C.1 C.2.1 dX2_empty_24 (by decide) ?_
    refine lv_iconst (v := 1) C.1 C.2.1 dX2_empty_26 (by decide) ?_
    obtain ⟨L3, eL3, h⟩ := lt_out h
    refine k_iast C G hP hS (v_row hi hk0) (chk_in rfl) (j := 7) rfl (v_rowS hi hk0) dX2_empty_27 (fun H locs hP hS => ?_)
    rw [← eL3] at hP
    cases h
    exact k_vret C hP hS dX2_empty_28
  · have h := if_f c1 h
    refine lv_aload_n C.1 C.2.1 dX2_empty_8 rfl (lv_at hl 0 rfl) ?_
    refine lv_iload_n C.1 C.2.1 dX2_empty_9 rfl (lv_at hl 1 rfl) ?_
    refine lv_iconst (v := 0) C.1 C.2.1 dX2_empty_10 (by decide) ?_
    obtain ⟨g4, h⟩ := gd_out h
    have g4 := chk_in g4
    obtain ⟨L5, eL5, h⟩ := lt_out h
    refine k_iast C G hP hS (v_row hi hk0) g4 (j := x1.toNatClampNeg) rfl (v_rowS hi hk0) dX2_empty_11 (fun H locs hP hS => ?_)
    rw [← eL5] at hP
    obtain ⟨z6, ez6, h⟩ := lt_out h
    refine lv_iinc (v := z6) (lv' := [(1, .int z6), (0, .ref (ad (5 + 14 * i + k0)))]) C.1 C.2.1 dX2_empty_12 hl (k := 1) rfl (by rw [ez6]; rfl) (by decide) rfl (fun ls hl => ?_)
    refine lv_goto (tgt := 2) C.1 C.2.1 dX2_empty_15 (by decide) ?_
    exact hK2 hP hS (lv_sub hl [1, 0] rfl) hk0 h
set_option maxRecDepth 100000 in
set_option maxHeartbeats 4000000 in
theorem w_X2_empty_h2 {res : SL} (C : Cx p s m args meth c cX2_empty 2 none RX2 wsX2_empty) (G : Gx D cs ad s) {i : Nat} (hi : i < 6) {Ls : Nat → SL} {Hs : SL} {T : SL} {M : SL} {dr : Int64} {hs : Int64} {o : Int64} {od : UInt64} : ∀ (n : Nat) {L : SL} {k0 : Nat} {x1 : Int32} {H : Heap} {locs : List Loc} {ls : Array Slot}, va_P D vwCl (wA cs ad (va_up Ls i L) Hs T M dr hs o od) H → va_S (Afr ad s.heap.size) s.heap H locs → lv_has ls 2 [(0, .ref (ad (5 + 14 * i + k0))), (1, .int x1)] → (2 ≤ k0 ∧ k0 < 10) → f_X2_empty_h2 n L k0 x1 = some res → W p l e rmX2_empty s m args below meth c H locs 0 0 (MQ below (va_Qv (fun (_ : Unit) => True) (fun _ t => va_P D vwCl (wA cs ad (va_up Ls i res) Hs T M dr hs o od) t.heap) (Afr ad s.heap.size)) args s 0 0 (Afr ad s.heap.size)) (F0 m 2 ls []) := by
  intro n
  induction n with
  | zero => intro L k0 x1 H locs ls hP hS hl hk0 h; cases h
  | succ n ih => intro L k0 x1 H locs ls hP hS hl hk0 h; exact w_X2_empty_b2 C G hi  ih hP hS hl hk0 h
set_option maxRecDepth 100000 in
set_option maxHeartbeats 4000000 in
theorem w_X2_empty_e {res : SL} (C : Cx p s m args meth c cX2_empty 2 none RX2 wsX2_empty) (G : Gx D cs ad s) {i : Nat} (hi : i < 6) {Ls : Nat → SL} {Hs : SL} {T : SL} {M : SL} {dr : Int64} {hs : Int64} {o : Int64} {od : UInt64} {L : SL} {k0 : Nat} {H : Heap} {locs : List Loc} {ls : Array Slot} (hP : va_P D vwCl (wA cs ad (va_up Ls i L) Hs T M dr hs o od) H) (hS : va_S (Afr ad s.heap.size) s.heap H locs) (hl : lv_has ls 2 [(0, .ref (ad (5 + 14 * i + k0)))]) (hk0 : 2 ≤ k0 ∧ k0 < 10) (h : f_X2_empty k0 L = some res) : W p l e rmX2_empty s m args below meth c H locs 0 0 (MQ below (va_Qv (fun (_ : Unit) => True) (fun _ t => va_P D vwCl (wA cs ad (va_up Ls i res) Hs T M dr hs o od) t.heap) (Afr ad s.heap.size)) args s 0 0 (Afr ad s.heap.size)) (F0 m 0 ls []) := by
  unfold f_X2_empty at h
  refine lv_iconst (v := 5) C.1 C.2.1 dX2_empty_0 (by decide) ?_
  refine lv_istore_n (lv' := [(1, .int 5), (0, .ref (ad (5 + 14 * i + k0)))]) C.1 C.2.1 dX2_empty_1 rfl hl (by decide) rfl (fun ls hl => ?_)
  exact w_X2_empty_h2 C G hi fuel hP hS (lv_sub hl [1, 0] rfl) hk0 h
set_option maxRecDepth 100000 in
set_option maxHeartbeats 4000000 in
theorem m_X2_empty (l : Launch) {D : va_G} {cs : Nat → ClassId} {ad : Nat → Nat} (hAd : adOK ad) (sz : Nat) {i : Nat} (hi : i < 6) {k0 : Nat} (hk0 : 2 ≤ k0 ∧ k0 < 10) {Ls : Nat → SL} {Hs : SL} {T : SL} {M : SL} {dr : Int64} {hs : Int64} {o : Int64} {od : UInt64} {L : SL} {res : SL} (h : f_X2_empty k0 L = some res) : Met l yX2_empty wsX2_empty rmX2_empty (PA D cs sz (wA cs ad (va_up Ls i L) Hs T M dr hs o od) [.ref (ad (5 + 14 * i + k0))]) (va_Qv (fun (_ : Unit) => True) (fun _ t => va_P D vwCl (wA cs ad (va_up Ls i res) Hs T M dr hs o od) t.heap) (Afr ad sz)) 0 0 (Afr ad sz) :=
  k_met (by decide) rfl (Nat.le_of_ble_eq_true rfl) hAd (fun p e s m below meth c ls C G hP hsz hl hS => by
    subst hsz
    exact w_X2_empty_e C G hi hP hS hl hk0 h)
/-! X2 join -/
abbrev rmX2_join : Room := { frames := 1, cells := 0, slots := 0, locals := 21 }
theorem q_X2_join_0 : Cond.fieldLink RX2 23 "LineBuffers$Line" "machines" "I" ∈ wsX2_join := List.mem_of_getElem? (i := 1) rfl
theorem q_X2_join_1 : Cond.fieldLink RX2 11 "LineBuffers$Line" "rows" "[[I" ∈ wsX2_join := List.mem_of_getElem? (i := 2) rfl
theorem n_X2_join_X2 : ∀ x ∈ u_ws RX2 TX2 4, x ∈ wsX2_join := fun x h => List.mem_cons_of_mem _ (List.mem_append_right _ h)
set_option maxRecDepth 100000 in
set_option maxHeartbeats 4000000 in
theorem w_X2_join_e {res : Int32 × SL} (C : Cx p s m args meth c cX2_join 5 (some .int) RX2 wsX2_join) (G : Gx D cs ad s) {i : Nat} (hi : i < 6) {Ls : Nat → SL} {Hs : SL} {T : SL} {M : SL} {dr : Int64} {hs : Int64} {o : Int64} {od : UInt64} {L : SL} {x1 : Int32} {x2 : Int32} {x3 : Int32} {H : Heap} {locs : List Loc} {ls : Array Slot} (hP : va_P D vwCl (wA cs ad (va_up Ls i L) Hs T M dr hs o od) H) (hS : va_S (Afr ad s.heap.size) s.heap H locs) (hl : lv_has ls 5 [(0, .ref (ad (5 + 14 * i + 0))), (1, .int x1), (2, .int x2), (3, .int x3)]) (h : f_X2_join L x1 x2 x3 = some res) : W p l e rmX2_join s m args below meth c H locs 0 0 (MQ below (va_Qi (fun r' (_ : Unit) => r' = res.1) (fun _ t => va_P D vwCl (wA cs ad (va_up Ls i res.2) Hs T M dr hs o od) t.heap) (Afr ad s.heap.size)) args s 0 0 (Afr ad s.heap.size)) (F0 m 0 ls []) := by
  unfold f_X2_join at h
  refine lv_aload_n C.1 C.2.1 dX2_join_0 rfl (lv_at hl 0 rfl) ?_
  obtain ⟨v1, ev1, h⟩ := lt_out h
  refine k_geti C G hP (v_obj hi) rfl 2 (by decide) n_X2_join_X2 q_X2_join_0 rfl ev1 dX2_join_1 ?_
  refine lv_bipush (v := 8) C.1 C.2.1 dX2_join_4 (by decide) ?_
  refine lv_icmp_lt (tgt := 11) C.1 C.2.1 dX2_join_6 (by decide) (fun c2 => ?_) (fun c2 => ?_)
  · have h := if_t c2 h
    refine lv_aload_n C.1 C.2.1 dX2_join_11 rfl (lv_at hl 0 rfl) ?_
    refine k_getf C G hP (v_obj hi) rfl 0 (by decide) n_X2_join_X2 q_X2_join_1 (v := .ref (ad (5 + 14 * i + 1))) rfl dX2_join_12 ?_
    refine lv_aload_n C.1 C.2.1 dX2_join_15 rfl (lv_at hl 0 rfl) ?_
    obtain ⟨v3, ev3, h⟩ := lt_out h
    refine k_geti C G hP (v_obj hi) rfl 2 (by decide) n_X2_join_X2 q_X2_join_0 rfl ev3 dX2_join_16 ?_
    obtain ⟨g4, h⟩ := gd_out h
    have g4 := chk_in g4
    obtain ⟨kq5, ekq5, h⟩ := lt_out h
    have hkq5 : 2 ≤ kq5 ∧ kq5 < 10 := row_k g4 ekq5
    refine k_aaldR C G hP (v_rows hi) g4 (b := ad (5 + 14 * i + kq5)) (by rw [ekq5]) dX2_join_19 ?_
    refine lv_astore (lv' := [(4, .ref (ad (5 + 14 * i + kq5))), (0, .ref (ad (5 + 14 * i + 0))), (1, .int x1), (2, .int x2), (3, .int x3)]) C.1 C.2.1 dX2_join_20 hl (by decide) rfl (fun ls hl => ?_)
    refine lv_aload C.1 C.2.1 dX2_join_22 (lv_at hl 0 rfl) ?_
    refine lv_iconst (v := 0) C.1 C.2.1 dX2_join_24 (by decide) ?_
    refine lv_iload_n C.1 C.2.1 dX2_join_25 rfl (lv_at hl 2 rfl) ?_
    obtain ⟨L6, eL6, h⟩ := lt_out h
    refine k_iast C G hP hS (v_row hi hkq5) (chk_in rfl) (j := 0) rfl (v_rowS hi hkq5) dX2_join_26 (fun H locs hP hS => ?_)
    rw [← eL6] at hP
    refine lv_aload C.1 C.2.1 dX2_join_27 (lv_at hl 0 rfl) ?_
    refine lv_iconst (v := 1) C.1 C.2.1 dX2_join_29 (by decide) ?_
    refine lv_iload_n C.1 C.2.1 dX2_join_30 rfl (lv_at hl 3 rfl) ?_
    obtain ⟨L7, eL7, h⟩ := lt_out h
    refine k_iast C G hP hS (v_row hi hkq5) (chk_in rfl) (j := 1) rfl (v_rowS hi hkq5) dX2_join_31 (fun H locs hP hS => ?_)
    rw [← eL7] at hP
    refine lv_aload C.1 C.2.1 dX2_join_32 (lv_at hl 0 rfl) ?_
    refine lv_iconst (v := 2) C.1 C.2.1 dX2_join_34 (by decide) ?_
    refine lv_iconst (v := 0) C.1 C.2.1 dX2_join_35 (by decide) ?_
    obtain ⟨L8, eL8, h⟩ := lt_out h
    refine k_iast C G hP hS (v_row hi hkq5) (chk_in rfl) (j := 2) rfl (v_rowS hi hkq5) dX2_join_36 (fun H locs hP hS => ?_)
    rw [← eL8] at hP
    refine lv_aload C.1 C.2.1 dX2_join_37 (lv_at hl 0 rfl) ?_
    refine lv_iconst (v := 3) C.1 C.2.1 dX2_join_39 (by decide) ?_
    refine lv_bipush (v := 40) C.1 C.2.1 dX2_join_40 (by decide) ?_
    obtain ⟨L9, eL9, h⟩ := lt_out h
    refine k_iast C G hP hS (v_row hi hkq5) (chk_in rfl) (j := 3) rfl (v_rowS hi hkq5) dX2_join_42 (fun H locs hP hS => ?_)
    rw [← eL9] at hP
    refine lv_aload C.1 C.2.1 dX2_join_43 (lv_at hl 0 rfl) ?_
    refine lv_iconst (v := 4) C.1 C.2.1 dX2_join_45 (by decide) ?_
    refine lv_iload_n C.1 C.2.1 dX2_join_46 rfl (lv_at hl 4 rfl) ?_
    obtain ⟨L10, eL10, h⟩ := lt_out h
    refine k_iast C G hP hS (v_row hi hkq5) (chk_in rfl) (j := 4) rfl (v_rowS hi hkq5) dX2_join_47 (fun H locs hP hS => ?_)
    rw [← eL10] at hP
    refine lv_aload C.1 C.2.1 dX2_join_48 (lv_at hl 0 rfl) ?_
    obtain ⟨L11, c12, h⟩ := bd_out h
    refine k_callSv C G hP hS (m_X2_empty l G.2.1 _ hi hkq5 c12) (va_cwS 1 C.2.2.2.2.2.1 gX2_join_X2_empty rfl rfl rfl (by decide +kernel) ⟨Nat.le_of_ble_eq_true rfl, Nat.le_of_ble_eq_true rfl⟩) (As := [.ref (ad (5 + 14 * i + kq5))]) rfl hl.1 rfl (Nat.le_of_ble_eq_true rfl) dX2_join_50 ⟨Nat.le_of_ble_eq_true rfl, Nat.le_of_ble_eq_true rfl⟩ (fun H locs hP hS => ?_)
    refine lv_aload_n C.1 C.2.1 dX2_join_53 rfl (lv_at hl 1 rfl) ?_
    refine lv_dup C.1 C.2.1 dX2_join_54 rfl ?_
    obtain ⟨v13, ev13, h⟩ := lt_out h
    refine k_geti C G hP (v_obj hi) rfl 2 (by decide) n_X2_join_X2 q_X2_join_0 rfl ev13 dX2_join_55 ?_
    refine lv_iconst (v := 1) C.1 C.2.1 dX2_join_58 (by decide) ?_
    obtain ⟨v14, ev14, h⟩ := lt_out h
    refine k_iadd C ev14 dX2_join_59 ?_
    obtain ⟨L15, eL15, h⟩ := lt_out h
    refine k_puti C G hP hS (v_obj hi) rfl 2 (by decide) n_X2_join_X2 q_X2_join_0 tyX2_ok nmX2 rfl (tyX2_ok 2 (by decide)) (Nat.le_of_ble_eq_true rfl) (v_objS2 hi) dX2_join_60 (fun H locs hP hS => ?_)
    rw [← eL15] at hP
    refine lv_aload_n C.1 C.2.1 dX2_join_63 rfl (lv_at hl 1 rfl) ?_
    obtain ⟨v16, ev16, h⟩ := lt_out h
    refine k_geti C G hP (v_obj hi) rfl 2 (by decide) n_X2_join_X2 q_X2_join_0 rfl ev16 dX2_join_64 ?_
    refine lv_iconst (v := 1) C.1 C.2.1 dX2_join_67 (by decide) ?_
    obtain ⟨v17, ev17, h⟩ := lt_out h
    refine k_isub C ev17 dX2_join_68 ?_
    cases h
    exact k_iret C hP hS dX2_join_69
  · have h := if_f c2 h
    refine lv_iconst (v := (-1)) C.1 C.2.1 dX2_join_9 (by decide) ?_
    cases h
    exact k_iret C hP hS dX2_join_10
set_option maxRecDepth 100000 in
set_option maxHeartbeats 4000000 in
theorem m_X2_join (l : Launch) {D : va_G} {cs : Nat → ClassId} {ad : Nat → Nat} (hAd : adOK ad) (sz : Nat) {i : Nat} (hi : i < 6) {Ls : Nat → SL} {Hs : SL} {T : SL} {M : SL} {dr : Int64} {hs : Int64} {o : Int64} {od : UInt64} {L : SL} {x1 : Int32} {x2 : Int32} {x3 : Int32} {res : Int32 × SL} (h : f_X2_join L x1 x2 x3 = some res) : Met l yX2_join wsX2_join rmX2_join (PA D cs sz (wA cs ad (va_up Ls i L) Hs T M dr hs o od) [.ref (ad (5 + 14 * i + 0)), .int x1, .int x2, .int x3]) (va_Qi (fun r' (_ : Unit) => r' = res.1) (fun _ t => va_P D vwCl (wA cs ad (va_up Ls i res.2) Hs T M dr hs o od) t.heap) (Afr ad sz)) 0 0 (Afr ad sz) :=
  k_met (by decide) rfl (Nat.le_of_ble_eq_true rfl) hAd (fun p e s m below meth c ls C G hP hsz hl hS => by
    subst hsz
    exact w_X2_join_e C G hi hP hS hl  h)
/-! X2 mark -/
abbrev rmX2_mark : Room := { frames := 0, cells := 0, slots := 0, locals := 0 }
theorem q_X2_mark_0 : Cond.fieldLink RX2 23 "LineBuffers$Line" "machines" "I" ∈ wsX2_mark := List.mem_of_getElem? (i := 1) rfl
theorem q_X2_mark_1 : Cond.fieldLink RX2 11 "LineBuffers$Line" "rows" "[[I" ∈ wsX2_mark := List.mem_of_getElem? (i := 2) rfl
theorem n_X2_mark_X2 : ∀ x ∈ u_ws RX2 TX2 4, x ∈ wsX2_mark := fun x h => List.mem_cons_of_mem _ (List.mem_append_right _ h)
set_option maxRecDepth 100000 in
set_option maxHeartbeats 4000000 in
theorem w_X2_mark_e {res : SL} (C : Cx p s m args meth c cX2_mark 4 none RX2 wsX2_mark) (G : Gx D cs ad s) {i : Nat} (hi : i < 6) {Ls : Nat → SL} {Hs : SL} {T : SL} {M : SL} {dr : Int64} {hs : Int64} {o : Int64} {od : UInt64} {L : SL} {x1 : Int32} {x2 : Int32} {x3 : Int32} {H : Heap} {locs : List Loc} {ls : Array Slot} (hP : va_P D vwCl (wA cs ad (va_up Ls i L) Hs T M dr hs o od) H) (hS : va_S (Afr ad s.heap.size) s.heap H locs) (hl : lv_has ls 4 [(0, .ref (ad (5 + 14 * i + 0))), (1, .int x1), (2, .int x2), (3, .int x3)]) (h : f_X2_mark L x1 x2 x3 = some res) : W p l e rmX2_mark s m args below meth c H locs 0 0 (MQ below (va_Qv (fun (_ : Unit) => True) (fun _ t => va_P D vwCl (wA cs ad (va_up Ls i res) Hs T M dr hs o od) t.heap) (Afr ad s.heap.size)) args s 0 0 (Afr ad s.heap.size)) (F0 m 0 ls []) := by
  unfold f_X2_mark at h
  refine lv_iload_n C.1 C.2.1 dX2_mark_0 rfl (lv_at hl 1 rfl) ?_
  refine lv_if_lt (tgt := 30) C.1 C.2.1 dX2_mark_1 (by decide) (fun c1 => ?_) (fun c1 => ?_)
  · have h := if_t c1 h
    cases h
    exact k_vret C hP hS dX2_mark_30
  · have h := if_f c1 h
    refine lv_iload_n C.1 C.2.1 dX2_mark_4 rfl (lv_at hl 1 rfl) ?_
    refine lv_aload_n C.1 C.2.1 dX2_mark_5 rfl (lv_at hl 0 rfl) ?_
    obtain ⟨v2, ev2, h⟩ := lt_out h
    refine k_geti C G hP (v_obj hi) rfl 2 (by decide) n_X2_mark_X2 q_X2_mark_0 rfl ev2 dX2_mark_6 ?_
    refine lv_icmp_ge (tgt := 30) C.1 C.2.1 dX2_mark_9 (by decide) (fun c3 => ?_) (fun c3 => ?_)
    · have h := if_t c3 h
      cases h
      exact k_vret C hP hS dX2_mark_30
    · have h := if_f c3 h
      refine lv_aload_n C.1 C.2.1 dX2_mark_12 rfl (lv_at hl 0 rfl) ?_
      refine k_getf C G hP (v_obj hi) rfl 0 (by decide) n_X2_mark_X2 q_X2_mark_1 (v := .ref (ad (5 + 14 * i + 1))) rfl dX2_mark_13 ?_
      refine lv_iload_n C.1 C.2.1 dX2_mark_16 rfl (lv_at hl 1 rfl) ?_
      obtain ⟨g4, h⟩ := gd_out h
      have g4 := chk_in g4
      obtain ⟨kq5, ekq5, h⟩ := lt_out h
      have hkq5 : 2 ≤ kq5 ∧ kq5 < 10 := row_k g4 ekq5
      refine k_aaldR C G hP (v_rows hi) g4 (b := ad (5 + 14 * i + kq5)) (by rw [ekq5]) dX2_mark_17 ?_
      refine lv_iconst (v := 2) C.1 C.2.1 dX2_mark_18 (by decide) ?_
      refine lv_iload_n C.1 C.2.1 dX2_mark_19 rfl (lv_at hl 2 rfl) ?_
      obtain ⟨L6, eL6, h⟩ := lt_out h
      refine k_iast C G hP hS (v_row hi hkq5) (chk_in rfl) (j := 2) rfl (v_rowS hi hkq5) dX2_mark_20 (fun H locs hP hS => ?_)
      rw [← eL6] at hP
      refine lv_aload_n C.1 C.2.1 dX2_mark_21 rfl (lv_at hl 0 rfl) ?_
      refine k_getf C G hP (v_obj hi) rfl 0 (by decide) n_X2_mark_X2 q_X2_mark_1 (v := .ref (ad (5 + 14 * i + 1))) rfl dX2_mark_22 ?_
      refine lv_iload_n C.1 C.2.1 dX2_mark_25 rfl (lv_at hl 1 rfl) ?_
      obtain ⟨kq7, ekq7, h⟩ := lt_out h
      have hkq7 : 2 ≤ kq7 ∧ kq7 < 10 := row_k g4 ekq7
      refine k_aaldR C G hP (v_rows hi) g4 (b := ad (5 + 14 * i + kq7)) (by rw [ekq7]) dX2_mark_26 ?_
      refine lv_iconst (v := 3) C.1 C.2.1 dX2_mark_27 (by decide) ?_
      refine lv_iload_n C.1 C.2.1 dX2_mark_28 rfl (lv_at hl 3 rfl) ?_
      obtain ⟨L8, eL8, h⟩ := lt_out h
      refine k_iast C G hP hS (v_row hi hkq7) (chk_in rfl) (j := 3) rfl (v_rowS hi hkq7) dX2_mark_29 (fun H locs hP hS => ?_)
      rw [← eL8] at hP
      cases h
      exact k_vret C hP hS dX2_mark_30
set_option maxRecDepth 100000 in
set_option maxHeartbeats 4000000 in
theorem m_X2_mark (l : Launch) {D : va_G} {cs : Nat → ClassId} {ad : Nat → Nat} (hAd : adOK ad) (sz : Nat) {i : Nat} (hi : i < 6) {Ls : Nat → SL} {Hs : SL} {T : SL} {M : SL} {dr : Int64} {hs : Int64} {o : Int64} {od : UInt64} {L : SL} {x1 : Int32} {x2 : Int32} {x3 : Int32} {res : SL} (h : f_X2_mark L x1 x2 x3 = some res) : Met l yX2_mark wsX2_mark rmX2_mark (PA D cs sz (wA cs ad (va_up Ls i L) Hs T M dr hs o od) [.ref (ad (5 + 14 * i + 0)), .int x1, .int x2, .int x3]) (va_Qv (fun (_ : Unit) => True) (fun _ t => va_P D vwCl (wA cs ad (va_up Ls i res) Hs T M dr hs o od) t.heap) (Afr ad sz)) 0 0 (Afr ad sz) :=
  k_met (by decide) rfl (Nat.le_of_ble_eq_true rfl) hAd (fun p e s m below meth c ls C G hP hsz hl hS => by
    subst hsz
    exact w_X2_mark_e C G hi hP hS hl  h)
/-! X2 beginAnew -/
abbrev rmX2_beginAnew : Room := { frames := 1, cells := 0, slots := 0, locals := 21 }
theorem q_X2_beginAnew_0 : Cond.fieldLink RX2 37 "LineBuffers$Line" "tick" "I" ∈ wsX2_beginAnew := List.mem_of_getElem? (i := 1) rfl
theorem q_X2_beginAnew_1 : Cond.fieldLink RX2 23 "LineBuffers$Line" "machines" "I" ∈ wsX2_beginAnew := List.mem_of_getElem? (i := 2) rfl
theorem q_X2_beginAnew_2 : Cond.fieldLink RX2 11 "LineBuffers$Line" "rows" "[[I" ∈ wsX2_beginAnew := List.mem_of_getElem? (i := 3) rfl
theorem n_X2_beginAnew_X2 : ∀ x ∈ u_ws RX2 TX2 4, x ∈ wsX2_beginAnew := fun x h => List.mem_cons_of_mem _ (List.mem_append_right _ h)
set_option maxRecDepth 100000 in
set_option maxHeartbeats 4000000 in
theorem w_X2_beginAnew_b7 {res : SL} (C : Cx p s m args meth c cX2_beginAnew 2 none RX2 wsX2_beginAnew) (G : Gx D cs ad s) {i : Nat} (hi : i < 6) {Ls : Nat → SL} {Hs : SL} {T : SL} {M : SL} {dr : Int64} {hs : Int64} {o : Int64} {od : UInt64} {K7 : SL → Int32 → Option (SL)} (hK7 : ∀ {L : SL} {x1 : Int32} {H : Heap} {locs : List Loc} {ls : Array Slot}, va_P D vwCl (wA cs ad (va_up Ls i L) Hs T M dr hs o od) H → va_S (Afr ad s.heap.size) s.heap H locs → lv_has ls 2 [(0, .ref (ad (5 + 14 * i + 0))), (1, .int x1)] → K7 L x1 = some res → W p l e rmX2_beginAnew s m args below meth c H locs 0 0 (MQ below (va_Qv (fun (_ : Unit) => True) (fun _ t => va_P D vwCl (wA cs ad (va_up Ls i res) Hs T M dr hs o od) t.heap) (Afr ad s.heap.size)) args s 0 0 (Afr ad s.heap.size)) (F0 m 7 ls [])) {L : SL} {x1 : Int32} {H : Heap} {locs : List Loc} {ls : Array Slot} (hP : va_P D vwCl (wA cs ad (va_up Ls i L) Hs T M dr hs o od) H) (hS : va_S (Afr ad s.heap.size) s.heap H locs) (hl : lv_has ls 2 [(0, .ref (ad (5 + 14 * i + 0))), (1, .int x1)]) (h : f_X2_beginAnew_b7 K7 L x1 = some res) : W p l e rmX2_beginAnew s m args below meth c H locs 0 0 (MQ below (va_Qv (fun (_ : Unit) => True) (fun _ t => va_P D vwCl (wA cs ad (va_up Ls i res) Hs T M dr hs o od) t.heap) (Afr ad s.heap.size)) args s 0 0 (Afr ad s.heap.size)) (F0 m 7 ls []) := by
  unfold f_X2_beginAnew_b7 at h
  refine lv_iload_n C.1 C.2.1 dX2_beginAnew_7 rfl (lv_at hl 1 rfl) ?_
  refine lv_aload_n C.1 C.2.1 dX2_beginAnew_8 rfl (lv_at hl 0 rfl) ?_
  obtain ⟨v1, ev1, h⟩ := lt_out h
  refine k_geti C G hP (v_obj hi) rfl 2 (by decide) n_X2_beginAnew_X2 q_X2_beginAnew_1 rfl ev1 dX2_beginAnew_9 ?_
  refine lv_icmp_ge (tgt := 30) C.1 C.2.1 dX2_beginAnew_12 (by decide) (fun c2 => ?_) (fun c2 => ?_)
  · have h := if_t c2 h
    cases h
    exact k_vret C hP hS dX2_beginAnew_30
  · have h := if_f c2 h
    refine lv_aload_n C.1 C.2.1 dX2_beginAnew_15 rfl (lv_at hl 0 rfl) ?_
    refine k_getf C G hP (v_obj hi) rfl 0 (by decide) n_X2_beginAnew_X2 q_X2_beginAnew_2 (v := .ref (ad (5 + 14 * i + 1))) rfl dX2_beginAnew_16 ?_
    refine lv_iload_n C.1 C.2.1 dX2_beginAnew_19 rfl (lv_at hl 1 rfl) ?_
    obtain ⟨g3, h⟩ := gd_out h
    have g3 := chk_in g3
    obtain ⟨kq4, ekq4, h⟩ := lt_out h
    have hkq4 : 2 ≤ kq4 ∧ kq4 < 10 := row_k g3 ekq4
    refine k_aaldR C G hP (v_rows hi) g3 (b := ad (5 + 14 * i + kq4)) (by rw [ekq4]) dX2_beginAnew_20 ?_
    obtain ⟨L5, c6, h⟩ := bd_out h
    refine k_callSv C G hP hS (m_X2_empty l G.2.1 _ hi hkq4 c6) (va_cwS 1 C.2.2.2.2.2.1 gX2_beginAnew_X2_empty rfl rfl rfl (by decide +kernel) ⟨Nat.le_of_ble_eq_true rfl, Nat.le_of_ble_eq_true rfl⟩) (As := [.ref (ad (5 + 14 * i + kq4))]) rfl hl.1 rfl (Nat.le_of_ble_eq_true rfl) dX2_beginAnew_21 ⟨Nat.le_of_ble_eq_true rfl, Nat.le_of_ble_eq_true rfl⟩ (fun H locs hP hS => ?_)
    obtain ⟨z7, ez7, h⟩ := lt_out h
    refine lv_iinc (v := z7) (lv' := [(1, .int z7), (0, .ref (ad (5 + 14 * i + 0)))]) C.1 C.2.1 dX2_beginAnew_24 hl (k := 1) rfl (by rw [ez7]; rfl) (by decide) rfl (fun ls hl => ?_)
    refine lv_goto (tgt := 7) C.1 C.2.1 dX2_beginAnew_27 (by decide) ?_
    exact hK7 hP hS (lv_sub hl [1, 0] rfl)  h
set_option maxRecDepth 100000 in
set_option maxHeartbeats 4000000 in
theorem w_X2_beginAnew_h7 {res : SL} (C : Cx p s m args meth c cX2_beginAnew 2 none RX2 wsX2_beginAnew) (G : Gx D cs ad s) {i : Nat} (hi : i < 6) {Ls : Nat → SL} {Hs : SL} {T : SL} {M : SL} {dr : Int64} {hs : Int64} {o : Int64} {od : UInt64} : ∀ (n : Nat) {L : SL} {x1 : Int32} {H : Heap} {locs : List Loc} {ls : Array Slot}, va_P D vwCl (wA cs ad (va_up Ls i L) Hs T M dr hs o od) H → va_S (Afr ad s.heap.size) s.heap H locs → lv_has ls 2 [(0, .ref (ad (5 + 14 * i + 0))), (1, .int x1)] → f_X2_beginAnew_h7 n L x1 = some res → W p l e rmX2_beginAnew s m args below meth c H locs 0 0 (MQ below (va_Qv (fun (_ : Unit) => True) (fun _ t => va_P D vwCl (wA cs ad (va_up Ls i res) Hs T M dr hs o od) t.heap) (Afr ad s.heap.size)) args s 0 0 (Afr ad s.heap.size)) (F0 m 7 ls []) := by
  intro n
  induction n with
  | zero => intro L x1 H locs ls hP hS hl  h; cases h
  | succ n ih => intro L x1 H locs ls hP hS hl  h; exact w_X2_beginAnew_b7 C G hi  ih hP hS hl  h
set_option maxRecDepth 100000 in
set_option maxHeartbeats 4000000 in
theorem w_X2_beginAnew_e {res : SL} (C : Cx p s m args meth c cX2_beginAnew 2 none RX2 wsX2_beginAnew) (G : Gx D cs ad s) {i : Nat} (hi : i < 6) {Ls : Nat → SL} {Hs : SL} {T : SL} {M : SL} {dr : Int64} {hs : Int64} {o : Int64} {od : UInt64} {L : SL} {H : Heap} {locs : List Loc} {ls : Array Slot} (hP : va_P D vwCl (wA cs ad (va_up Ls i L) Hs T M dr hs o od) H) (hS : va_S (Afr ad s.heap.size) s.heap H locs) (hl : lv_has ls 2 [(0, .ref (ad (5 + 14 * i + 0)))]) (h : f_X2_beginAnew L = some res) : W p l e rmX2_beginAnew s m args below meth c H locs 0 0 (MQ below (va_Qv (fun (_ : Unit) => True) (fun _ t => va_P D vwCl (wA cs ad (va_up Ls i res) Hs T M dr hs o od) t.heap) (Afr ad s.heap.size)) args s 0 0 (Afr ad s.heap.size)) (F0 m 0 ls []) := by
  unfold f_X2_beginAnew at h
  refine lv_aload_n C.1 C.2.1 dX2_beginAnew_0 rfl (lv_at hl 0 rfl) ?_
  refine lv_iconst (v := 0) C.1 C.2.1 dX2_beginAnew_1 (by decide) ?_
  obtain ⟨L1, eL1, h⟩ := lt_out h
  refine k_puti C G hP hS (v_obj hi) rfl 3 (by decide) n_X2_beginAnew_X2 q_X2_beginAnew_0 tyX2_ok nmX2 rfl (tyX2_ok 3 (by decide)) (Nat.le_of_ble_eq_true rfl) (v_objS3 hi) dX2_beginAnew_2 (fun H locs hP hS => ?_)
  rw [← eL1] at hP
  refine lv_iconst (v := 0) C.1 C.2.1 dX2_beginAnew_5 (by decide) ?_
  refine lv_istore_n (lv' := [(1, .int 0), (0, .ref (ad (5 + 14 * i + 0)))]) C.1 C.2.1 dX2_beginAnew_6 rfl hl (by decide) rfl (fun ls hl => ?_)
  exact w_X2_beginAnew_h7 C G hi fuel hP hS (lv_sub hl [1, 0] rfl) h
set_option maxRecDepth 100000 in
set_option maxHeartbeats 4000000 in
theorem m_X2_beginAnew (l : Launch) {D : va_G} {cs : Nat → ClassId} {ad : Nat → Nat} (hAd : adOK ad) (sz : Nat) {i : Nat} (hi : i < 6) {Ls : Nat → SL} {Hs : SL} {T : SL} {M : SL} {dr : Int64} {hs : Int64} {o : Int64} {od : UInt64} {L : SL} {res : SL} (h : f_X2_beginAnew L = some res) : Met l yX2_beginAnew wsX2_beginAnew rmX2_beginAnew (PA D cs sz (wA cs ad (va_up Ls i L) Hs T M dr hs o od) [.ref (ad (5 + 14 * i + 0))]) (va_Qv (fun (_ : Unit) => True) (fun _ t => va_P D vwCl (wA cs ad (va_up Ls i res) Hs T M dr hs o od) t.heap) (Afr ad sz)) 0 0 (Afr ad sz) :=
  k_met (by decide) rfl (Nat.le_of_ble_eq_true rfl) hAd (fun p e s m below meth c ls C G hP hsz hl hS => by
    subst hsz
    exact w_X2_beginAnew_e C G hi hP hS hl  h)
/-! X2 countFills -/
abbrev rmX2_countFills : Room := { frames := 0, cells := 0, slots := 0, locals := 0 }
theorem q_X2_countFills_0 : Cond.fieldLink RX2 23 "LineBuffers$Line" "machines" "I" ∈ wsX2_countFills := List.mem_of_getElem? (i := 1) rfl
theorem q_X2_countFills_1 : Cond.fieldLink RX2 11 "LineBuffers$Line" "rows" "[[I" ∈ wsX2_countFills := List.mem_of_getElem? (i := 2) rfl
theorem n_X2_countFills_X2 : ∀ x ∈ u_ws RX2 TX2 4, x ∈ wsX2_countFills := fun x h => List.mem_cons_of_mem _ (List.mem_append_right _ h)
set_option maxRecDepth 100000 in
set_option maxHeartbeats 4000000 in
theorem w_X2_countFills_b46 {res : SL} (C : Cx p s m args meth c cX2_countFills 3 none RX2 wsX2_countFills) (G : Gx D cs ad s) {i : Nat} (hi : i < 6) {Ls : Nat → SL} {Hs : SL} {T : SL} {M : SL} {dr : Int64} {hs : Int64} {o : Int64} {od : UInt64} {K2 : SL → Int32 → Option (SL)} (hK2 : ∀ {L : SL} {x1 : Int32} {H : Heap} {locs : List Loc} {ls : Array Slot}, va_P D vwCl (wA cs ad (va_up Ls i L) Hs T M dr hs o od) H → va_S (Afr ad s.heap.size) s.heap H locs → lv_has ls 3 [(0, .ref (ad (5 + 14 * i + 0))), (1, .int x1)] → K2 L x1 = some res → W p l e rmX2_countFills s m args below meth c H locs 0 0 (MQ below (va_Qv (fun (_ : Unit) => True) (fun _ t => va_P D vwCl (wA cs ad (va_up Ls i res) Hs T M dr hs o od) t.heap) (Afr ad s.heap.size)) args s 0 0 (Afr ad s.heap.size)) (F0 m 2 ls [])) {L : SL} {x1 : Int32} {H : Heap} {locs : List Loc} {ls : Array Slot} (hP : va_P D vwCl (wA cs ad (va_up Ls i L) Hs T M dr hs o od) H) (hS : va_S (Afr ad s.heap.size) s.heap H locs) (hl : lv_has ls 3 [(0, .ref (ad (5 + 14 * i + 0))), (1, .int x1)]) (h : f_X2_countFills_b46 K2 L x1 = some res) : W p l e rmX2_countFills s m args below meth c H locs 0 0 (MQ below (va_Qv (fun (_ : Unit) => True) (fun _ t => va_P D vwCl (wA cs ad (va_up Ls i res) Hs T M dr hs o od) t.heap) (Afr ad s.heap.size)) args s 0 0 (Afr ad s.heap.size)) (F0 m 46 ls []) := by
  unfold f_X2_countFills_b46 at h
  obtain ⟨z1, ez1, h⟩ := lt_out h
  refine lv_iinc (v := z1) (lv' := [(1, .int z1), (0, .ref (ad (5 + 14 * i + 0)))]) C.1 C.2.1 dX2_countFills_46 hl (k := 1) rfl (by rw [ez1]; rfl) (by decide) rfl (fun ls hl => ?_)
  refine lv_goto (tgt := 2) C.1 C.2.1 dX2_countFills_49 (by decide) ?_
  exact hK2 hP hS (lv_sub hl [1, 0] rfl)  h
set_option maxRecDepth 100000 in
set_option maxHeartbeats 4000000 in
theorem w_X2_countFills_b2 {res : SL} (C : Cx p s m args meth c cX2_countFills 3 none RX2 wsX2_countFills) (G : Gx D cs ad s) {i : Nat} (hi : i < 6) {Ls : Nat → SL} {Hs : SL} {T : SL} {M : SL} {dr : Int64} {hs : Int64} {o : Int64} {od : UInt64} {K2 : SL → Int32 → Option (SL)} (hK2 : ∀ {L : SL} {x1 : Int32} {H : Heap} {locs : List Loc} {ls : Array Slot}, va_P D vwCl (wA cs ad (va_up Ls i L) Hs T M dr hs o od) H → va_S (Afr ad s.heap.size) s.heap H locs → lv_has ls 3 [(0, .ref (ad (5 + 14 * i + 0))), (1, .int x1)] → K2 L x1 = some res → W p l e rmX2_countFills s m args below meth c H locs 0 0 (MQ below (va_Qv (fun (_ : Unit) => True) (fun _ t => va_P D vwCl (wA cs ad (va_up Ls i res) Hs T M dr hs o od) t.heap) (Afr ad s.heap.size)) args s 0 0 (Afr ad s.heap.size)) (F0 m 2 ls [])) {L : SL} {x1 : Int32} {H : Heap} {locs : List Loc} {ls : Array Slot} (hP : va_P D vwCl (wA cs ad (va_up Ls i L) Hs T M dr hs o od) H) (hS : va_S (Afr ad s.heap.size) s.heap H locs) (hl : lv_has ls 3 [(0, .ref (ad (5 + 14 * i + 0))), (1, .int x1)]) (h : f_X2_countFills_b2 K2 L x1 = some res) : W p l e rmX2_countFills s m args below meth c H locs 0 0 (MQ below (va_Qv (fun (_ : Unit) => True) (fun _ t => va_P D vwCl (wA cs ad (va_up Ls i res) Hs T M dr hs o od) t.heap) (Afr ad s.heap.size)) args s 0 0 (Afr ad s.heap.size)) (F0 m 2 ls []) := by
  unfold f_X2_countFills_b2 at h
  refine lv_iload_n C.1 C.2.1 dX2_countFills_2 rfl (lv_at hl 1 rfl) ?_
  refine lv_aload_n C.1 C.2.1 dX2_countFills_3 rfl (lv_at hl 0 rfl) ?_
  obtain ⟨v1, ev1, h⟩ := lt_out h
  refine k_geti C G hP (v_obj hi) rfl 2 (by decide) n_X2_countFills_X2 q_X2_countFills_0 rfl ev1 dX2_countFills_4 ?_
  refine lv_iconst (v := 1) C.1 C.2.1 dX2_countFills_7 (by decide) ?_
  obtain ⟨v2, ev2, h⟩ := lt_out h
  refine k_isub C ev2 dX2_countFills_8 ?_
  refine lv_icmp_ge (tgt := 52) C.1 C.2.1 dX2_countFills_9 (by decide) (fun c3 => ?_) (fun c3 => ?_)
  · have h := if_t c3 h
    cases h
    exact k_vret C hP hS dX2_countFills_52
  · have h := if_f c3 h
    refine lv_aload_n C.1 C.2.1 dX2_countFills_12 rfl (lv_at hl 0 rfl) ?_
    refine k_getf C G hP (v_obj hi) rfl 0 (by decide) n_X2_countFills_X2 q_X2_countFills_1 (v := .ref (ad (5 + 14 * i + 1))) rfl dX2_countFills_13 ?_
    refine lv_iload_n C.1 C.2.1 dX2_countFills_16 rfl (lv_at hl 1 rfl) ?_
    obtain ⟨g4, h⟩ := gd_out h
    have g4 := chk_in g4
    obtain ⟨kq5, ekq5, h⟩ := lt_out h
    have hkq5 : 2 ≤ kq5 ∧ kq5 < 10 := row_k g4 ekq5
    refine k_aaldR C G hP (v_rows hi) g4 (b := ad (5 + 14 * i + kq5)) (by rw [ekq5]) dX2_countFills_17 ?_
    refine lv_astore_n (lv' := [(2, .ref (ad (5 + 14 * i + kq5))), (0, .ref (ad (5 + 14 * i + 0))), (1, .int x1)]) C.1 C.2.1 dX2_countFills_18 rfl hl (by decide) rfl (fun ls hl => ?_)
    refine lv_aload_n C.1 C.2.1 dX2_countFills_19 rfl (lv_at hl 0 rfl) ?_
    refine lv_bipush (v := 15) C.1 C.2.1 dX2_countFills_20 (by decide) ?_
    refine lv_dup2_11 C.1 C.2.1 dX2_countFills_22 rfl rfl ?_
    obtain ⟨v6, ev6, h⟩ := lt_out h
    refine k_iald C G hP (v_row hi hkq5) (chk_in rfl) (j := 15) rfl ev6 dX2_countFills_23 ?_
    refine lv_aload_n C.1 C.2.1 dX2_countFills_24 rfl (lv_at hl 0 rfl) ?_
    refine lv_iconst (v := 5) C.1 C.2.1 dX2_countFills_25 (by decide) ?_
    obtain ⟨v7, ev7, h⟩ := lt_out h
    refine k_iald C G hP (v_row hi hkq5) (chk_in rfl) (j := 5) rfl ev7 dX2_countFills_26 ?_
    obtain ⟨v8, ev8, h⟩ := lt_out h
    refine k_iadd C ev8 dX2_countFills_27 ?_
    obtain ⟨L9, eL9, h⟩ := lt_out h
    refine k_iast C G hP hS (v_row hi hkq5) (chk_in rfl) (j := 15) rfl (v_rowS hi hkq5) dX2_countFills_28 (fun H locs hP hS => ?_)
    rw [← eL9] at hP
    refine lv_aload_n C.1 C.2.1 dX2_countFills_29 rfl (lv_at hl 0 rfl) ?_
    refine lv_iconst (v := 5) C.1 C.2.1 dX2_countFills_30 (by decide) ?_
    obtain ⟨v10, ev10, h⟩ := lt_out h
    refine k_iald C G hP (v_row hi hkq5) (chk_in rfl) (j := 5) rfl ev10 dX2_countFills_31 ?_
    refine lv_aload_n C.1 C.2.1 dX2_countFills_32 rfl (lv_at hl 0 rfl) ?_
    refine lv_iconst (v := 4) C.1 C.2.1 dX2_countFills_33 (by decide) ?_
    obtain ⟨v11, ev11, h⟩ := lt_out h
    refine k_iald C G hP (v_row hi hkq5) (chk_in rfl) (j := 4) rfl ev11 dX2_countFills_34 ?_
    refine lv_icmp_lt (tgt := 46) C.1 C.2.1 dX2_countFills_35 (by decide) (fun c12 => ?_) (fun c12 => ?_)
    · have h := if_t c12 h
      exact w_X2_countFills_b46 C G hi hK2 hP hS (lv_sub hl [1, 2] rfl) h
    · have h := if_f c12 h
      refine lv_aload_n C.1 C.2.1 dX2_countFills_38 rfl (lv_at hl 0 rfl) ?_
      refine lv_bipush (v := 14) C.1 C.2.1 dX2_countFills_39 (by decide) ?_
      refine lv_dup2_11 C.1 C.2.1 dX2_countFills_41 rfl rfl ?_
      obtain ⟨v13, ev13, h⟩ := lt_out h
      refine k_iald C G hP (v_row hi hkq5) (chk_in rfl) (j := 14) rfl ev13 dX2_countFills_42 ?_
      refine lv_iconst (v := 1) C.1 C.2.1 dX2_countFills_43 (by decide) ?_
      obtain ⟨v14, ev14, h⟩ := lt_out h
      refine k_iadd C ev14 dX2_countFills_44 ?_
      obtain ⟨L15, eL15, h⟩ := lt_out h
      refine k_iast C G hP hS (v_row hi hkq5) (chk_in rfl) (j := 14) rfl (v_rowS hi hkq5) dX2_countFills_45 (fun H locs hP hS => ?_)
      rw [← eL15] at hP
      exact w_X2_countFills_b46 C G hi hK2 hP hS (lv_sub hl [1, 2] rfl) h
set_option maxRecDepth 100000 in
set_option maxHeartbeats 4000000 in
theorem w_X2_countFills_h2 {res : SL} (C : Cx p s m args meth c cX2_countFills 3 none RX2 wsX2_countFills) (G : Gx D cs ad s) {i : Nat} (hi : i < 6) {Ls : Nat → SL} {Hs : SL} {T : SL} {M : SL} {dr : Int64} {hs : Int64} {o : Int64} {od : UInt64} : ∀ (n : Nat) {L : SL} {x1 : Int32} {H : Heap} {locs : List Loc} {ls : Array Slot}, va_P D vwCl (wA cs ad (va_up Ls i L) Hs T M dr hs o od) H → va_S (Afr ad s.heap.size) s.heap H locs → lv_has ls 3 [(0, .ref (ad (5 + 14 * i + 0))), (1, .int x1)] → f_X2_countFills_h2 n L x1 = some res → W p l e rmX2_countFills s m args below meth c H locs 0 0 (MQ below (va_Qv (fun (_ : Unit) => True) (fun _ t => va_P D vwCl (wA cs ad (va_up Ls i res) Hs T M dr hs o od) t.heap) (Afr ad s.heap.size)) args s 0 0 (Afr ad s.heap.size)) (F0 m 2 ls []) := by
  intro n
  induction n with
  | zero => intro L x1 H locs ls hP hS hl  h; cases h
  | succ n ih => intro L x1 H locs ls hP hS hl  h; exact w_X2_countFills_b2 C G hi  ih hP hS hl  h
set_option maxRecDepth 100000 in
set_option maxHeartbeats 4000000 in
theorem w_X2_countFills_e {res : SL} (C : Cx p s m args meth c cX2_countFills 3 none RX2 wsX2_countFills) (G : Gx D cs ad s) {i : Nat} (hi : i < 6) {Ls : Nat → SL} {Hs : SL} {T : SL} {M : SL} {dr : Int64} {hs : Int64} {o : Int64} {od : UInt64} {L : SL} {H : Heap} {locs : List Loc} {ls : Array Slot} (hP : va_P D vwCl (wA cs ad (va_up Ls i L) Hs T M dr hs o od) H) (hS : va_S (Afr ad s.heap.size) s.heap H locs) (hl : lv_has ls 3 [(0, .ref (ad (5 + 14 * i + 0)))]) (h : f_X2_countFills L = some res) : W p l e rmX2_countFills s m args below meth c H locs 0 0 (MQ below (va_Qv (fun (_ : Unit) => True) (fun _ t => va_P D vwCl (wA cs ad (va_up Ls i res) Hs T M dr hs o od) t.heap) (Afr ad s.heap.size)) args s 0 0 (Afr ad s.heap.size)) (F0 m 0 ls []) := by
  unfold f_X2_countFills at h
  refine lv_iconst (v := 0) C.1 C.2.1 dX2_countFills_0 (by decide) ?_
  refine lv_istore_n (lv' := [(1, .int 0), (0, .ref (ad (5 + 14 * i + 0)))]) C.1 C.2.1 dX2_countFills_1 rfl hl (by decide) rfl (fun ls hl => ?_)
  exact w_X2_countFills_h2 C G hi fuel hP hS (lv_sub hl [1, 0] rfl) h
set_option maxRecDepth 100000 in
set_option maxHeartbeats 4000000 in
theorem m_X2_countFills (l : Launch) {D : va_G} {cs : Nat → ClassId} {ad : Nat → Nat} (hAd : adOK ad) (sz : Nat) {i : Nat} (hi : i < 6) {Ls : Nat → SL} {Hs : SL} {T : SL} {M : SL} {dr : Int64} {hs : Int64} {o : Int64} {od : UInt64} {L : SL} {res : SL} (h : f_X2_countFills L = some res) : Met l yX2_countFills wsX2_countFills rmX2_countFills (PA D cs sz (wA cs ad (va_up Ls i L) Hs T M dr hs o od) [.ref (ad (5 + 14 * i + 0))]) (va_Qv (fun (_ : Unit) => True) (fun _ t => va_P D vwCl (wA cs ad (va_up Ls i res) Hs T M dr hs o od) t.heap) (Afr ad sz)) 0 0 (Afr ad sz) :=
  k_met (by decide) rfl (Nat.le_of_ble_eq_true rfl) hAd (fun p e s m below meth c ls C G hP hsz hl hS => by
    subst hsz
    exact w_X2_countFills_e C G hi hP hS hl  h)
/-! X2 chooseSpeed -/
abbrev rmX2_chooseSpeed : Room := { frames := 0, cells := 0, slots := 0, locals := 0 }
theorem q_X2_chooseSpeed_0 : Cond.fieldLink RX2 11 "LineBuffers$Line" "rows" "[[I" ∈ wsX2_chooseSpeed := List.mem_of_getElem? (i := 1) rfl
theorem q_X2_chooseSpeed_1 : Cond.fieldLink RX2 23 "LineBuffers$Line" "machines" "I" ∈ wsX2_chooseSpeed := List.mem_of_getElem? (i := 2) rfl
theorem n_X2_chooseSpeed_X2 : ∀ x ∈ u_ws RX2 TX2 4, x ∈ wsX2_chooseSpeed := fun x h => List.mem_cons_of_mem _ (List.mem_append_right _ h)
set_option maxRecDepth 100000 in
set_option maxHeartbeats 4000000 in
theorem w_X2_chooseSpeed_b26 {res : SL} (C : Cx p s m args meth c cX2_chooseSpeed 3 none RX2 wsX2_chooseSpeed) (G : Gx D cs ad s) {i : Nat} (hi : i < 6) {Ls : Nat → SL} {Hs : SL} {T : SL} {M : SL} {dr : Int64} {hs : Int64} {o : Int64} {od : UInt64} {L : SL} {k2 : Nat} {H : Heap} {locs : List Loc} {ls : Array Slot} (hP : va_P D vwCl (wA cs ad (va_up Ls i L) Hs T M dr hs o od) H) (hS : va_S (Afr ad s.heap.size) s.heap H locs) (hl : lv_has ls 3 [(2, .ref (ad (5 + 14 * i + k2)))]) (hk2 : 2 ≤ k2 ∧ k2 < 10) (h : f_X2_chooseSpeed_b26 L k2 = some res) : W p l e rmX2_chooseSpeed s m args below meth c H locs 0 0 (MQ below (va_Qv (fun (_ : Unit) => True) (fun _ t => va_P D vwCl (wA cs ad (va_up Ls i res) Hs T M dr hs o od) t.heap) (Afr ad s.heap.size)) args s 0 0 (Afr ad s.heap.size)) (F0 m 26 ls []) := by
  unfold f_X2_chooseSpeed_b26 at h
  refine lv_aload_n C.1 C.2.1 dX2_chooseSpeed_26 rfl (lv_at hl 0 rfl) ?_
  refine lv_bipush (v := 7) C.1 C.2.1 dX2_chooseSpeed_27 (by decide) ?_
  refine lv_iconst (v := 1) C.1 C.2.1 dX2_chooseSpeed_29 (by decide) ?_
  obtain ⟨L1, eL1, h⟩ := lt_out h
  refine k_iast C G hP hS (v_row hi hk2) (chk_in rfl) (j := 7) rfl (v_rowS hi hk2) dX2_chooseSpeed_30 (fun H locs hP hS => ?_)
  rw [← eL1] at hP
  refine lv_goto (tgt := 48) C.1 C.2.1 dX2_chooseSpeed_31 (by decide) ?_
  cases h
  exact k_vret C hP hS dX2_chooseSpeed_48
set_option maxRecDepth 100000 in
set_option maxHeartbeats 4000000 in
theorem w_X2_chooseSpeed_e {res : SL} (C : Cx p s m args meth c cX2_chooseSpeed 3 none RX2 wsX2_chooseSpeed) (G : Gx D cs ad s) {i : Nat} (hi : i < 6) {Ls : Nat → SL} {Hs : SL} {T : SL} {M : SL} {dr : Int64} {hs : Int64} {o : Int64} {od : UInt64} {L : SL} {x1 : Int32} {H : Heap} {locs : List Loc} {ls : Array Slot} (hP : va_P D vwCl (wA cs ad (va_up Ls i L) Hs T M dr hs o od) H) (hS : va_S (Afr ad s.heap.size) s.heap H locs) (hl : lv_has ls 3 [(0, .ref (ad (5 + 14 * i + 0))), (1, .int x1)]) (h : f_X2_chooseSpeed L x1 = some res) : W p l e rmX2_chooseSpeed s m args below meth c H locs 0 0 (MQ below (va_Qv (fun (_ : Unit) => True) (fun _ t => va_P D vwCl (wA cs ad (va_up Ls i res) Hs T M dr hs o od) t.heap) (Afr ad s.heap.size)) args s 0 0 (Afr ad s.heap.size)) (F0 m 0 ls []) := by
  unfold f_X2_chooseSpeed at h
  refine lv_aload_n C.1 C.2.1 dX2_chooseSpeed_0 rfl (lv_at hl 0 rfl) ?_
  refine k_getf C G hP (v_obj hi) rfl 0 (by decide) n_X2_chooseSpeed_X2 q_X2_chooseSpeed_0 (v := .ref (ad (5 + 14 * i + 1))) rfl dX2_chooseSpeed_1 ?_
  refine lv_iload_n C.1 C.2.1 dX2_chooseSpeed_4 rfl (lv_at hl 1 rfl) ?_
  obtain ⟨g1, h⟩ := gd_out h
  have g1 := chk_in g1
  obtain ⟨kq2, ekq2, h⟩ := lt_out h
  have hkq2 : 2 ≤ kq2 ∧ kq2 < 10 := row_k g1 ekq2
  refine k_aaldR C G hP (v_rows hi) g1 (b := ad (5 + 14 * i + kq2)) (by rw [ekq2]) dX2_chooseSpeed_5 ?_
  refine lv_astore_n (lv' := [(2, .ref (ad (5 + 14 * i + kq2))), (0, .ref (ad (5 + 14 * i + 0))), (1, .int x1)]) C.1 C.2.1 dX2_chooseSpeed_6 rfl hl (by decide) rfl (fun ls hl => ?_)
  refine lv_iload_n C.1 C.2.1 dX2_chooseSpeed_7 rfl (lv_at hl 2 rfl) ?_
  refine lv_aload_n C.1 C.2.1 dX2_chooseSpeed_8 rfl (lv_at hl 1 rfl) ?_
  obtain ⟨v3, ev3, h⟩ := lt_out h
  refine k_geti C G hP (v_obj hi) rfl 2 (by decide) n_X2_chooseSpeed_X2 q_X2_chooseSpeed_1 rfl ev3 dX2_chooseSpeed_9 ?_
  refine lv_iconst (v := 1) C.1 C.2.1 dX2_chooseSpeed_12 (by decide) ?_
  obtain ⟨v4, ev4, h⟩ := lt_out h
  refine k_isub C ev4 dX2_chooseSpeed_13 ?_
  refine lv_icmp_eq (tgt := 26) C.1 C.2.1 dX2_chooseSpeed_14 (by decide) (fun c5 => ?_) (fun c5 => ?_)
  · have h := if_t c5 h
    exact w_X2_chooseSpeed_b26 C G hi hP hS (lv_sub hl [0] rfl) hkq2 h
  · have h := if_f c5 h
    refine lv_aload_n C.1 C.2.1 dX2_chooseSpeed_17 rfl (lv_at hl 0 rfl) ?_
    refine lv_iconst (v := 5) C.1 C.2.1 dX2_chooseSpeed_18 (by decide) ?_
    obtain ⟨v6, ev6, h⟩ := lt_out h
    refine k_iald C G hP (v_row hi hkq2) (chk_in rfl) (j := 5) rfl ev6 dX2_chooseSpeed_19 ?_
    refine lv_aload_n C.1 C.2.1 dX2_chooseSpeed_20 rfl (lv_at hl 0 rfl) ?_
    refine lv_iconst (v := 2) C.1 C.2.1 dX2_chooseSpeed_21 (by decide) ?_
    obtain ⟨v7, ev7, h⟩ := lt_out h
    refine k_iald C G hP (v_row hi hkq2) (chk_in rfl) (j := 2) rfl ev7 dX2_chooseSpeed_22 ?_
    refine lv_icmp_gt (tgt := 34) C.1 C.2.1 dX2_chooseSpeed_23 (by decide) (fun c8 => ?_) (fun c8 => ?_)
    · have h := if_t c8 h
      refine lv_aload_n C.1 C.2.1 dX2_chooseSpeed_34 rfl (lv_at hl 0 rfl) ?_
      refine lv_iconst (v := 5) C.1 C.2.1 dX2_chooseSpeed_35 (by decide) ?_
      obtain ⟨v9, ev9, h⟩ := lt_out h
      refine k_iald C G hP (v_row hi hkq2) (chk_in rfl) (j := 5) rfl ev9 dX2_chooseSpeed_36 ?_
      refine lv_aload_n C.1 C.2.1 dX2_chooseSpeed_37 rfl (lv_at hl 0 rfl) ?_
      refine lv_iconst (v := 3) C.1 C.2.1 dX2_chooseSpeed_38 (by decide) ?_
      obtain ⟨v10, ev10, h⟩ := lt_out h
      refine k_iald C G hP (v_row hi hkq2) (chk_in rfl) (j := 3) rfl ev10 dX2_chooseSpeed_39 ?_
      refine lv_icmp_lt (tgt := 48) C.1 C.2.1 dX2_chooseSpeed_40 (by decide) (fun c11 => ?_) (fun c11 => ?_)
      · have h := if_t c11 h
        cases h
        exact k_vret C hP hS dX2_chooseSpeed_48
      · have h := if_f c11 h
        refine lv_aload_n C.1 C.2.1 dX2_chooseSpeed_43 rfl (lv_at hl 0 rfl) ?_
        refine lv_bipush (v := 7) C.1 C.2.1 dX2_chooseSpeed_44 (by decide) ?_
        refine lv_iconst (v := 0) C.1 C.2.1 dX2_chooseSpeed_46 (by decide) ?_
        obtain ⟨L12, eL12, h⟩ := lt_out h
        refine k_iast C G hP hS (v_row hi hkq2) (chk_in rfl) (j := 7) rfl (v_rowS hi hkq2) dX2_chooseSpeed_47 (fun H locs hP hS => ?_)
        rw [← eL12] at hP
        cases h
        exact k_vret C hP hS dX2_chooseSpeed_48
    · have h := if_f c8 h
      exact w_X2_chooseSpeed_b26 C G hi hP hS (lv_sub hl [0] rfl) hkq2 h
set_option maxRecDepth 100000 in
set_option maxHeartbeats 4000000 in
theorem m_X2_chooseSpeed (l : Launch) {D : va_G} {cs : Nat → ClassId} {ad : Nat → Nat} (hAd : adOK ad) (sz : Nat) {i : Nat} (hi : i < 6) {Ls : Nat → SL} {Hs : SL} {T : SL} {M : SL} {dr : Int64} {hs : Int64} {o : Int64} {od : UInt64} {L : SL} {x1 : Int32} {res : SL} (h : f_X2_chooseSpeed L x1 = some res) : Met l yX2_chooseSpeed wsX2_chooseSpeed rmX2_chooseSpeed (PA D cs sz (wA cs ad (va_up Ls i L) Hs T M dr hs o od) [.ref (ad (5 + 14 * i + 0)), .int x1]) (va_Qv (fun (_ : Unit) => True) (fun _ t => va_P D vwCl (wA cs ad (va_up Ls i res) Hs T M dr hs o od) t.heap) (Afr ad sz)) 0 0 (Afr ad sz) :=
  k_met (by decide) rfl (Nat.le_of_ble_eq_true rfl) hAd (fun p e s m below meth c ls C G hP hsz hl hS => by
    subst hsz
    exact w_X2_chooseSpeed_e C G hi hP hS hl  h)
/-! X2 noteTurn -/
abbrev rmX2_noteTurn : Room := { frames := 0, cells := 0, slots := 0, locals := 0 }
set_option maxRecDepth 100000 in
set_option maxHeartbeats 4000000 in
theorem w_X2_noteTurn_e {res : SL} (C : Cx p s m args meth c cX2_noteTurn 2 none RX2 wsX2_noteTurn) (G : Gx D cs ad s) {i : Nat} (hi : i < 6) {Ls : Nat → SL} {Hs : SL} {T : SL} {M : SL} {dr : Int64} {hs : Int64} {o : Int64} {od : UInt64} {L : SL} {k0 : Nat} {x1 : Int32} {H : Heap} {locs : List Loc} {ls : Array Slot} (hP : va_P D vwCl (wA cs ad (va_up Ls i L) Hs T M dr hs o od) H) (hS : va_S (Afr ad s.heap.size) s.heap H locs) (hl : lv_has ls 2 [(0, .ref (ad (5 + 14 * i + k0))), (1, .int x1)]) (hk0 : 2 ≤ k0 ∧ k0 < 10) (h : f_X2_noteTurn k0 L x1 = some res) : W p l e rmX2_noteTurn s m args below meth c H locs 0 0 (MQ below (va_Qv (fun (_ : Unit) => True) (fun _ t => va_P D vwCl (wA cs ad (va_up Ls i res) Hs T M dr hs o od) t.heap) (Afr ad s.heap.size)) args s 0 0 (Afr ad s.heap.size)) (F0 m 0 ls []) := by
  unfold f_X2_noteTurn at h
  refine lv_aload_n C.1 C.2.1 dX2_noteTurn_0 rfl (lv_at hl 0 rfl) ?_
  refine lv_bipush (v := 8) C.1 C.2.1 dX2_noteTurn_1 (by decide) ?_
  refine lv_iload_n C.1 C.2.1 dX2_noteTurn_3 rfl (lv_at hl 1 rfl) ?_
  obtain ⟨L1, eL1, h⟩ := lt_out h
  refine k_iast C G hP hS (v_row hi hk0) (chk_in rfl) (j := 8) rfl (v_rowS hi hk0) dX2_noteTurn_4 (fun H locs hP hS => ?_)
  rw [← eL1] at hP
  refine lv_aload_n C.1 C.2.1 dX2_noteTurn_5 rfl (lv_at hl 0 rfl) ?_
  refine lv_bipush (v := 9) C.1 C.2.1 dX2_noteTurn_6 (by decide) ?_
  refine lv_iload_n C.1 C.2.1 dX2_noteTurn_8 rfl (lv_at hl 1 rfl) ?_
  obtain ⟨v2, ev2, h⟩ := lt_out h
  refine k_iadd C ev2 dX2_noteTurn_9 ?_
  refine lv_iconst (v := 1) C.1 C.2.1 dX2_noteTurn_10 (by decide) ?_
  obtain ⟨v3, ev3, h⟩ := lt_out h
  refine k_isub C ev3 dX2_noteTurn_11 ?_
  refine lv_dup2_11 C.1 C.2.1 dX2_noteTurn_12 rfl rfl ?_
  obtain ⟨g4, h⟩ := gd_out h
  have g4 := chk_in g4
  obtain ⟨v5, ev5, h⟩ := lt_out h
  refine k_iald C G hP (v_row hi hk0) g4 (j := v3.toNatClampNeg) rfl ev5 dX2_noteTurn_13 ?_
  refine lv_iconst (v := 1) C.1 C.2.1 dX2_noteTurn_14 (by decide) ?_
  obtain ⟨v6, ev6, h⟩ := lt_out h
  refine k_iadd C ev6 dX2_noteTurn_15 ?_
  obtain ⟨L7, eL7, h⟩ := lt_out h
  refine k_iast C G hP hS (v_row hi hk0) g4 (j := v3.toNatClampNeg) rfl (v_rowS hi hk0) dX2_noteTurn_16 (fun H locs hP hS => ?_)
  rw [← eL7] at hP
  cases h
  exact k_vret C hP hS dX2_noteTurn_17
set_option maxRecDepth 100000 in
set_option maxHeartbeats 4000000 in
theorem m_X2_noteTurn (l : Launch) {D : va_G} {cs : Nat → ClassId} {ad : Nat → Nat} (hAd : adOK ad) (sz : Nat) {i : Nat} (hi : i < 6) {k0 : Nat} (hk0 : 2 ≤ k0 ∧ k0 < 10) {Ls : Nat → SL} {Hs : SL} {T : SL} {M : SL} {dr : Int64} {hs : Int64} {o : Int64} {od : UInt64} {L : SL} {x1 : Int32} {res : SL} (h : f_X2_noteTurn k0 L x1 = some res) : Met l yX2_noteTurn wsX2_noteTurn rmX2_noteTurn (PA D cs sz (wA cs ad (va_up Ls i L) Hs T M dr hs o od) [.ref (ad (5 + 14 * i + k0)), .int x1]) (va_Qv (fun (_ : Unit) => True) (fun _ t => va_P D vwCl (wA cs ad (va_up Ls i res) Hs T M dr hs o od) t.heap) (Afr ad sz)) 0 0 (Afr ad sz) :=
  k_met (by decide) rfl (Nat.le_of_ble_eq_true rfl) hAd (fun p e s m below meth c ls C G hP hsz hl hS => by
    subst hsz
    exact w_X2_noteTurn_e C G hi hP hS hl hk0 h)
/-! X2 presentCycle -/
abbrev rmX2_presentCycle : Room := { frames := 0, cells := 0, slots := 0, locals := 0 }
set_option maxRecDepth 100000 in
set_option maxHeartbeats 4000000 in
theorem w_X2_presentCycle_e {res : Int32} (C : Cx p s m args meth c cX2_presentCycle 1 (some .int) RX2 wsX2_presentCycle) (G : Gx D cs ad s) {i : Nat} (hi : i < 6) {Ls : Nat → SL} {Hs : SL} {T : SL} {M : SL} {dr : Int64} {hs : Int64} {o : Int64} {od : UInt64} {L : SL} {k0 : Nat} {H : Heap} {locs : List Loc} {ls : Array Slot} (hP : va_P D vwCl (wA cs ad (va_up Ls i L) Hs T M dr hs o od) H) (hS : va_S (Afr ad s.heap.size) s.heap H locs) (hl : lv_has ls 1 [(0, .ref (ad (5 + 14 * i + k0)))]) (hk0 : 2 ≤ k0 ∧ k0 < 10) (h : f_X2_presentCycle k0 L = some res) : W p l e rmX2_presentCycle s m args below meth c H locs 0 0 (MQ below (va_Qi (fun r' (_ : Unit) => r' = res) (fun _ t => va_P D vwCl (wA cs ad (va_up Ls i L) Hs T M dr hs o od) t.heap) (Afr ad s.heap.size)) args s 0 0 (Afr ad s.heap.size)) (F0 m 0 ls []) := by
  unfold f_X2_presentCycle at h
  refine lv_aload_n C.1 C.2.1 dX2_presentCycle_0 rfl (lv_at hl 0 rfl) ?_
  refine lv_bipush (v := 7) C.1 C.2.1 dX2_presentCycle_1 (by decide) ?_
  obtain ⟨v1, ev1, h⟩ := lt_out h
  refine k_iald C G hP (v_row hi hk0) (chk_in rfl) (j := 7) rfl ev1 dX2_presentCycle_3 ?_
  refine lv_iconst (v := 1) C.1 C.2.1 dX2_presentCycle_4 (by decide) ?_
  refine lv_icmp_ne (tgt := 14) C.1 C.2.1 dX2_presentCycle_5 (by decide) (fun c2 => ?_) (fun c2 => ?_)
  · have h := if_t c2 h
    refine lv_aload_n C.1 C.2.1 dX2_presentCycle_14 rfl (lv_at hl 0 rfl) ?_
    refine lv_iconst (v := 0) C.1 C.2.1 dX2_presentCycle_15 (by decide) ?_
    obtain ⟨v3, ev3, h⟩ := lt_out h
    refine k_iald C G hP (v_row hi hk0) (chk_in rfl) (j := 0) rfl ev3 dX2_presentCycle_16 ?_
    cases h
    exact k_iret C hP hS dX2_presentCycle_17
  · have h := if_n c2 h
    refine lv_aload_n C.1 C.2.1 dX2_presentCycle_8 rfl (lv_at hl 0 rfl) ?_
    refine lv_iconst (v := 1) C.1 C.2.1 dX2_presentCycle_9 (by decide) ?_
    obtain ⟨v4, ev4, h⟩ := lt_out h
    refine k_iald C G hP (v_row hi hk0) (chk_in rfl) (j := 1) rfl ev4 dX2_presentCycle_10 ?_
    refine lv_goto (tgt := 17) C.1 C.2.1 dX2_presentCycle_11 (by decide) ?_
    cases h
    exact k_iret C hP hS dX2_presentCycle_17
set_option maxRecDepth 100000 in
set_option maxHeartbeats 4000000 in
theorem m_X2_presentCycle (l : Launch) {D : va_G} {cs : Nat → ClassId} {ad : Nat → Nat} (hAd : adOK ad) (sz : Nat) {i : Nat} (hi : i < 6) {k0 : Nat} (hk0 : 2 ≤ k0 ∧ k0 < 10) {Ls : Nat → SL} {Hs : SL} {T : SL} {M : SL} {dr : Int64} {hs : Int64} {o : Int64} {od : UInt64} {L : SL} {res : Int32} (h : f_X2_presentCycle k0 L = some res) : Met l yX2_presentCycle wsX2_presentCycle rmX2_presentCycle (PA D cs sz (wA cs ad (va_up Ls i L) Hs T M dr hs o od) [.ref (ad (5 + 14 * i + k0))]) (va_Qi (fun r' (_ : Unit) => r' = res) (fun _ t => va_P D vwCl (wA cs ad (va_up Ls i L) Hs T M dr hs o od) t.heap) (Afr ad sz)) 0 0 (Afr ad sz) :=
  k_met (by decide) rfl (Nat.le_of_ble_eq_true rfl) hAd (fun p e s m below meth c ls C G hP hsz hl hS => by
    subst hsz
    exact w_X2_presentCycle_e C G hi hP hS hl hk0 h)
/-! X2 release -/
abbrev rmX2_release : Room := { frames := 1, cells := 0, slots := 0, locals := 21 }
theorem q_X2_release_0 : Cond.fieldLink RX2 11 "LineBuffers$Line" "rows" "[[I" ∈ wsX2_release := List.mem_of_getElem? (i := 1) rfl
theorem q_X2_release_1 : Cond.fieldLink RX2 23 "LineBuffers$Line" "machines" "I" ∈ wsX2_release := List.mem_of_getElem? (i := 2) rfl
theorem q_X2_release_2 : Cond.fieldLink RX2 19 "LineBuffers$Line" "stops" "LLineBuffers$Stops;" ∈ wsX2_release := List.mem_of_getElem? (i := 3) rfl
theorem n_X2_release_X2 : ∀ x ∈ u_ws RX2 TX2 4, x ∈ wsX2_release := fun x h => List.mem_cons_of_mem _ (List.mem_append_left _ (List.mem_append_right _ h))
set_option maxRecDepth 100000 in
set_option maxHeartbeats 4000000 in
theorem w_X2_release_b84 {res : SL} (C : Cx p s m args meth c cX2_release 4 none RX2 wsX2_release) (G : Gx D cs ad s) {i : Nat} (hi : i < 6) {Ls : Nat → SL} {Hs : SL} {T : SL} {M : SL} {dr : Int64} {hs : Int64} {o : Int64} {od : UInt64} {L : SL} {k2 : Nat} {H : Heap} {locs : List Loc} {ls : Array Slot} (hP : va_P D vwCl (wA cs ad (va_up Ls i L) Hs T M dr hs o od) H) (hS : va_S (Afr ad s.heap.size) s.heap H locs) (hl : lv_has ls 4 [(2, .ref (ad (5 + 14 * i + k2)))]) (hk2 : 2 ≤ k2 ∧ k2 < 10) (h : f_X2_release_b84 L k2 = some res) : W p l e rmX2_release s m args below meth c H locs 0 0 (MQ below (va_Qv (fun (_ : Unit) => True) (fun _ t => va_P D vwCl (wA cs ad (va_up Ls i res) Hs T M dr hs o od) t.heap) (Afr ad s.heap.size)) args s 0 0 (Afr ad s.heap.size)) (F0 m 84 ls []) := by
  unfold f_X2_release_b84 at h
  refine lv_aload_n C.1 C.2.1 dX2_release_84 rfl (lv_at hl 0 rfl) ?_
  refine lv_bipush (v := 6) C.1 C.2.1 dX2_release_85 (by decide) ?_
  refine lv_iconst (v := (-1)) C.1 C.2.1 dX2_release_87 (by decide) ?_
  obtain ⟨L1, eL1, h⟩ := lt_out h
  refine k_iast C G hP hS (v_row hi hk2) (chk_in rfl) (j := 6) rfl (v_rowS hi hk2) dX2_release_88 (fun H locs hP hS => ?_)
  rw [← eL1] at hP
  refine lv_aload_n C.1 C.2.1 dX2_release_89 rfl (lv_at hl 0 rfl) ?_
  refine lv_bipush (v := 13) C.1 C.2.1 dX2_release_90 (by decide) ?_
  refine lv_dup2_11 C.1 C.2.1 dX2_release_92 rfl rfl ?_
  obtain ⟨v2, ev2, h⟩ := lt_out h
  refine k_iald C G hP (v_row hi hk2) (chk_in rfl) (j := 13) rfl ev2 dX2_release_93 ?_
  refine lv_iconst (v := 1) C.1 C.2.1 dX2_release_94 (by decide) ?_
  obtain ⟨v3, ev3, h⟩ := lt_out h
  refine k_iadd C ev3 dX2_release_95 ?_
  obtain ⟨L4, eL4, h⟩ := lt_out h
  refine k_iast C G hP hS (v_row hi hk2) (chk_in rfl) (j := 13) rfl (v_rowS hi hk2) dX2_release_96 (fun H locs hP hS => ?_)
  rw [← eL4] at hP
  cases h
  exact k_vret C hP hS dX2_release_97
set_option maxRecDepth 100000 in
set_option maxHeartbeats 4000000 in
theorem w_X2_release_b64 {res : SL} (C : Cx p s m args meth c cX2_release 4 none RX2 wsX2_release) (G : Gx D cs ad s) {i : Nat} (hi : i < 6) {Ls : Nat → SL} {Hs : SL} {T : SL} {M : SL} {dr : Int64} {hs : Int64} {o : Int64} {od : UInt64} {L : SL} {k2 : Nat} {H : Heap} {locs : List Loc} {ls : Array Slot} (hP : va_P D vwCl (wA cs ad (va_up Ls i L) Hs T M dr hs o od) H) (hS : va_S (Afr ad s.heap.size) s.heap H locs) (hl : lv_has ls 4 [(2, .ref (ad (5 + 14 * i + k2)))]) (hk2 : 2 ≤ k2 ∧ k2 < 10) (h : f_X2_release_b64 L k2 = some res) : W p l e rmX2_release s m args below meth c H locs 0 0 (MQ below (va_Qv (fun (_ : Unit) => True) (fun _ t => va_P D vwCl (wA cs ad (va_up Ls i res) Hs T M dr hs o od) t.heap) (Afr ad s.heap.size)) args s 0 0 (Afr ad s.heap.size)) (F0 m 64 ls []) := by
  unfold f_X2_release_b64 at h
  refine lv_aload_n C.1 C.2.1 dX2_release_64 rfl (lv_at hl 0 rfl) ?_
  refine lv_iconst (v := 5) C.1 C.2.1 dX2_release_65 (by decide) ?_
  obtain ⟨v1, ev1, h⟩ := lt_out h
  refine k_iald C G hP (v_row hi hk2) (chk_in rfl) (j := 5) rfl ev1 dX2_release_66 ?_
  refine lv_aload_n C.1 C.2.1 dX2_release_67 rfl (lv_at hl 0 rfl) ?_
  refine lv_iconst (v := 4) C.1 C.2.1 dX2_release_68 (by decide) ?_
  obtain ⟨v2, ev2, h⟩ := lt_out h
  refine k_iald C G hP (v_row hi hk2) (chk_in rfl) (j := 4) rfl ev2 dX2_release_69 ?_
  refine lv_icmp_ge (tgt := 83) C.1 C.2.1 dX2_release_70 (by decide) (fun c3 => ?_) (fun c3 => ?_)
  · have h := if_t c3 h
    cases h
    exact k_vret C hP hS dX2_release_83
  · have h := if_f c3 h
    refine lv_aload_n C.1 C.2.1 dX2_release_73 rfl (lv_at hl 0 rfl) ?_
    refine lv_iconst (v := 5) C.1 C.2.1 dX2_release_74 (by decide) ?_
    refine lv_dup2_11 C.1 C.2.1 dX2_release_75 rfl rfl ?_
    obtain ⟨v4, ev4, h⟩ := lt_out h
    refine k_iald C G hP (v_row hi hk2) (chk_in rfl) (j := 5) rfl ev4 dX2_release_76 ?_
    refine lv_iconst (v := 1) C.1 C.2.1 dX2_release_77 (by decide) ?_
    obtain ⟨v5, ev5, h⟩ := lt_out h
    refine k_iadd C ev5 dX2_release_78 ?_
    obtain ⟨L6, eL6, h⟩ := lt_out h
    refine k_iast C G hP hS (v_row hi hk2) (chk_in rfl) (j := 5) rfl (v_rowS hi hk2) dX2_release_79 (fun H locs hP hS => ?_)
    rw [← eL6] at hP
    refine lv_goto (tgt := 84) C.1 C.2.1 dX2_release_80 (by decide) ?_
    exact w_X2_release_b84 C G hi hP hS (lv_sub hl [0] rfl) hk2 h
set_option maxRecDepth 100000 in
set_option maxHeartbeats 4000000 in
theorem w_X2_release_e {res : SL} (C : Cx p s m args meth c cX2_release 4 none RX2 wsX2_release) (G : Gx D cs ad s) {i : Nat} (hi : i < 6) {Ls : Nat → SL} {Hs : SL} {T : SL} {M : SL} {dr : Int64} {hs : Int64} {o : Int64} {od : UInt64} {L : SL} {x1 : Int32} {H : Heap} {locs : List Loc} {ls : Array Slot} (hP : va_P D vwCl (wA cs ad (va_up Ls i L) Hs T M dr hs o od) H) (hS : va_S (Afr ad s.heap.size) s.heap H locs) (hl : lv_has ls 4 [(0, .ref (ad (5 + 14 * i + 0))), (1, .int x1)]) (h : f_X2_release L x1 = some res) : W p l e rmX2_release s m args below meth c H locs 0 0 (MQ below (va_Qv (fun (_ : Unit) => True) (fun _ t => va_P D vwCl (wA cs ad (va_up Ls i res) Hs T M dr hs o od) t.heap) (Afr ad s.heap.size)) args s 0 0 (Afr ad s.heap.size)) (F0 m 0 ls []) := by
  unfold f_X2_release at h
  refine lv_aload_n C.1 C.2.1 dX2_release_0 rfl (lv_at hl 0 rfl) ?_
  refine k_getf C G hP (v_obj hi) rfl 0 (by decide) n_X2_release_X2 q_X2_release_0 (v := .ref (ad (5 + 14 * i + 1))) rfl dX2_release_1 ?_
  refine lv_iload_n C.1 C.2.1 dX2_release_4 rfl (lv_at hl 1 rfl) ?_
  obtain ⟨g1, h⟩ := gd_out h
  have g1 := chk_in g1
  obtain ⟨kq2, ekq2, h⟩ := lt_out h
  have hkq2 : 2 ≤ kq2 ∧ kq2 < 10 := row_k g1 ekq2
  refine k_aaldR C G hP (v_rows hi) g1 (b := ad (5 + 14 * i + kq2)) (by rw [ekq2]) dX2_release_5 ?_
  refine lv_astore_n (lv' := [(2, .ref (ad (5 + 14 * i + kq2))), (0, .ref (ad (5 + 14 * i + 0))), (1, .int x1)]) C.1 C.2.1 dX2_release_6 rfl hl (by decide) rfl (fun ls hl => ?_)
  refine lv_iload_n C.1 C.2.1 dX2_release_7 rfl (lv_at hl 2 rfl) ?_
  refine lv_aload_n C.1 C.2.1 dX2_release_8 rfl (lv_at hl 1 rfl) ?_
  obtain ⟨v3, ev3, h⟩ := lt_out h
  refine k_geti C G hP (v_obj hi) rfl 2 (by decide) n_X2_release_X2 q_X2_release_1 rfl ev3 dX2_release_9 ?_
  refine lv_iconst (v := 1) C.1 C.2.1 dX2_release_12 (by decide) ?_
  obtain ⟨v4, ev4, h⟩ := lt_out h
  refine k_isub C ev4 dX2_release_13 ?_
  refine lv_icmp_ge (tgt := 84) C.1 C.2.1 dX2_release_14 (by decide) (fun c5 => ?_) (fun c5 => ?_)
  · have h := if_t c5 h
    exact w_X2_release_b84 C G hi hP hS (lv_sub hl [0] rfl) hkq2 h
  · have h := if_f c5 h
    refine lv_aload_n C.1 C.2.1 dX2_release_17 rfl (lv_at hl 1 rfl) ?_
    refine k_getf C G hP (v_obj hi) rfl 0 (by decide) n_X2_release_X2 q_X2_release_0 (v := .ref (ad (5 + 14 * i + 1))) rfl dX2_release_18 ?_
    refine lv_iload_n C.1 C.2.1 dX2_release_21 rfl (lv_at hl 2 rfl) ?_
    refine lv_iconst (v := 1) C.1 C.2.1 dX2_release_22 (by decide) ?_
    obtain ⟨v6, ev6, h⟩ := lt_out h
    refine k_iadd C ev6 dX2_release_23 ?_
    obtain ⟨g7, h⟩ := gd_out h
    have g7 := chk_in g7
    obtain ⟨kq8, ekq8, h⟩ := lt_out h
    have hkq8 : 2 ≤ kq8 ∧ kq8 < 10 := row_k g7 ekq8
    refine k_aaldR C G hP (v_rows hi) g7 (b := ad (5 + 14 * i + kq8)) (by rw [ekq8]) dX2_release_24 ?_
    refine lv_astore_n (lv' := [(3, .ref (ad (5 + 14 * i + kq8))), (2, .ref (ad (5 + 14 * i + kq2))), (0, .ref (ad (5 + 14 * i + 0))), (1, .int x1)]) C.1 C.2.1 dX2_release_25 rfl hl (by decide) rfl (fun ls hl => ?_)
    refine lv_aload_n C.1 C.2.1 dX2_release_26 rfl (lv_at hl 1 rfl) ?_
    refine lv_iconst (v := 5) C.1 C.2.1 dX2_release_27 (by decide) ?_
    obtain ⟨v9, ev9, h⟩ := lt_out h
    refine k_iald C G hP (v_row hi hkq2) (chk_in rfl) (j := 5) rfl ev9 dX2_release_28 ?_
    refine lv_if_ne (tgt := 64) C.1 C.2.1 dX2_release_29 (by decide) (fun c10 => ?_) (fun c10 => ?_)
    · have h := if_t c10 h
      exact w_X2_release_b64 C G hi hP hS (lv_sub hl [1] rfl) hkq2 h
    · have h := if_n c10 h
      refine lv_aload_n C.1 C.2.1 dX2_release_32 rfl (lv_at hl 0 rfl) ?_
      refine lv_bipush (v := 6) C.1 C.2.1 dX2_release_33 (by decide) ?_
      obtain ⟨v11, ev11, h⟩ := lt_out h
      refine k_iald C G hP (v_row hi hkq8) (chk_in rfl) (j := 6) rfl ev11 dX2_release_35 ?_
      refine lv_iconst (v := (-1)) C.1 C.2.1 dX2_release_36 (by decide) ?_
      refine lv_icmp_ne (tgt := 64) C.1 C.2.1 dX2_release_37 (by decide) (fun c12 => ?_) (fun c12 => ?_)
      · have h := if_t c12 h
        exact w_X2_release_b64 C G hi hP hS (lv_sub hl [1] rfl) hkq2 h
      · have h := if_n c12 h
        refine lv_aload_n C.1 C.2.1 dX2_release_40 rfl (lv_at hl 2 rfl) ?_
        refine k_getf C G hP (v_obj hi) rfl 1 (by decide) n_X2_release_X2 q_X2_release_2 (v := .ref (ad (5 + 14 * i + 10))) rfl dX2_release_41 ?_
        refine lv_iload_n C.1 C.2.1 dX2_release_44 rfl (lv_at hl 3 rfl) ?_
        refine lv_iconst (v := 1) C.1 C.2.1 dX2_release_45 (by decide) ?_
        obtain ⟨v13, ev13, h⟩ := lt_out h
        refine k_iadd C ev13 dX2_release_46 ?_
        obtain ⟨r14, c15, h⟩ := bd_out h
        refine k_callVi C G hP hS (m_X4_isDown l G.2.1 _ hi c15) (v_sto hi) rfl (cwV 1 C.2.2.2.2.2.1 gX2_release_X4_isDown rfl rfl rfl (by decide +kernel) ⟨Nat.le_of_ble_eq_true rfl, Nat.le_of_ble_eq_true rfl⟩) (As := [.int v13]) rfl hl.1 rfl (Nat.le_of_ble_eq_true rfl) dX2_release_47 ⟨Nat.le_of_ble_eq_true rfl, Nat.le_of_ble_eq_true rfl⟩ (fun H locs hP hS => ?_)
        refine lv_if_ne (tgt := 64) C.1 C.2.1 dX2_release_50 (by decide) (fun c16 => ?_) (fun c16 => ?_)
        · have h := if_t c16 h
          exact w_X2_release_b64 C G hi hP hS (lv_sub hl [1] rfl) hkq2 h
        · have h := if_n c16 h
          refine lv_aload_n C.1 C.2.1 dX2_release_53 rfl (lv_at hl 0 rfl) ?_
          refine lv_bipush (v := 6) C.1 C.2.1 dX2_release_54 (by decide) ?_
          refine lv_aload_n C.1 C.2.1 dX2_release_56 rfl (lv_at hl 0 rfl) ?_
          obtain ⟨r17, c18, h⟩ := bd_out h
          refine k_callSi C G hP hS (m_X2_presentCycle l G.2.1 _ hi hkq8 c18) (va_cwS 1 C.2.2.2.2.2.1 gX2_release_X2_presentCycle rfl rfl rfl (by decide +kernel) ⟨Nat.le_of_ble_eq_true rfl, Nat.le_of_ble_eq_true rfl⟩) (As := [.ref (ad (5 + 14 * i + kq8))]) rfl hl.1 rfl (Nat.le_of_ble_eq_true rfl) dX2_release_57 ⟨Nat.le_of_ble_eq_true rfl, Nat.le_of_ble_eq_true rfl⟩ (fun H locs hP hS => ?_)
          obtain ⟨L19, eL19, h⟩ := lt_out h
          refine k_iast C G hP hS (v_row hi hkq8) (chk_in rfl) (j := 6) rfl (v_rowS hi hkq8) dX2_release_60 (fun H locs hP hS => ?_)
          rw [← eL19] at hP
          refine lv_goto (tgt := 84) C.1 C.2.1 dX2_release_61 (by decide) ?_
          exact w_X2_release_b84 C G hi hP hS (lv_sub hl [1] rfl) hkq2 h
set_option maxRecDepth 100000 in
set_option maxHeartbeats 4000000 in
theorem m_X2_release (l : Launch) {D : va_G} {cs : Nat → ClassId} {ad : Nat → Nat} (hAd : adOK ad) (sz : Nat) {i : Nat} (hi : i < 6) {Ls : Nat → SL} {Hs : SL} {T : SL} {M : SL} {dr : Int64} {hs : Int64} {o : Int64} {od : UInt64} {L : SL} {x1 : Int32} {res : SL} (h : f_X2_release L x1 = some res) : Met l yX2_release wsX2_release rmX2_release (PA D cs sz (wA cs ad (va_up Ls i L) Hs T M dr hs o od) [.ref (ad (5 + 14 * i + 0)), .int x1]) (va_Qv (fun (_ : Unit) => True) (fun _ t => va_P D vwCl (wA cs ad (va_up Ls i res) Hs T M dr hs o od) t.heap) (Afr ad sz)) 0 0 (Afr ad sz) :=
  k_met (by decide) rfl (Nat.le_of_ble_eq_true rfl) hAd (fun p e s m below meth c ls C G hP hsz hl hS => by
    subst hsz
    exact w_X2_release_e C G hi hP hS hl  h)
/-! X2 takeBottle -/
abbrev rmX2_takeBottle : Room := { frames := 1, cells := 0, slots := 0, locals := 20 }
theorem q_X2_takeBottle_0 : Cond.fieldLink RX2 11 "LineBuffers$Line" "rows" "[[I" ∈ wsX2_takeBottle := List.mem_of_getElem? (i := 1) rfl
theorem n_X2_takeBottle_X2 : ∀ x ∈ u_ws RX2 TX2 4, x ∈ wsX2_takeBottle := fun x h => List.mem_cons_of_mem _ (List.mem_append_right _ h)
set_option maxRecDepth 100000 in
set_option maxHeartbeats 4000000 in
theorem w_X2_takeBottle_b34 {res : SL} (C : Cx p s m args meth c cX2_takeBottle 4 none RX2 wsX2_takeBottle) (G : Gx D cs ad s) {i : Nat} (hi : i < 6) {Ls : Nat → SL} {Hs : SL} {T : SL} {M : SL} {dr : Int64} {hs : Int64} {o : Int64} {od : UInt64} {L : SL} {k2 : Nat} {H : Heap} {locs : List Loc} {ls : Array Slot} (hP : va_P D vwCl (wA cs ad (va_up Ls i L) Hs T M dr hs o od) H) (hS : va_S (Afr ad s.heap.size) s.heap H locs) (hl : lv_has ls 4 [(2, .ref (ad (5 + 14 * i + k2)))]) (hk2 : 2 ≤ k2 ∧ k2 < 10) (h : f_X2_takeBottle_b34 L k2 = some res) : W p l e rmX2_takeBottle s m args below meth c H locs 0 0 (MQ below (va_Qv (fun (_ : Unit) => True) (fun _ t => va_P D vwCl (wA cs ad (va_up Ls i res) Hs T M dr hs o od) t.heap) (Afr ad s.heap.size)) args s 0 0 (Afr ad s.heap.size)) (F0 m 34 ls []) := by
  unfold f_X2_takeBottle_b34 at h
  refine lv_aload_n C.1 C.2.1 dX2_takeBottle_34 rfl (lv_at hl 0 rfl) ?_
  refine lv_bipush (v := 6) C.1 C.2.1 dX2_takeBottle_35 (by decide) ?_
  refine lv_aload_n C.1 C.2.1 dX2_takeBottle_37 rfl (lv_at hl 0 rfl) ?_
  obtain ⟨r1, c2, h⟩ := bd_out h
  refine k_callSi C G hP hS (m_X2_presentCycle l G.2.1 _ hi hk2 c2) (va_cwS 1 C.2.2.2.2.2.1 gX2_takeBottle_X2_presentCycle rfl rfl rfl (by decide +kernel) ⟨Nat.le_of_ble_eq_true rfl, Nat.le_of_ble_eq_true rfl⟩) (As := [.ref (ad (5 + 14 * i + k2))]) rfl hl.1 rfl (Nat.le_of_ble_eq_true rfl) dX2_takeBottle_38 ⟨Nat.le_of_ble_eq_true rfl, Nat.le_of_ble_eq_true rfl⟩ (fun H locs hP hS => ?_)
  obtain ⟨L3, eL3, h⟩ := lt_out h
  refine k_iast C G hP hS (v_row hi hk2) (chk_in rfl) (j := 6) rfl (v_rowS hi hk2) dX2_takeBottle_41 (fun H locs hP hS => ?_)
  rw [← eL3] at hP
  cases h
  exact k_vret C hP hS dX2_takeBottle_42
set_option maxRecDepth 100000 in
set_option maxHeartbeats 4000000 in
theorem w_X2_takeBottle_e {res : SL} (C : Cx p s m args meth c cX2_takeBottle 4 none RX2 wsX2_takeBottle) (G : Gx D cs ad s) {i : Nat} (hi : i < 6) {Ls : Nat → SL} {Hs : SL} {T : SL} {M : SL} {dr : Int64} {hs : Int64} {o : Int64} {od : UInt64} {L : SL} {x1 : Int32} {H : Heap} {locs : List Loc} {ls : Array Slot} (hP : va_P D vwCl (wA cs ad (va_up Ls i L) Hs T M dr hs o od) H) (hS : va_S (Afr ad s.heap.size) s.heap H locs) (hl : lv_has ls 4 [(0, .ref (ad (5 + 14 * i + 0))), (1, .int x1)]) (h : f_X2_takeBottle L x1 = some res) : W p l e rmX2_takeBottle s m args below meth c H locs 0 0 (MQ below (va_Qv (fun (_ : Unit) => True) (fun _ t => va_P D vwCl (wA cs ad (va_up Ls i res) Hs T M dr hs o od) t.heap) (Afr ad s.heap.size)) args s 0 0 (Afr ad s.heap.size)) (F0 m 0 ls []) := by
  unfold f_X2_takeBottle at h
  refine lv_aload_n C.1 C.2.1 dX2_takeBottle_0 rfl (lv_at hl 0 rfl) ?_
  refine k_getf C G hP (v_obj hi) rfl 0 (by decide) n_X2_takeBottle_X2 q_X2_takeBottle_0 (v := .ref (ad (5 + 14 * i + 1))) rfl dX2_takeBottle_1 ?_
  refine lv_iload_n C.1 C.2.1 dX2_takeBottle_4 rfl (lv_at hl 1 rfl) ?_
  obtain ⟨g1, h⟩ := gd_out h
  have g1 := chk_in g1
  obtain ⟨kq2, ekq2, h⟩ := lt_out h
  have hkq2 : 2 ≤ kq2 ∧ kq2 < 10 := row_k g1 ekq2
  refine k_aaldR C G hP (v_rows hi) g1 (b := ad (5 + 14 * i + kq2)) (by rw [ekq2]) dX2_takeBottle_5 ?_
  refine lv_astore_n (lv' := [(2, .ref (ad (5 + 14 * i + kq2))), (0, .ref (ad (5 + 14 * i + 0))), (1, .int x1)]) C.1 C.2.1 dX2_takeBottle_6 rfl hl (by decide) rfl (fun ls hl => ?_)
  refine lv_iload_n C.1 C.2.1 dX2_takeBottle_7 rfl (lv_at hl 2 rfl) ?_
  refine lv_if_le (tgt := 34) C.1 C.2.1 dX2_takeBottle_8 (by decide) (fun c3 => ?_) (fun c3 => ?_)
  · have h := if_t c3 h
    exact w_X2_takeBottle_b34 C G hi hP hS (lv_sub hl [0] rfl) hkq2 h
  · have h := if_f c3 h
    refine lv_aload_n C.1 C.2.1 dX2_takeBottle_11 rfl (lv_at hl 1 rfl) ?_
    refine k_getf C G hP (v_obj hi) rfl 0 (by decide) n_X2_takeBottle_X2 q_X2_takeBottle_0 (v := .ref (ad (5 + 14 * i + 1))) rfl dX2_takeBottle_12 ?_
    refine lv_iload_n C.1 C.2.1 dX2_takeBottle_15 rfl (lv_at hl 2 rfl) ?_
    refine lv_iconst (v := 1) C.1 C.2.1 dX2_takeBottle_16 (by decide) ?_
    obtain ⟨v4, ev4, h⟩ := lt_out h
    refine k_isub C ev4 dX2_takeBottle_17 ?_
    obtain ⟨g5, h⟩ := gd_out h
    have g5 := chk_in g5
    obtain ⟨kq6, ekq6, h⟩ := lt_out h
    have hkq6 : 2 ≤ kq6 ∧ kq6 < 10 := row_k g5 ekq6
    refine k_aaldR C G hP (v_rows hi) g5 (b := ad (5 + 14 * i + kq6)) (by rw [ekq6]) dX2_takeBottle_18 ?_
    refine lv_astore_n (lv' := [(3, .ref (ad (5 + 14 * i + kq6))), (2, .ref (ad (5 + 14 * i + kq2))), (0, .ref (ad (5 + 14 * i + 0))), (1, .int x1)]) C.1 C.2.1 dX2_takeBottle_19 rfl hl (by decide) rfl (fun ls hl => ?_)
    refine lv_aload_n C.1 C.2.1 dX2_takeBottle_20 rfl (lv_at hl 0 rfl) ?_
    refine lv_iconst (v := 5) C.1 C.2.1 dX2_takeBottle_21 (by decide) ?_
    obtain ⟨v7, ev7, h⟩ := lt_out h
    refine k_iald C G hP (v_row hi hkq6) (chk_in rfl) (j := 5) rfl ev7 dX2_takeBottle_22 ?_
    refine lv_if_ne (tgt := 27) C.1 C.2.1 dX2_takeBottle_23 (by decide) (fun c8 => ?_) (fun c8 => ?_)
    · have h := if_t c8 h
      refine lv_aload_n C.1 C.2.1 dX2_takeBottle_27 rfl (lv_at hl 0 rfl) ?_
      refine lv_iconst (v := 5) C.1 C.2.1 dX2_takeBottle_28 (by decide) ?_
      refine lv_dup2_11 C.1 C.2.1 dX2_takeBottle_29 rfl rfl ?_
      obtain ⟨v9, ev9, h⟩ := lt_out h
      refine k_iald C G hP (v_row hi hkq6) (chk_in rfl) (j := 5) rfl ev9 dX2_takeBottle_30 ?_
      refine lv_iconst (v := 1) C.1 C.2.1 dX2_takeBottle_31 (by decide) ?_
      obtain ⟨v10, ev10, h⟩ := lt_out h
      refine k_isub C ev10 dX2_takeBottle_32 ?_
      obtain ⟨L11, eL11, h⟩ := lt_out h
      refine k_iast C G hP hS (v_row hi hkq6) (chk_in rfl) (j := 5) rfl (v_rowS hi hkq6) dX2_takeBottle_33 (fun H locs hP hS => ?_)
      rw [← eL11] at hP
      exact w_X2_takeBottle_b34 C G hi hP hS (lv_sub hl [1] rfl) hkq2 h
    · have h := if_n c8 h
      cases h
      exact k_vret C hP hS dX2_takeBottle_26
set_option maxRecDepth 100000 in
set_option maxHeartbeats 4000000 in
theorem m_X2_takeBottle (l : Launch) {D : va_G} {cs : Nat → ClassId} {ad : Nat → Nat} (hAd : adOK ad) (sz : Nat) {i : Nat} (hi : i < 6) {Ls : Nat → SL} {Hs : SL} {T : SL} {M : SL} {dr : Int64} {hs : Int64} {o : Int64} {od : UInt64} {L : SL} {x1 : Int32} {res : SL} (h : f_X2_takeBottle L x1 = some res) : Met l yX2_takeBottle wsX2_takeBottle rmX2_takeBottle (PA D cs sz (wA cs ad (va_up Ls i L) Hs T M dr hs o od) [.ref (ad (5 + 14 * i + 0)), .int x1]) (va_Qv (fun (_ : Unit) => True) (fun _ t => va_P D vwCl (wA cs ad (va_up Ls i res) Hs T M dr hs o od) t.heap) (Afr ad sz)) 0 0 (Afr ad sz) :=
  k_met (by decide) rfl (Nat.le_of_ble_eq_true rfl) hAd (fun p e s m below meth c ls C G hP hsz hl hS => by
    subst hsz
    exact w_X2_takeBottle_e C G hi hP hS hl  h)
/-! X2 takeTurn -/
abbrev rmX2_takeTurn : Room := { frames := 2, cells := 0, slots := 0, locals := 44 }
theorem q_X2_takeTurn_0 : Cond.fieldLink RX2 11 "LineBuffers$Line" "rows" "[[I" ∈ wsX2_takeTurn := List.mem_of_getElem? (i := 1) rfl
theorem q_X2_takeTurn_1 : Cond.fieldLink RX2 19 "LineBuffers$Line" "stops" "LLineBuffers$Stops;" ∈ wsX2_takeTurn := List.mem_of_getElem? (i := 2) rfl
theorem n_X2_takeTurn_X2 : ∀ x ∈ u_ws RX2 TX2 4, x ∈ wsX2_takeTurn := fun x h => List.mem_cons_of_mem _ (List.mem_append_left _ (List.mem_append_right _ h))
set_option maxRecDepth 100000 in
set_option maxHeartbeats 4000000 in
theorem w_X2_takeTurn_b102 {res : SL} (C : Cx p s m args meth c cX2_takeTurn 3 none RX2 wsX2_takeTurn) (G : Gx D cs ad s) {i : Nat} (hi : i < 6) {Ls : Nat → SL} {Hs : SL} {T : SL} {M : SL} {dr : Int64} {hs : Int64} {o : Int64} {od : UInt64} {L : SL} {kk0 : Nat} {s1 : Int32} {H : Heap} {locs : List Loc} {ls : Array Slot} (hP : va_P D vwCl (wA cs ad (va_up Ls i L) Hs T M dr hs o od) H) (hS : va_S (Afr ad s.heap.size) s.heap H locs) (hl : lv_has ls 3 []) (hkk0 : 2 ≤ kk0 ∧ kk0 < 10) (h : f_X2_takeTurn_b102 L kk0 s1 = some res) : W p l e rmX2_takeTurn s m args below meth c H locs 0 0 (MQ below (va_Qv (fun (_ : Unit) => True) (fun _ t => va_P D vwCl (wA cs ad (va_up Ls i res) Hs T M dr hs o od) t.heap) (Afr ad s.heap.size)) args s 0 0 (Afr ad s.heap.size)) (F0 m 102 ls [.int s1, .ref (ad (5 + 14 * i + kk0))]) := by
  unfold f_X2_takeTurn_b102 at h
  obtain ⟨L1, c2, h⟩ := bd_out h
  refine k_callSv C G hP hS (m_X2_noteTurn l G.2.1 _ hi hkk0 c2) (va_cwS 2 C.2.2.2.2.2.1 gX2_takeTurn_X2_noteTurn rfl rfl rfl (by decide +kernel) ⟨Nat.le_of_ble_eq_true rfl, Nat.le_of_ble_eq_true rfl⟩) (As := [.ref (ad (5 + 14 * i + kk0)), .int s1]) rfl hl.1 rfl (Nat.le_of_ble_eq_true rfl) dX2_takeTurn_102 ⟨Nat.le_of_ble_eq_true rfl, Nat.le_of_ble_eq_true rfl⟩ (fun H locs hP hS => ?_)
  cases h
  exact k_vret C hP hS dX2_takeTurn_105
set_option maxRecDepth 100000 in
set_option maxHeartbeats 4000000 in
theorem w_X2_takeTurn_b54 {res : SL} (C : Cx p s m args meth c cX2_takeTurn 3 none RX2 wsX2_takeTurn) (G : Gx D cs ad s) {i : Nat} (hi : i < 6) {Ls : Nat → SL} {Hs : SL} {T : SL} {M : SL} {dr : Int64} {hs : Int64} {o : Int64} {od : UInt64} {L : SL} {x1 : Int32} {k2 : Nat} {H : Heap} {locs : List Loc} {ls : Array Slot} (hP : va_P D vwCl (wA cs ad (va_up Ls i L) Hs T M dr hs o od) H) (hS : va_S (Afr ad s.heap.size) s.heap H locs) (hl : lv_has ls 3 [(0, .ref (ad (5 + 14 * i + 0))), (1, .int x1), (2, .ref (ad (5 + 14 * i + k2)))]) (hk2 : 2 ≤ k2 ∧ k2 < 10) (h : f_X2_takeTurn_b54 L x1 k2 = some res) : W p l e rmX2_takeTurn s m args below meth c H locs 0 0 (MQ below (va_Qv (fun (_ : Unit) => True) (fun _ t => va_P D vwCl (wA cs ad (va_up Ls i res) Hs T M dr hs o od) t.heap) (Afr ad s.heap.size)) args s 0 0 (Afr ad s.heap.size)) (F0 m 54 ls []) := by
  unfold f_X2_takeTurn_b54 at h
  refine lv_aload_n C.1 C.2.1 dX2_takeTurn_54 rfl (lv_at hl 2 rfl) ?_
  refine lv_bipush (v := 6) C.1 C.2.1 dX2_takeTurn_55 (by decide) ?_
  obtain ⟨v1, ev1, h⟩ := lt_out h
  refine k_iald C G hP (v_row hi hk2) (chk_in rfl) (j := 6) rfl ev1 dX2_takeTurn_57 ?_
  refine lv_if_le (tgt := 89) C.1 C.2.1 dX2_takeTurn_58 (by decide) (fun c2 => ?_) (fun c2 => ?_)
  · have h := if_t c2 h
    refine lv_aload_n C.1 C.2.1 dX2_takeTurn_89 rfl (lv_at hl 2 rfl) ?_
    refine lv_aload_n C.1 C.2.1 dX2_takeTurn_90 rfl (lv_at hl 2 rfl) ?_
    refine lv_bipush (v := 6) C.1 C.2.1 dX2_takeTurn_91 (by decide) ?_
    obtain ⟨v3, ev3, h⟩ := lt_out h
    refine k_iald C G hP (v_row hi hk2) (chk_in rfl) (j := 6) rfl ev3 dX2_takeTurn_93 ?_
    refine lv_if_ne (tgt := 101) C.1 C.2.1 dX2_takeTurn_94 (by decide) (fun c4 => ?_) (fun c4 => ?_)
    · have h := if_t c4 h
      refine lv_iconst (v := 2) C.1 C.2.1 dX2_takeTurn_101 (by decide) ?_
      exact w_X2_takeTurn_b102 C G hi hP hS (lv_sub hl [] rfl) hk2 h
    · have h := if_n c4 h
      refine lv_iconst (v := 3) C.1 C.2.1 dX2_takeTurn_97 (by decide) ?_
      refine lv_goto (tgt := 102) C.1 C.2.1 dX2_takeTurn_98 (by decide) ?_
      exact w_X2_takeTurn_b102 C G hi hP hS (lv_sub hl [] rfl) hk2 h
  · have h := if_f c2 h
    refine lv_aload_n C.1 C.2.1 dX2_takeTurn_61 rfl (lv_at hl 2 rfl) ?_
    refine lv_bipush (v := 6) C.1 C.2.1 dX2_takeTurn_62 (by decide) ?_
    refine lv_dup2_11 C.1 C.2.1 dX2_takeTurn_64 rfl rfl ?_
    obtain ⟨v5, ev5, h⟩ := lt_out h
    refine k_iald C G hP (v_row hi hk2) (chk_in rfl) (j := 6) rfl ev5 dX2_takeTurn_65 ?_
    refine lv_iconst (v := 1) C.1 C.2.1 dX2_takeTurn_66 (by decide) ?_
    obtain ⟨v6, ev6, h⟩ := lt_out h
    refine k_isub C ev6 dX2_takeTurn_67 ?_
    obtain ⟨L7, eL7, h⟩ := lt_out h
    refine k_iast C G hP hS (v_row hi hk2) (chk_in rfl) (j := 6) rfl (v_rowS hi hk2) dX2_takeTurn_68 (fun H locs hP hS => ?_)
    rw [← eL7] at hP
    refine lv_aload_n C.1 C.2.1 dX2_takeTurn_69 rfl (lv_at hl 2 rfl) ?_
    refine lv_iconst (v := 1) C.1 C.2.1 dX2_takeTurn_70 (by decide) ?_
    obtain ⟨L8, c9, h⟩ := bd_out h
    refine k_callSv C G hP hS (m_X2_noteTurn l G.2.1 _ hi hk2 c9) (va_cwS 2 C.2.2.2.2.2.1 gX2_takeTurn_X2_noteTurn rfl rfl rfl (by decide +kernel) ⟨Nat.le_of_ble_eq_true rfl, Nat.le_of_ble_eq_true rfl⟩) (As := [.ref (ad (5 + 14 * i + k2)), .int 1]) rfl hl.1 rfl (Nat.le_of_ble_eq_true rfl) dX2_takeTurn_71 ⟨Nat.le_of_ble_eq_true rfl, Nat.le_of_ble_eq_true rfl⟩ (fun H locs hP hS => ?_)
    refine lv_aload_n C.1 C.2.1 dX2_takeTurn_74 rfl (lv_at hl 2 rfl) ?_
    refine lv_bipush (v := 6) C.1 C.2.1 dX2_takeTurn_75 (by decide) ?_
    obtain ⟨v10, ev10, h⟩ := lt_out h
    refine k_iald C G hP (v_row hi hk2) (chk_in rfl) (j := 6) rfl ev10 dX2_takeTurn_77 ?_
    refine lv_if_ne (tgt := 105) C.1 C.2.1 dX2_takeTurn_78 (by decide) (fun c11 => ?_) (fun c11 => ?_)
    · have h := if_t c11 h
      cases h
      exact k_vret C hP hS dX2_takeTurn_105
    · have h := if_n c11 h
      refine lv_aload_n C.1 C.2.1 dX2_takeTurn_81 rfl (lv_at hl 0 rfl) ?_
      refine lv_iload_n C.1 C.2.1 dX2_takeTurn_82 rfl (lv_at hl 1 rfl) ?_
      obtain ⟨L12, c13, h⟩ := bd_out h
      refine k_callVv C G hP hS (m_X2_release l G.2.1 _ hi c13) (v_obj hi) rfl (cwV 1 C.2.2.2.2.2.1 gX2_takeTurn_X2_release rfl rfl rfl (by decide +kernel) ⟨Nat.le_of_ble_eq_true rfl, Nat.le_of_ble_eq_true rfl⟩) (As := [.int x1]) rfl hl.1 rfl (Nat.le_of_ble_eq_true rfl) dX2_takeTurn_83 ⟨Nat.le_of_ble_eq_true rfl, Nat.le_of_ble_eq_true rfl⟩ (fun H locs hP hS => ?_)
      refine lv_goto (tgt := 105) C.1 C.2.1 dX2_takeTurn_86 (by decide) ?_
      cases h
      exact k_vret C hP hS dX2_takeTurn_105
set_option maxRecDepth 100000 in
set_option maxHeartbeats 4000000 in
theorem w_X2_takeTurn_b41 {res : SL} (C : Cx p s m args meth c cX2_takeTurn 3 none RX2 wsX2_takeTurn) (G : Gx D cs ad s) {i : Nat} (hi : i < 6) {Ls : Nat → SL} {Hs : SL} {T : SL} {M : SL} {dr : Int64} {hs : Int64} {o : Int64} {od : UInt64} {L : SL} {x1 : Int32} {k2 : Nat} {H : Heap} {locs : List Loc} {ls : Array Slot} (hP : va_P D vwCl (wA cs ad (va_up Ls i L) Hs T M dr hs o od) H) (hS : va_S (Afr ad s.heap.size) s.heap H locs) (hl : lv_has ls 3 [(0, .ref (ad (5 + 14 * i + 0))), (1, .int x1), (2, .ref (ad (5 + 14 * i + k2)))]) (hk2 : 2 ≤ k2 ∧ k2 < 10) (h : f_X2_takeTurn_b41 L x1 k2 = some res) : W p l e rmX2_takeTurn s m args below meth c H locs 0 0 (MQ below (va_Qv (fun (_ : Unit) => True) (fun _ t => va_P D vwCl (wA cs ad (va_up Ls i res) Hs T M dr hs o od) t.heap) (Afr ad s.heap.size)) args s 0 0 (Afr ad s.heap.size)) (F0 m 41 ls []) := by
  unfold f_X2_takeTurn_b41 at h
  refine lv_aload_n C.1 C.2.1 dX2_takeTurn_41 rfl (lv_at hl 2 rfl) ?_
  refine lv_bipush (v := 6) C.1 C.2.1 dX2_takeTurn_42 (by decide) ?_
  obtain ⟨v1, ev1, h⟩ := lt_out h
  refine k_iald C G hP (v_row hi hk2) (chk_in rfl) (j := 6) rfl ev1 dX2_takeTurn_44 ?_
  refine lv_iconst (v := (-1)) C.1 C.2.1 dX2_takeTurn_45 (by decide) ?_
  refine lv_icmp_ne (tgt := 54) C.1 C.2.1 dX2_takeTurn_46 (by decide) (fun c2 => ?_) (fun c2 => ?_)
  · have h := if_t c2 h
    exact w_X2_takeTurn_b54 C G hi hP hS (lv_sub hl [0, 1, 2] rfl) hk2 h
  · have h := if_n c2 h
    refine lv_aload_n C.1 C.2.1 dX2_takeTurn_49 rfl (lv_at hl 0 rfl) ?_
    refine lv_iload_n C.1 C.2.1 dX2_takeTurn_50 rfl (lv_at hl 1 rfl) ?_
    obtain ⟨L3, c4, h⟩ := bd_out h
    refine k_callVv C G hP hS (m_X2_takeBottle l G.2.1 _ hi c4) (v_obj hi) rfl (cwV 1 C.2.2.2.2.2.1 gX2_takeTurn_X2_takeBottle rfl rfl rfl (by decide +kernel) ⟨Nat.le_of_ble_eq_true rfl, Nat.le_of_ble_eq_true rfl⟩) (As := [.int x1]) rfl hl.1 rfl (Nat.le_of_ble_eq_true rfl) dX2_takeTurn_51 ⟨Nat.le_of_ble_eq_true rfl, Nat.le_of_ble_eq_true rfl⟩ (fun H locs hP hS => ?_)
    exact w_X2_takeTurn_b54 C G hi hP hS (lv_sub hl [0, 1, 2] rfl) hk2 h
set_option maxRecDepth 100000 in
set_option maxHeartbeats 4000000 in
theorem w_X2_takeTurn_e {res : SL} (C : Cx p s m args meth c cX2_takeTurn 3 none RX2 wsX2_takeTurn) (G : Gx D cs ad s) {i : Nat} (hi : i < 6) {Ls : Nat → SL} {Hs : SL} {T : SL} {M : SL} {dr : Int64} {hs : Int64} {o : Int64} {od : UInt64} {L : SL} {x1 : Int32} {H : Heap} {locs : List Loc} {ls : Array Slot} (hP : va_P D vwCl (wA cs ad (va_up Ls i L) Hs T M dr hs o od) H) (hS : va_S (Afr ad s.heap.size) s.heap H locs) (hl : lv_has ls 3 [(0, .ref (ad (5 + 14 * i + 0))), (1, .int x1)]) (h : f_X2_takeTurn L x1 = some res) : W p l e rmX2_takeTurn s m args below meth c H locs 0 0 (MQ below (va_Qv (fun (_ : Unit) => True) (fun _ t => va_P D vwCl (wA cs ad (va_up Ls i res) Hs T M dr hs o od) t.heap) (Afr ad s.heap.size)) args s 0 0 (Afr ad s.heap.size)) (F0 m 0 ls []) := by
  unfold f_X2_takeTurn at h
  refine lv_aload_n C.1 C.2.1 dX2_takeTurn_0 rfl (lv_at hl 0 rfl) ?_
  refine k_getf C G hP (v_obj hi) rfl 0 (by decide) n_X2_takeTurn_X2 q_X2_takeTurn_0 (v := .ref (ad (5 + 14 * i + 1))) rfl dX2_takeTurn_1 ?_
  refine lv_iload_n C.1 C.2.1 dX2_takeTurn_4 rfl (lv_at hl 1 rfl) ?_
  obtain ⟨g1, h⟩ := gd_out h
  have g1 := chk_in g1
  obtain ⟨kq2, ekq2, h⟩ := lt_out h
  have hkq2 : 2 ≤ kq2 ∧ kq2 < 10 := row_k g1 ekq2
  refine k_aaldR C G hP (v_rows hi) g1 (b := ad (5 + 14 * i + kq2)) (by rw [ekq2]) dX2_takeTurn_5 ?_
  refine lv_astore_n (lv' := [(2, .ref (ad (5 + 14 * i + kq2))), (0, .ref (ad (5 + 14 * i + 0))), (1, .int x1)]) C.1 C.2.1 dX2_takeTurn_6 rfl hl (by decide) rfl (fun ls hl => ?_)
  refine lv_aload_n C.1 C.2.1 dX2_takeTurn_7 rfl (lv_at hl 1 rfl) ?_
  refine lv_iload_n C.1 C.2.1 dX2_takeTurn_8 rfl (lv_at hl 2 rfl) ?_
  obtain ⟨L3, c4, h⟩ := bd_out h
  refine k_callVv C G hP hS (m_X2_chooseSpeed l G.2.1 _ hi c4) (v_obj hi) rfl (cwV 1 C.2.2.2.2.2.1 gX2_takeTurn_X2_chooseSpeed rfl rfl rfl (by decide +kernel) ⟨Nat.le_of_ble_eq_true rfl, Nat.le_of_ble_eq_true rfl⟩) (As := [.int x1]) rfl hl.1 rfl (Nat.le_of_ble_eq_true rfl) dX2_takeTurn_9 ⟨Nat.le_of_ble_eq_true rfl, Nat.le_of_ble_eq_true rfl⟩ (fun H locs hP hS => ?_)
  refine lv_aload_n C.1 C.2.1 dX2_takeTurn_12 rfl (lv_at hl 1 rfl) ?_
  refine k_getf C G hP (v_obj hi) rfl 1 (by decide) n_X2_takeTurn_X2 q_X2_takeTurn_1 (v := .ref (ad (5 + 14 * i + 10))) rfl dX2_takeTurn_13 ?_
  refine lv_iload_n C.1 C.2.1 dX2_takeTurn_16 rfl (lv_at hl 2 rfl) ?_
  obtain ⟨r5, c6, h⟩ := bd_out h
  refine k_callVi C G hP hS (m_X4_isDown l G.2.1 _ hi c6) (v_sto hi) rfl (cwV 1 C.2.2.2.2.2.1 gX2_takeTurn_X4_isDown rfl rfl rfl (by decide +kernel) ⟨Nat.le_of_ble_eq_true rfl, Nat.le_of_ble_eq_true rfl⟩) (As := [.int x1]) rfl hl.1 rfl (Nat.le_of_ble_eq_true rfl) dX2_takeTurn_17 ⟨Nat.le_of_ble_eq_true rfl, Nat.le_of_ble_eq_true rfl⟩ (fun H locs hP hS => ?_)
  refine lv_if_eq (tgt := 29) C.1 C.2.1 dX2_takeTurn_20 (by decide) (fun c7 => ?_) (fun c7 => ?_)
  · have h := if_t c7 h
    refine lv_aload_n C.1 C.2.1 dX2_takeTurn_29 rfl (lv_at hl 0 rfl) ?_
    refine lv_bipush (v := 6) C.1 C.2.1 dX2_takeTurn_30 (by decide) ?_
    obtain ⟨v8, ev8, h⟩ := lt_out h
    refine k_iald C G hP (v_row hi hkq2) (chk_in rfl) (j := 6) rfl ev8 dX2_takeTurn_32 ?_
    refine lv_if_ne (tgt := 41) C.1 C.2.1 dX2_takeTurn_33 (by decide) (fun c9 => ?_) (fun c9 => ?_)
    · have h := if_t c9 h
      exact w_X2_takeTurn_b41 C G hi hP hS (lv_sub hl [1, 2, 0] rfl) hkq2 h
    · have h := if_n c9 h
      refine lv_aload_n C.1 C.2.1 dX2_takeTurn_36 rfl (lv_at hl 1 rfl) ?_
      refine lv_iload_n C.1 C.2.1 dX2_takeTurn_37 rfl (lv_at hl 2 rfl) ?_
      obtain ⟨L10, c11, h⟩ := bd_out h
      refine k_callVv C G hP hS (m_X2_release l G.2.1 _ hi c11) (v_obj hi) rfl (cwV 1 C.2.2.2.2.2.1 gX2_takeTurn_X2_release rfl rfl rfl (by decide +kernel) ⟨Nat.le_of_ble_eq_true rfl, Nat.le_of_ble_eq_true rfl⟩) (As := [.int x1]) rfl hl.1 rfl (Nat.le_of_ble_eq_true rfl) dX2_takeTurn_38 ⟨Nat.le_of_ble_eq_true rfl, Nat.le_of_ble_eq_true rfl⟩ (fun H locs hP hS => ?_)
      exact w_X2_takeTurn_b41 C G hi hP hS (lv_sub hl [1, 2, 0] rfl) hkq2 h
  · have h := if_f c7 h
    refine lv_aload_n C.1 C.2.1 dX2_takeTurn_23 rfl (lv_at hl 0 rfl) ?_
    refine lv_iconst (v := 4) C.1 C.2.1 dX2_takeTurn_24 (by decide) ?_
    obtain ⟨L12, c13, h⟩ := bd_out h
    refine k_callSv C G hP hS (m_X2_noteTurn l G.2.1 _ hi hkq2 c13) (va_cwS 2 C.2.2.2.2.2.1 gX2_takeTurn_X2_noteTurn rfl rfl rfl (by decide +kernel) ⟨Nat.le_of_ble_eq_true rfl, Nat.le_of_ble_eq_true rfl⟩) (As := [.ref (ad (5 + 14 * i + kq2)), .int 4]) rfl hl.1 rfl (Nat.le_of_ble_eq_true rfl) dX2_takeTurn_25 ⟨Nat.le_of_ble_eq_true rfl, Nat.le_of_ble_eq_true rfl⟩ (fun H locs hP hS => ?_)
    cases h
    exact k_vret C hP hS dX2_takeTurn_28
set_option maxRecDepth 100000 in
set_option maxHeartbeats 4000000 in
theorem m_X2_takeTurn (l : Launch) {D : va_G} {cs : Nat → ClassId} {ad : Nat → Nat} (hAd : adOK ad) (sz : Nat) {i : Nat} (hi : i < 6) {Ls : Nat → SL} {Hs : SL} {T : SL} {M : SL} {dr : Int64} {hs : Int64} {o : Int64} {od : UInt64} {L : SL} {x1 : Int32} {res : SL} (h : f_X2_takeTurn L x1 = some res) : Met l yX2_takeTurn wsX2_takeTurn rmX2_takeTurn (PA D cs sz (wA cs ad (va_up Ls i L) Hs T M dr hs o od) [.ref (ad (5 + 14 * i + 0)), .int x1]) (va_Qv (fun (_ : Unit) => True) (fun _ t => va_P D vwCl (wA cs ad (va_up Ls i res) Hs T M dr hs o od) t.heap) (Afr ad sz)) 0 0 (Afr ad sz) :=
  k_met (by decide) rfl (Nat.le_of_ble_eq_true rfl) hAd (fun p e s m below meth c ls C G hP hsz hl hS => by
    subst hsz
    exact w_X2_takeTurn_e C G hi hP hS hl  h)
/-! X2 pass -/
abbrev rmX2_pass : Room := { frames := 3, cells := 0, slots := 0, locals := 66 }
theorem q_X2_pass_0 : Cond.fieldLink RX2 37 "LineBuffers$Line" "tick" "I" ∈ wsX2_pass := List.mem_of_getElem? (i := 1) rfl
theorem q_X2_pass_1 : Cond.fieldLink RX2 19 "LineBuffers$Line" "stops" "LLineBuffers$Stops;" ∈ wsX2_pass := List.mem_of_getElem? (i := 2) rfl
theorem q_X2_pass_2 : Cond.fieldLink RX2 23 "LineBuffers$Line" "machines" "I" ∈ wsX2_pass := List.mem_of_getElem? (i := 3) rfl
theorem n_X2_pass_X2 : ∀ x ∈ u_ws RX2 TX2 4, x ∈ wsX2_pass := fun x h => List.mem_cons_of_mem _ (List.mem_append_left _ (List.mem_append_right _ h))
set_option maxRecDepth 100000 in
set_option maxHeartbeats 4000000 in
theorem w_X2_pass_b52 {res : SL} (C : Cx p s m args meth c cX2_pass 5 none RX2 wsX2_pass) (G : Gx D cs ad s) {i : Nat} (hi : i < 6) {Ls : Nat → SL} {Hs : SL} {T : SL} {M : SL} {dr : Int64} {hs : Int64} {o : Int64} {od : UInt64} {K9 : SL → Int32 → Int32 → Int32 → Option (SL)} (hK9 : ∀ {L : SL} {x1 : Int32} {x2 : Int32} {x3 : Int32} {H : Heap} {locs : List Loc} {ls : Array Slot}, va_P D vwCl (wA cs ad (va_up Ls i L) Hs T M dr hs o od) H → va_S (Afr ad s.heap.size) s.heap H locs → lv_has ls 5 [(0, .ref (ad (5 + 14 * i + 0))), (1, .int x1), (2, .int x2), (3, .int x3)] → K9 L x1 x2 x3 = some res → W p l e rmX2_pass s m args below meth c H locs 0 0 (MQ below (va_Qv (fun (_ : Unit) => True) (fun _ t => va_P D vwCl (wA cs ad (va_up Ls i res) Hs T M dr hs o od) t.heap) (Afr ad s.heap.size)) args s 0 0 (Afr ad s.heap.size)) (F0 m 9 ls [])) {K52 : SL → Int32 → Int32 → Int32 → Int32 → Option (SL)} (hK52 : ∀ {L : SL} {x1 : Int32} {x2 : Int32} {x3 : Int32} {x4 : Int32} {H : Heap} {locs : List Loc} {ls : Array Slot}, va_P D vwCl (wA cs ad (va_up Ls i L) Hs T M dr hs o od) H → va_S (Afr ad s.heap.size) s.heap H locs → lv_has ls 5 [(0, .ref (ad (5 + 14 * i + 0))), (1, .int x1), (2, .int x2), (3, .int x3), (4, .int x4)] → K52 L x1 x2 x3 x4 = some res → W p l e rmX2_pass s m args below meth c H locs 0 0 (MQ below (va_Qv (fun (_ : Unit) => True) (fun _ t => va_P D vwCl (wA cs ad (va_up Ls i res) Hs T M dr hs o od) t.heap) (Afr ad s.heap.size)) args s 0 0 (Afr ad s.heap.size)) (F0 m 52 ls [])) {L : SL} {x1 : Int32} {x2 : Int32} {x3 : Int32} {x4 : Int32} {H : Heap} {locs : List Loc} {ls : Array Slot} (hP : va_P D vwCl (wA cs ad (va_up Ls i L) Hs T M dr hs o od) H) (hS : va_S (Afr ad s.heap.size) s.heap H locs) (hl : lv_has ls 5 [(0, .ref (ad (5 + 14 * i + 0))), (1, .int x1), (2, .int x2), (3, .int x3), (4, .int x4)]) (h : f_X2_pass_b52 K9 K52 L x1 x2 x3 x4 = some res) : W p l e rmX2_pass s m args below meth c H locs 0 0 (MQ below (va_Qv (fun (_ : Unit) => True) (fun _ t => va_P D vwCl (wA cs ad (va_up Ls i res) Hs T M dr hs o od) t.heap) (Afr ad s.heap.size)) args s 0 0 (Afr ad s.heap.size)) (F0 m 52 ls []) := by
  unfold f_X2_pass_b52 at h
  refine lv_iload C.1 C.2.1 dX2_pass_52 (lv_at hl 4 rfl) ?_
  refine lv_if_lt (tgt := 69) C.1 C.2.1 dX2_pass_54 (by decide) (fun c1 => ?_) (fun c1 => ?_)
  · have h := if_t c1 h
    refine lv_aload_n C.1 C.2.1 dX2_pass_69 rfl (lv_at hl 0 rfl) ?_
    obtain ⟨L2, c3, h⟩ := bd_out h
    refine k_callVv C G hP hS (m_X2_countFills l G.2.1 _ hi c3) (v_obj hi) rfl (cwV 0 C.2.2.2.2.2.1 gX2_pass_X2_countFills rfl rfl rfl (by decide +kernel) ⟨Nat.le_of_ble_eq_true rfl, Nat.le_of_ble_eq_true rfl⟩) (As := []) rfl hl.1 rfl (Nat.le_of_ble_eq_true rfl) dX2_pass_70 ⟨Nat.le_of_ble_eq_true rfl, Nat.le_of_ble_eq_true rfl⟩ (fun H locs hP hS => ?_)
    obtain ⟨z4, ez4, h⟩ := lt_out h
    refine lv_iinc (v := z4) (lv' := [(3, .int z4), (0, .ref (ad (5 + 14 * i + 0))), (1, .int x1), (2, .int x2), (4, .int x4)]) C.1 C.2.1 dX2_pass_73 hl (k := 3) rfl (by rw [ez4]; rfl) (by decide) rfl (fun ls hl => ?_)
    refine lv_goto (tgt := 9) C.1 C.2.1 dX2_pass_76 (by decide) ?_
    exact hK9 hP hS (lv_sub hl [1, 2, 3, 0] rfl)  h
  · have h := if_f c1 h
    refine lv_aload_n C.1 C.2.1 dX2_pass_57 rfl (lv_at hl 0 rfl) ?_
    refine lv_iload C.1 C.2.1 dX2_pass_58 (lv_at hl 4 rfl) ?_
    obtain ⟨L5, c6, h⟩ := bd_out h
    refine k_callVv C G hP hS (m_X2_takeTurn l G.2.1 _ hi c6) (v_obj hi) rfl (cwV 1 C.2.2.2.2.2.1 gX2_pass_X2_takeTurn rfl rfl rfl (by decide +kernel) ⟨Nat.le_of_ble_eq_true rfl, Nat.le_of_ble_eq_true rfl⟩) (As := [.int x4]) rfl hl.1 rfl (Nat.le_of_ble_eq_true rfl) dX2_pass_60 ⟨Nat.le_of_ble_eq_true rfl, Nat.le_of_ble_eq_true rfl⟩ (fun H locs hP hS => ?_)
    obtain ⟨z7, ez7, h⟩ := lt_out h
    refine lv_iinc (v := z7) (lv' := [(4, .int z7), (0, .ref (ad (5 + 14 * i + 0))), (1, .int x1), (2, .int x2), (3, .int x3)]) C.1 C.2.1 dX2_pass_63 hl (k := 4) rfl (by rw [ez7]; rfl) (by decide) rfl (fun ls hl => ?_)
    refine lv_goto (tgt := 52) C.1 C.2.1 dX2_pass_66 (by decide) ?_
    exact hK52 hP hS (lv_sub hl [1, 2, 3, 4, 0] rfl)  h
set_option maxRecDepth 100000 in
set_option maxHeartbeats 4000000 in
theorem w_X2_pass_h52 {res : SL} (C : Cx p s m args meth c cX2_pass 5 none RX2 wsX2_pass) (G : Gx D cs ad s) {i : Nat} (hi : i < 6) {Ls : Nat → SL} {Hs : SL} {T : SL} {M : SL} {dr : Int64} {hs : Int64} {o : Int64} {od : UInt64} {K9 : SL → Int32 → Int32 → Int32 → Option (SL)} (hK9 : ∀ {L : SL} {x1 : Int32} {x2 : Int32} {x3 : Int32} {H : Heap} {locs : List Loc} {ls : Array Slot}, va_P D vwCl (wA cs ad (va_up Ls i L) Hs T M dr hs o od) H → va_S (Afr ad s.heap.size) s.heap H locs → lv_has ls 5 [(0, .ref (ad (5 + 14 * i + 0))), (1, .int x1), (2, .int x2), (3, .int x3)] → K9 L x1 x2 x3 = some res → W p l e rmX2_pass s m args below meth c H locs 0 0 (MQ below (va_Qv (fun (_ : Unit) => True) (fun _ t => va_P D vwCl (wA cs ad (va_up Ls i res) Hs T M dr hs o od) t.heap) (Afr ad s.heap.size)) args s 0 0 (Afr ad s.heap.size)) (F0 m 9 ls [])) : ∀ (n : Nat) {L : SL} {x1 : Int32} {x2 : Int32} {x3 : Int32} {x4 : Int32} {H : Heap} {locs : List Loc} {ls : Array Slot}, va_P D vwCl (wA cs ad (va_up Ls i L) Hs T M dr hs o od) H → va_S (Afr ad s.heap.size) s.heap H locs → lv_has ls 5 [(0, .ref (ad (5 + 14 * i + 0))), (1, .int x1), (2, .int x2), (3, .int x3), (4, .int x4)] → f_X2_pass_h52 K9 n L x1 x2 x3 x4 = some res → W p l e rmX2_pass s m args below meth c H locs 0 0 (MQ below (va_Qv (fun (_ : Unit) => True) (fun _ t => va_P D vwCl (wA cs ad (va_up Ls i res) Hs T M dr hs o od) t.heap) (Afr ad s.heap.size)) args s 0 0 (Afr ad s.heap.size)) (F0 m 52 ls []) := by
  intro n
  induction n with
  | zero => intro L x1 x2 x3 x4 H locs ls hP hS hl  h; cases h
  | succ n ih => intro L x1 x2 x3 x4 H locs ls hP hS hl  h; exact w_X2_pass_b52 C G hi hK9 ih hP hS hl  h
set_option maxRecDepth 100000 in
set_option maxHeartbeats 4000000 in
theorem w_X2_pass_b44 {res : SL} (C : Cx p s m args meth c cX2_pass 5 none RX2 wsX2_pass) (G : Gx D cs ad s) {i : Nat} (hi : i < 6) {Ls : Nat → SL} {Hs : SL} {T : SL} {M : SL} {dr : Int64} {hs : Int64} {o : Int64} {od : UInt64} {K9 : SL → Int32 → Int32 → Int32 → Option (SL)} (hK9 : ∀ {L : SL} {x1 : Int32} {x2 : Int32} {x3 : Int32} {H : Heap} {locs : List Loc} {ls : Array Slot}, va_P D vwCl (wA cs ad (va_up Ls i L) Hs T M dr hs o od) H → va_S (Afr ad s.heap.size) s.heap H locs → lv_has ls 5 [(0, .ref (ad (5 + 14 * i + 0))), (1, .int x1), (2, .int x2), (3, .int x3)] → K9 L x1 x2 x3 = some res → W p l e rmX2_pass s m args below meth c H locs 0 0 (MQ below (va_Qv (fun (_ : Unit) => True) (fun _ t => va_P D vwCl (wA cs ad (va_up Ls i res) Hs T M dr hs o od) t.heap) (Afr ad s.heap.size)) args s 0 0 (Afr ad s.heap.size)) (F0 m 9 ls [])) {L : SL} {x1 : Int32} {x2 : Int32} {x3 : Int32} {H : Heap} {locs : List Loc} {ls : Array Slot} (hP : va_P D vwCl (wA cs ad (va_up Ls i L) Hs T M dr hs o od) H) (hS : va_S (Afr ad s.heap.size) s.heap H locs) (hl : lv_has ls 5 [(0, .ref (ad (5 + 14 * i + 0))), (1, .int x1), (2, .int x2), (3, .int x3)]) (h : f_X2_pass_b44 K9 L x1 x2 x3 = some res) : W p l e rmX2_pass s m args below meth c H locs 0 0 (MQ below (va_Qv (fun (_ : Unit) => True) (fun _ t => va_P D vwCl (wA cs ad (va_up Ls i res) Hs T M dr hs o od) t.heap) (Afr ad s.heap.size)) args s 0 0 (Afr ad s.heap.size)) (F0 m 44 ls []) := by
  unfold f_X2_pass_b44 at h
  refine lv_aload_n C.1 C.2.1 dX2_pass_44 rfl (lv_at hl 0 rfl) ?_
  obtain ⟨v1, ev1, h⟩ := lt_out h
  refine k_geti C G hP (v_obj hi) rfl 2 (by decide) n_X2_pass_X2 q_X2_pass_2 rfl ev1 dX2_pass_45 ?_
  refine lv_iconst (v := 1) C.1 C.2.1 dX2_pass_48 (by decide) ?_
  obtain ⟨v2, ev2, h⟩ := lt_out h
  refine k_isub C ev2 dX2_pass_49 ?_
  refine lv_istore (lv' := [(4, .int v2), (0, .ref (ad (5 + 14 * i + 0))), (1, .int x1), (2, .int x2), (3, .int x3)]) C.1 C.2.1 dX2_pass_50 hl (by decide) rfl (fun ls hl => ?_)
  exact w_X2_pass_h52 C G hi hK9 fuel hP hS (lv_sub hl [1, 2, 3, 4, 0] rfl) h
set_option maxRecDepth 100000 in
set_option maxHeartbeats 4000000 in
theorem w_X2_pass_b9 {res : SL} (C : Cx p s m args meth c cX2_pass 5 none RX2 wsX2_pass) (G : Gx D cs ad s) {i : Nat} (hi : i < 6) {Ls : Nat → SL} {Hs : SL} {T : SL} {M : SL} {dr : Int64} {hs : Int64} {o : Int64} {od : UInt64} {K9 : SL → Int32 → Int32 → Int32 → Option (SL)} (hK9 : ∀ {L : SL} {x1 : Int32} {x2 : Int32} {x3 : Int32} {H : Heap} {locs : List Loc} {ls : Array Slot}, va_P D vwCl (wA cs ad (va_up Ls i L) Hs T M dr hs o od) H → va_S (Afr ad s.heap.size) s.heap H locs → lv_has ls 5 [(0, .ref (ad (5 + 14 * i + 0))), (1, .int x1), (2, .int x2), (3, .int x3)] → K9 L x1 x2 x3 = some res → W p l e rmX2_pass s m args below meth c H locs 0 0 (MQ below (va_Qv (fun (_ : Unit) => True) (fun _ t => va_P D vwCl (wA cs ad (va_up Ls i res) Hs T M dr hs o od) t.heap) (Afr ad s.heap.size)) args s 0 0 (Afr ad s.heap.size)) (F0 m 9 ls [])) {L : SL} {x1 : Int32} {x2 : Int32} {x3 : Int32} {H : Heap} {locs : List Loc} {ls : Array Slot} (hP : va_P D vwCl (wA cs ad (va_up Ls i L) Hs T M dr hs o od) H) (hS : va_S (Afr ad s.heap.size) s.heap H locs) (hl : lv_has ls 5 [(0, .ref (ad (5 + 14 * i + 0))), (1, .int x1), (2, .int x2), (3, .int x3)]) (h : f_X2_pass_b9 K9 L x1 x2 x3 = some res) : W p l e rmX2_pass s m args below meth c H locs 0 0 (MQ below (va_Qv (fun (_ : Unit) => True) (fun _ t => va_P D vwCl (wA cs ad (va_up Ls i res) Hs T M dr hs o od) t.heap) (Afr ad s.heap.size)) args s 0 0 (Afr ad s.heap.size)) (F0 m 9 ls []) := by
  unfold f_X2_pass_b9 at h
  refine lv_iload_n C.1 C.2.1 dX2_pass_9 rfl (lv_at hl 3 rfl) ?_
  refine lv_iload_n C.1 C.2.1 dX2_pass_10 rfl (lv_at hl 1 rfl) ?_
  refine lv_icmp_ge (tgt := 79) C.1 C.2.1 dX2_pass_11 (by decide) (fun c1 => ?_) (fun c1 => ?_)
  · have h := if_t c1 h
    cases h
    exact k_vret C hP hS dX2_pass_79
  · have h := if_f c1 h
    refine lv_aload_n C.1 C.2.1 dX2_pass_14 rfl (lv_at hl 0 rfl) ?_
    refine lv_dup C.1 C.2.1 dX2_pass_15 rfl ?_
    obtain ⟨v2, ev2, h⟩ := lt_out h
    refine k_geti C G hP (v_obj hi) rfl 3 (by decide) n_X2_pass_X2 q_X2_pass_0 rfl ev2 dX2_pass_16 ?_
    refine lv_iconst (v := 1) C.1 C.2.1 dX2_pass_19 (by decide) ?_
    obtain ⟨v3, ev3, h⟩ := lt_out h
    refine k_iadd C ev3 dX2_pass_20 ?_
    obtain ⟨L4, eL4, h⟩ := lt_out h
    refine k_puti C G hP hS (v_obj hi) rfl 3 (by decide) n_X2_pass_X2 q_X2_pass_0 tyX2_ok nmX2 rfl (tyX2_ok 3 (by decide)) (Nat.le_of_ble_eq_true rfl) (v_objS3 hi) dX2_pass_21 (fun H locs hP hS => ?_)
    rw [← eL4] at hP
    refine lv_aload_n C.1 C.2.1 dX2_pass_24 rfl (lv_at hl 0 rfl) ?_
    obtain ⟨v5, ev5, h⟩ := lt_out h
    refine k_geti C G hP (v_obj hi) rfl 3 (by decide) n_X2_pass_X2 q_X2_pass_0 rfl ev5 dX2_pass_25 ?_
    refine lv_iload_n C.1 C.2.1 dX2_pass_28 rfl (lv_at hl 2 rfl) ?_
    refine lv_icmp_lt (tgt := 44) C.1 C.2.1 dX2_pass_29 (by decide) (fun c6 => ?_) (fun c6 => ?_)
    · have h := if_t c6 h
      exact w_X2_pass_b44 C G hi hK9 hP hS (lv_sub hl [0, 1, 2, 3] rfl) h
    · have h := if_f c6 h
      refine lv_aload_n C.1 C.2.1 dX2_pass_32 rfl (lv_at hl 0 rfl) ?_
      refine k_getf C G hP (v_obj hi) rfl 1 (by decide) n_X2_pass_X2 q_X2_pass_1 (v := .ref (ad (5 + 14 * i + 10))) rfl dX2_pass_33 ?_
      refine lv_aload_n C.1 C.2.1 dX2_pass_36 rfl (lv_at hl 0 rfl) ?_
      obtain ⟨v7, ev7, h⟩ := lt_out h
      refine k_geti C G hP (v_obj hi) rfl 3 (by decide) n_X2_pass_X2 q_X2_pass_0 rfl ev7 dX2_pass_37 ?_
      obtain ⟨r8, L9, c10, h⟩ := bd2_out h
      refine k_callVi C G hP hS (m_X4_lookAt l G.2.1 _ hi c10) (v_sto hi) rfl (cwV 1 C.2.2.2.2.2.1 gX2_pass_X4_lookAt rfl rfl rfl (by decide +kernel) ⟨Nat.le_of_ble_eq_true rfl, Nat.le_of_ble_eq_true rfl⟩) (As := [.int v7]) rfl hl.1 rfl (Nat.le_of_ble_eq_true rfl) dX2_pass_40 ⟨Nat.le_of_ble_eq_true rfl, Nat.le_of_ble_eq_true rfl⟩ (fun H locs hP hS => ?_)
      refine lv_istore_n (lv' := [(2, .int r8), (0, .ref (ad (5 + 14 * i + 0))), (1, .int x1), (3, .int x3)]) C.1 C.2.1 dX2_pass_43 rfl hl (by decide) rfl (fun ls hl => ?_)
      exact w_X2_pass_b44 C G hi hK9 hP hS (lv_sub hl [1, 2, 0, 3] rfl) h
set_option maxRecDepth 100000 in
set_option maxHeartbeats 4000000 in
theorem w_X2_pass_h9 {res : SL} (C : Cx p s m args meth c cX2_pass 5 none RX2 wsX2_pass) (G : Gx D cs ad s) {i : Nat} (hi : i < 6) {Ls : Nat → SL} {Hs : SL} {T : SL} {M : SL} {dr : Int64} {hs : Int64} {o : Int64} {od : UInt64} : ∀ (n : Nat) {L : SL} {x1 : Int32} {x2 : Int32} {x3 : Int32} {H : Heap} {locs : List Loc} {ls : Array Slot}, va_P D vwCl (wA cs ad (va_up Ls i L) Hs T M dr hs o od) H → va_S (Afr ad s.heap.size) s.heap H locs → lv_has ls 5 [(0, .ref (ad (5 + 14 * i + 0))), (1, .int x1), (2, .int x2), (3, .int x3)] → f_X2_pass_h9 n L x1 x2 x3 = some res → W p l e rmX2_pass s m args below meth c H locs 0 0 (MQ below (va_Qv (fun (_ : Unit) => True) (fun _ t => va_P D vwCl (wA cs ad (va_up Ls i res) Hs T M dr hs o od) t.heap) (Afr ad s.heap.size)) args s 0 0 (Afr ad s.heap.size)) (F0 m 9 ls []) := by
  intro n
  induction n with
  | zero => intro L x1 x2 x3 H locs ls hP hS hl  h; cases h
  | succ n ih => intro L x1 x2 x3 H locs ls hP hS hl  h; exact w_X2_pass_b9 C G hi  ih hP hS hl  h
set_option maxRecDepth 100000 in
set_option maxHeartbeats 4000000 in
theorem w_X2_pass_e {res : SL} (C : Cx p s m args meth c cX2_pass 5 none RX2 wsX2_pass) (G : Gx D cs ad s) {i : Nat} (hi : i < 6) {Ls : Nat → SL} {Hs : SL} {T : SL} {M : SL} {dr : Int64} {hs : Int64} {o : Int64} {od : UInt64} {L : SL} {x1 : Int32} {H : Heap} {locs : List Loc} {ls : Array Slot} (hP : va_P D vwCl (wA cs ad (va_up Ls i L) Hs T M dr hs o od) H) (hS : va_S (Afr ad s.heap.size) s.heap H locs) (hl : lv_has ls 5 [(0, .ref (ad (5 + 14 * i + 0))), (1, .int x1)]) (h : f_X2_pass L x1 = some res) : W p l e rmX2_pass s m args below meth c H locs 0 0 (MQ below (va_Qv (fun (_ : Unit) => True) (fun _ t => va_P D vwCl (wA cs ad (va_up Ls i res) Hs T M dr hs o od) t.heap) (Afr ad s.heap.size)) args s 0 0 (Afr ad s.heap.size)) (F0 m 0 ls []) := by
  unfold f_X2_pass at h
  refine lv_aload_n C.1 C.2.1 dX2_pass_0 rfl (lv_at hl 0 rfl) ?_
  obtain ⟨v1, ev1, h⟩ := lt_out h
  refine k_geti C G hP (v_obj hi) rfl 3 (by decide) n_X2_pass_X2 q_X2_pass_0 rfl ev1 dX2_pass_1 ?_
  refine lv_iconst (v := 1) C.1 C.2.1 dX2_pass_4 (by decide) ?_
  obtain ⟨v2, ev2, h⟩ := lt_out h
  refine k_iadd C ev2 dX2_pass_5 ?_
  refine lv_istore_n (lv' := [(2, .int v2), (0, .ref (ad (5 + 14 * i + 0))), (1, .int x1)]) C.1 C.2.1 dX2_pass_6 rfl hl (by decide) rfl (fun ls hl => ?_)
  refine lv_iconst (v := 0) C.1 C.2.1 dX2_pass_7 (by decide) ?_
  refine lv_istore_n (lv' := [(3, .int 0), (2, .int v2), (0, .ref (ad (5 + 14 * i + 0))), (1, .int x1)]) C.1 C.2.1 dX2_pass_8 rfl hl (by decide) rfl (fun ls hl => ?_)
  exact w_X2_pass_h9 C G hi fuel hP hS (lv_sub hl [2, 3, 1, 0] rfl) h
set_option maxRecDepth 100000 in
set_option maxHeartbeats 4000000 in
theorem m_X2_pass (l : Launch) {D : va_G} {cs : Nat → ClassId} {ad : Nat → Nat} (hAd : adOK ad) (sz : Nat) {i : Nat} (hi : i < 6) {Ls : Nat → SL} {Hs : SL} {T : SL} {M : SL} {dr : Int64} {hs : Int64} {o : Int64} {od : UInt64} {L : SL} {x1 : Int32} {res : SL} (h : f_X2_pass L x1 = some res) : Met l yX2_pass wsX2_pass rmX2_pass (PA D cs sz (wA cs ad (va_up Ls i L) Hs T M dr hs o od) [.ref (ad (5 + 14 * i + 0)), .int x1]) (va_Qv (fun (_ : Unit) => True) (fun _ t => va_P D vwCl (wA cs ad (va_up Ls i res) Hs T M dr hs o od) t.heap) (Afr ad sz)) 0 0 (Afr ad sz) :=
  k_met (by decide) rfl (Nat.le_of_ble_eq_true rfl) hAd (fun p e s m below meth c ls C G hP hsz hl hS => by
    subst hsz
    exact w_X2_pass_e C G hi hP hS hl  h)
/-! X2 bottlesOut -/
abbrev rmX2_bottlesOut : Room := { frames := 0, cells := 0, slots := 0, locals := 0 }
theorem q_X2_bottlesOut_0 : Cond.fieldLink RX2 23 "LineBuffers$Line" "machines" "I" ∈ wsX2_bottlesOut := List.mem_of_getElem? (i := 1) rfl
theorem q_X2_bottlesOut_1 : Cond.fieldLink RX2 11 "LineBuffers$Line" "rows" "[[I" ∈ wsX2_bottlesOut := List.mem_of_getElem? (i := 2) rfl
theorem n_X2_bottlesOut_X2 : ∀ x ∈ u_ws RX2 TX2 4, x ∈ wsX2_bottlesOut := fun x h => List.mem_cons_of_mem _ (List.mem_append_right _ h)
set_option maxRecDepth 100000 in
set_option maxHeartbeats 4000000 in
theorem w_X2_bottlesOut_e {res : Int32} (C : Cx p s m args meth c cX2_bottlesOut 1 (some .int) RX2 wsX2_bottlesOut) (G : Gx D cs ad s) {i : Nat} (hi : i < 6) {Ls : Nat → SL} {Hs : SL} {T : SL} {M : SL} {dr : Int64} {hs : Int64} {o : Int64} {od : UInt64} {L : SL} {H : Heap} {locs : List Loc} {ls : Array Slot} (hP : va_P D vwCl (wA cs ad (va_up Ls i L) Hs T M dr hs o od) H) (hS : va_S (Afr ad s.heap.size) s.heap H locs) (hl : lv_has ls 1 [(0, .ref (ad (5 + 14 * i + 0)))]) (h : f_X2_bottlesOut L = some res) : W p l e rmX2_bottlesOut s m args below meth c H locs 0 0 (MQ below (va_Qi (fun r' (_ : Unit) => r' = res) (fun _ t => va_P D vwCl (wA cs ad (va_up Ls i L) Hs T M dr hs o od) t.heap) (Afr ad s.heap.size)) args s 0 0 (Afr ad s.heap.size)) (F0 m 0 ls []) := by
  unfold f_X2_bottlesOut at h
  refine lv_aload_n C.1 C.2.1 dX2_bottlesOut_0 rfl (lv_at hl 0 rfl) ?_
  obtain ⟨v1, ev1, h⟩ := lt_out h
  refine k_geti C G hP (v_obj hi) rfl 2 (by decide) n_X2_bottlesOut_X2 q_X2_bottlesOut_0 rfl ev1 dX2_bottlesOut_1 ?_
  refine lv_if_ne (tgt := 11) C.1 C.2.1 dX2_bottlesOut_4 (by decide) (fun c2 => ?_) (fun c2 => ?_)
  · have h := if_t c2 h
    refine lv_aload_n C.1 C.2.1 dX2_bottlesOut_11 rfl (lv_at hl 0 rfl) ?_
    refine k_getf C G hP (v_obj hi) rfl 0 (by decide) n_X2_bottlesOut_X2 q_X2_bottlesOut_1 (v := .ref (ad (5 + 14 * i + 1))) rfl dX2_bottlesOut_12 ?_
    refine lv_aload_n C.1 C.2.1 dX2_bottlesOut_15 rfl (lv_at hl 0 rfl) ?_
    obtain ⟨v3, ev3, h⟩ := lt_out h
    refine k_geti C G hP (v_obj hi) rfl 2 (by decide) n_X2_bottlesOut_X2 q_X2_bottlesOut_0 rfl ev3 dX2_bottlesOut_16 ?_
    refine lv_iconst (v := 1) C.1 C.2.1 dX2_bottlesOut_19 (by decide) ?_
    obtain ⟨v4, ev4, h⟩ := lt_out h
    refine k_isub C ev4 dX2_bottlesOut_20 ?_
    obtain ⟨g5, h⟩ := gd_out h
    have g5 := chk_in g5
    obtain ⟨kq6, ekq6, h⟩ := lt_out h
    have hkq6 : 2 ≤ kq6 ∧ kq6 < 10 := row_k g5 ekq6
    refine k_aaldR C G hP (v_rows hi) g5 (b := ad (5 + 14 * i + kq6)) (by rw [ekq6]) dX2_bottlesOut_21 ?_
    refine lv_bipush (v := 13) C.1 C.2.1 dX2_bottlesOut_22 (by decide) ?_
    obtain ⟨v7, ev7, h⟩ := lt_out h
    refine k_iald C G hP (v_row hi hkq6) (chk_in rfl) (j := 13) rfl ev7 dX2_bottlesOut_24 ?_
    cases h
    exact k_iret C hP hS dX2_bottlesOut_25
  · have h := if_n c2 h
    refine lv_iconst (v := 0) C.1 C.2.1 dX2_bottlesOut_7 (by decide) ?_
    refine lv_goto (tgt := 25) C.1 C.2.1 dX2_bottlesOut_8 (by decide) ?_
    cases h
    exact k_iret C hP hS dX2_bottlesOut_25
set_option maxRecDepth 100000 in
set_option maxHeartbeats 4000000 in
theorem m_X2_bottlesOut (l : Launch) {D : va_G} {cs : Nat → ClassId} {ad : Nat → Nat} (hAd : adOK ad) (sz : Nat) {i : Nat} (hi : i < 6) {Ls : Nat → SL} {Hs : SL} {T : SL} {M : SL} {dr : Int64} {hs : Int64} {o : Int64} {od : UInt64} {L : SL} {res : Int32} (h : f_X2_bottlesOut L = some res) : Met l yX2_bottlesOut wsX2_bottlesOut rmX2_bottlesOut (PA D cs sz (wA cs ad (va_up Ls i L) Hs T M dr hs o od) [.ref (ad (5 + 14 * i + 0))]) (va_Qi (fun r' (_ : Unit) => r' = res) (fun _ t => va_P D vwCl (wA cs ad (va_up Ls i L) Hs T M dr hs o od) t.heap) (Afr ad sz)) 0 0 (Afr ad sz) :=
  k_met (by decide) rfl (Nat.le_of_ble_eq_true rfl) hAd (fun p e s m below meth c ls C G hP hsz hl hS => by
    subst hsz
    exact w_X2_bottlesOut_e C G hi hP hS hl  h)
/-! X2 bottlesInside -/
abbrev rmX2_bottlesInside : Room := { frames := 0, cells := 0, slots := 0, locals := 0 }
theorem q_X2_bottlesInside_0 : Cond.fieldLink RX2 23 "LineBuffers$Line" "machines" "I" ∈ wsX2_bottlesInside := List.mem_of_getElem? (i := 1) rfl
theorem q_X2_bottlesInside_1 : Cond.fieldLink RX2 11 "LineBuffers$Line" "rows" "[[I" ∈ wsX2_bottlesInside := List.mem_of_getElem? (i := 2) rfl
theorem n_X2_bottlesInside_X2 : ∀ x ∈ u_ws RX2 TX2 4, x ∈ wsX2_bottlesInside := fun x h => List.mem_cons_of_mem _ (List.mem_append_right _ h)
set_option maxRecDepth 100000 in
set_option maxHeartbeats 4000000 in
theorem w_X2_bottlesInside_b39 {res : Int32} (C : Cx p s m args meth c cX2_bottlesInside 3 (some .int) RX2 wsX2_bottlesInside) (G : Gx D cs ad s) {i : Nat} (hi : i < 6) {Ls : Nat → SL} {Hs : SL} {T : SL} {M : SL} {dr : Int64} {hs : Int64} {o : Int64} {od : UInt64} {L : SL} {K4 : SL → Int32 → Int32 → Option (Int32)} (hK4 : ∀ {x1 : Int32} {x2 : Int32} {H : Heap} {locs : List Loc} {ls : Array Slot}, va_P D vwCl (wA cs ad (va_up Ls i L) Hs T M dr hs o od) H → va_S (Afr ad s.heap.size) s.heap H locs → lv_has ls 3 [(0, .ref (ad (5 + 14 * i + 0))), (1, .int x1), (2, .int x2)] → K4 L x1 x2 = some res → W p l e rmX2_bottlesInside s m args below meth c H locs 0 0 (MQ below (va_Qi (fun r' (_ : Unit) => r' = res) (fun _ t => va_P D vwCl (wA cs ad (va_up Ls i L) Hs T M dr hs o od) t.heap) (Afr ad s.heap.size)) args s 0 0 (Afr ad s.heap.size)) (F0 m 4 ls [])) {x2 : Int32} {s0 : Int32} {s1 : Int32} {s2 : Int32} {H : Heap} {locs : List Loc} {ls : Array Slot} (hP : va_P D vwCl (wA cs ad (va_up Ls i L) Hs T M dr hs o od) H) (hS : va_S (Afr ad s.heap.size) s.heap H locs) (hl : lv_has ls 3 [(0, .ref (ad (5 + 14 * i + 0))), (2, .int x2)]) (h : f_X2_bottlesInside_b39 K4 L x2 s0 s1 s2 = some res) : W p l e rmX2_bottlesInside s m args below meth c H locs 0 0 (MQ below (va_Qi (fun r' (_ : Unit) => r' = res) (fun _ t => va_P D vwCl (wA cs ad (va_up Ls i L) Hs T M dr hs o od) t.heap) (Afr ad s.heap.size)) args s 0 0 (Afr ad s.heap.size)) (F0 m 39 ls [.int s2, .int s1, .int s0]) := by
  unfold f_X2_bottlesInside_b39 at h
  obtain ⟨v1, ev1, h⟩ := lt_out h
  refine k_iadd C ev1 dX2_bottlesInside_39 ?_
  obtain ⟨v2, ev2, h⟩ := lt_out h
  refine k_iadd C ev2 dX2_bottlesInside_40 ?_
  refine lv_istore_n (lv' := [(1, .int v2), (0, .ref (ad (5 + 14 * i + 0))), (2, .int x2)]) C.1 C.2.1 dX2_bottlesInside_41 rfl hl (by decide) rfl (fun ls hl => ?_)
  obtain ⟨z3, ez3, h⟩ := lt_out h
  refine lv_iinc (v := z3) (lv' := [(2, .int z3), (1, .int v2), (0, .ref (ad (5 + 14 * i + 0)))]) C.1 C.2.1 dX2_bottlesInside_42 hl (k := 2) rfl (by rw [ez3]; rfl) (by decide) rfl (fun ls hl => ?_)
  refine lv_goto (tgt := 4) C.1 C.2.1 dX2_bottlesInside_45 (by decide) ?_
  exact hK4 hP hS (lv_sub hl [2, 1, 0] rfl)  h
set_option maxRecDepth 100000 in
set_option maxHeartbeats 4000000 in
theorem w_X2_bottlesInside_b4 {res : Int32} (C : Cx p s m args meth c cX2_bottlesInside 3 (some .int) RX2 wsX2_bottlesInside) (G : Gx D cs ad s) {i : Nat} (hi : i < 6) {Ls : Nat → SL} {Hs : SL} {T : SL} {M : SL} {dr : Int64} {hs : Int64} {o : Int64} {od : UInt64} {L : SL} {K4 : SL → Int32 → Int32 → Option (Int32)} (hK4 : ∀ {x1 : Int32} {x2 : Int32} {H : Heap} {locs : List Loc} {ls : Array Slot}, va_P D vwCl (wA cs ad (va_up Ls i L) Hs T M dr hs o od) H → va_S (Afr ad s.heap.size) s.heap H locs → lv_has ls 3 [(0, .ref (ad (5 + 14 * i + 0))), (1, .int x1), (2, .int x2)] → K4 L x1 x2 = some res → W p l e rmX2_bottlesInside s m args below meth c H locs 0 0 (MQ below (va_Qi (fun r' (_ : Unit) => r' = res) (fun _ t => va_P D vwCl (wA cs ad (va_up Ls i L) Hs T M dr hs o od) t.heap) (Afr ad s.heap.size)) args s 0 0 (Afr ad s.heap.size)) (F0 m 4 ls [])) {x1 : Int32} {x2 : Int32} {H : Heap} {locs : List Loc} {ls : Array Slot} (hP : va_P D vwCl (wA cs ad (va_up Ls i L) Hs T M dr hs o od) H) (hS : va_S (Afr ad s.heap.size) s.heap H locs) (hl : lv_has ls 3 [(0, .ref (ad (5 + 14 * i + 0))), (1, .int x1), (2, .int x2)]) (h : f_X2_bottlesInside_b4 K4 L x1 x2 = some res) : W p l e rmX2_bottlesInside s m args below meth c H locs 0 0 (MQ below (va_Qi (fun r' (_ : Unit) => r' = res) (fun _ t => va_P D vwCl (wA cs ad (va_up Ls i L) Hs T M dr hs o od) t.heap) (Afr ad s.heap.size)) args s 0 0 (Afr ad s.heap.size)) (F0 m 4 ls []) := by
  unfold f_X2_bottlesInside_b4 at h
  refine lv_iload_n C.1 C.2.1 dX2_bottlesInside_4 rfl (lv_at hl 2 rfl) ?_
  refine lv_aload_n C.1 C.2.1 dX2_bottlesInside_5 rfl (lv_at hl 0 rfl) ?_
  obtain ⟨v1, ev1, h⟩ := lt_out h
  refine k_geti C G hP (v_obj hi) rfl 2 (by decide) n_X2_bottlesInside_X2 q_X2_bottlesInside_0 rfl ev1 dX2_bottlesInside_6 ?_
  refine lv_icmp_ge (tgt := 48) C.1 C.2.1 dX2_bottlesInside_9 (by decide) (fun c2 => ?_) (fun c2 => ?_)
  · have h := if_t c2 h
    refine lv_iload_n C.1 C.2.1 dX2_bottlesInside_48 rfl (lv_at hl 1 rfl) ?_
    cases h
    exact k_iret C hP hS dX2_bottlesInside_49
  · have h := if_f c2 h
    refine lv_iload_n C.1 C.2.1 dX2_bottlesInside_12 rfl (lv_at hl 1 rfl) ?_
    refine lv_aload_n C.1 C.2.1 dX2_bottlesInside_13 rfl (lv_at hl 0 rfl) ?_
    refine k_getf C G hP (v_obj hi) rfl 0 (by decide) n_X2_bottlesInside_X2 q_X2_bottlesInside_1 (v := .ref (ad (5 + 14 * i + 1))) rfl dX2_bottlesInside_14 ?_
    refine lv_iload_n C.1 C.2.1 dX2_bottlesInside_17 rfl (lv_at hl 2 rfl) ?_
    obtain ⟨g3, h⟩ := gd_out h
    have g3 := chk_in g3
    obtain ⟨kq4, ekq4, h⟩ := lt_out h
    have hkq4 : 2 ≤ kq4 ∧ kq4 < 10 := row_k g3 ekq4
    refine k_aaldR C G hP (v_rows hi) g3 (b := ad (5 + 14 * i + kq4)) (by rw [ekq4]) dX2_bottlesInside_18 ?_
    refine lv_iconst (v := 5) C.1 C.2.1 dX2_bottlesInside_19 (by decide) ?_
    obtain ⟨v5, ev5, h⟩ := lt_out h
    refine k_iald C G hP (v_row hi hkq4) (chk_in rfl) (j := 5) rfl ev5 dX2_bottlesInside_20 ?_
    refine lv_aload_n C.1 C.2.1 dX2_bottlesInside_21 rfl (lv_at hl 0 rfl) ?_
    refine k_getf C G hP (v_obj hi) rfl 0 (by decide) n_X2_bottlesInside_X2 q_X2_bottlesInside_1 (v := .ref (ad (5 + 14 * i + 1))) rfl dX2_bottlesInside_22 ?_
    refine lv_iload_n C.1 C.2.1 dX2_bottlesInside_25 rfl (lv_at hl 2 rfl) ?_
    obtain ⟨kq6, ekq6, h⟩ := lt_out h
    have hkq6 : 2 ≤ kq6 ∧ kq6 < 10 := row_k g3 ekq6
    refine k_aaldR C G hP (v_rows hi) g3 (b := ad (5 + 14 * i + kq6)) (by rw [ekq6]) dX2_bottlesInside_26 ?_
    refine lv_bipush (v := 6) C.1 C.2.1 dX2_bottlesInside_27 (by decide) ?_
    obtain ⟨v7, ev7, h⟩ := lt_out h
    refine k_iald C G hP (v_row hi hkq6) (chk_in rfl) (j := 6) rfl ev7 dX2_bottlesInside_29 ?_
    refine lv_iconst (v := (-1)) C.1 C.2.1 dX2_bottlesInside_30 (by decide) ?_
    refine lv_icmp_ne (tgt := 38) C.1 C.2.1 dX2_bottlesInside_31 (by decide) (fun c8 => ?_) (fun c8 => ?_)
    · have h := if_t c8 h
      refine lv_iconst (v := 1) C.1 C.2.1 dX2_bottlesInside_38 (by decide) ?_
      exact w_X2_bottlesInside_b39 C G hi hK4 hP hS (lv_sub hl [0, 2] rfl) h
    · have h := if_n c8 h
      refine lv_iconst (v := 0) C.1 C.2.1 dX2_bottlesInside_34 (by decide) ?_
      refine lv_goto (tgt := 39) C.1 C.2.1 dX2_bottlesInside_35 (by decide) ?_
      exact w_X2_bottlesInside_b39 C G hi hK4 hP hS (lv_sub hl [0, 2] rfl) h
set_option maxRecDepth 100000 in
set_option maxHeartbeats 4000000 in
theorem w_X2_bottlesInside_h4 {res : Int32} (C : Cx p s m args meth c cX2_bottlesInside 3 (some .int) RX2 wsX2_bottlesInside) (G : Gx D cs ad s) {i : Nat} (hi : i < 6) {Ls : Nat → SL} {Hs : SL} {T : SL} {M : SL} {dr : Int64} {hs : Int64} {o : Int64} {od : UInt64} {L : SL} : ∀ (n : Nat) {x1 : Int32} {x2 : Int32} {H : Heap} {locs : List Loc} {ls : Array Slot}, va_P D vwCl (wA cs ad (va_up Ls i L) Hs T M dr hs o od) H → va_S (Afr ad s.heap.size) s.heap H locs → lv_has ls 3 [(0, .ref (ad (5 + 14 * i + 0))), (1, .int x1), (2, .int x2)] → f_X2_bottlesInside_h4 n L x1 x2 = some res → W p l e rmX2_bottlesInside s m args below meth c H locs 0 0 (MQ below (va_Qi (fun r' (_ : Unit) => r' = res) (fun _ t => va_P D vwCl (wA cs ad (va_up Ls i L) Hs T M dr hs o od) t.heap) (Afr ad s.heap.size)) args s 0 0 (Afr ad s.heap.size)) (F0 m 4 ls []) := by
  intro n
  induction n with
  | zero => intro  x1 x2 H locs ls hP hS hl  h; cases h
  | succ n ih => intro  x1 x2 H locs ls hP hS hl  h; exact w_X2_bottlesInside_b4 C G hi  ih hP hS hl  h
set_option maxRecDepth 100000 in
set_option maxHeartbeats 4000000 in
theorem w_X2_bottlesInside_e {res : Int32} (C : Cx p s m args meth c cX2_bottlesInside 3 (some .int) RX2 wsX2_bottlesInside) (G : Gx D cs ad s) {i : Nat} (hi : i < 6) {Ls : Nat → SL} {Hs : SL} {T : SL} {M : SL} {dr : Int64} {hs : Int64} {o : Int64} {od : UInt64} {L : SL} {H : Heap} {locs : List Loc} {ls : Array Slot} (hP : va_P D vwCl (wA cs ad (va_up Ls i L) Hs T M dr hs o od) H) (hS : va_S (Afr ad s.heap.size) s.heap H locs) (hl : lv_has ls 3 [(0, .ref (ad (5 + 14 * i + 0)))]) (h : f_X2_bottlesInside L = some res) : W p l e rmX2_bottlesInside s m args below meth c H locs 0 0 (MQ below (va_Qi (fun r' (_ : Unit) => r' = res) (fun _ t => va_P D vwCl (wA cs ad (va_up Ls i L) Hs T M dr hs o od) t.heap) (Afr ad s.heap.size)) args s 0 0 (Afr ad s.heap.size)) (F0 m 0 ls []) := by
  unfold f_X2_bottlesInside at h
  refine lv_iconst (v := 0) C.1 C.2.1 dX2_bottlesInside_0 (by decide) ?_
  refine lv_istore_n (lv' := [(1, .int 0), (0, .ref (ad (5 + 14 * i + 0)))]) C.1 C.2.1 dX2_bottlesInside_1 rfl hl (by decide) rfl (fun ls hl => ?_)
  refine lv_iconst (v := 0) C.1 C.2.1 dX2_bottlesInside_2 (by decide) ?_
  refine lv_istore_n (lv' := [(2, .int 0), (1, .int 0), (0, .ref (ad (5 + 14 * i + 0)))]) C.1 C.2.1 dX2_bottlesInside_3 rfl hl (by decide) rfl (fun ls hl => ?_)
  exact w_X2_bottlesInside_h4 C G hi fuel hP hS (lv_sub hl [2, 1, 0] rfl) h
set_option maxRecDepth 100000 in
set_option maxHeartbeats 4000000 in
theorem m_X2_bottlesInside (l : Launch) {D : va_G} {cs : Nat → ClassId} {ad : Nat → Nat} (hAd : adOK ad) (sz : Nat) {i : Nat} (hi : i < 6) {Ls : Nat → SL} {Hs : SL} {T : SL} {M : SL} {dr : Int64} {hs : Int64} {o : Int64} {od : UInt64} {L : SL} {res : Int32} (h : f_X2_bottlesInside L = some res) : Met l yX2_bottlesInside wsX2_bottlesInside rmX2_bottlesInside (PA D cs sz (wA cs ad (va_up Ls i L) Hs T M dr hs o od) [.ref (ad (5 + 14 * i + 0))]) (va_Qi (fun r' (_ : Unit) => r' = res) (fun _ t => va_P D vwCl (wA cs ad (va_up Ls i L) Hs T M dr hs o od) t.heap) (Afr ad sz)) 0 0 (Afr ad sz) :=
  k_met (by decide) rfl (Nat.le_of_ble_eq_true rfl) hAd (fun p e s m below meth c ls C G hP hsz hl hS => by
    subst hsz
    exact w_X2_bottlesInside_e C G hi hP hS hl  h)
/-! X2 findLimiting -/
abbrev rmX2_findLimiting : Room := { frames := 0, cells := 0, slots := 0, locals := 0 }
theorem q_X2_findLimiting_0 : Cond.constant RX2 81 (2147483647) ∈ wsX2_findLimiting := List.mem_of_getElem? (i := 1) rfl
theorem q_X2_findLimiting_1 : Cond.fieldLink RX2 23 "LineBuffers$Line" "machines" "I" ∈ wsX2_findLimiting := List.mem_of_getElem? (i := 2) rfl
theorem q_X2_findLimiting_2 : Cond.fieldLink RX2 11 "LineBuffers$Line" "rows" "[[I" ∈ wsX2_findLimiting := List.mem_of_getElem? (i := 3) rfl
theorem n_X2_findLimiting_X2 : ∀ x ∈ u_ws RX2 TX2 4, x ∈ wsX2_findLimiting := fun x h => List.mem_cons_of_mem _ (List.mem_append_right _ h)
set_option maxRecDepth 100000 in
set_option maxHeartbeats 4000000 in
theorem w_X2_findLimiting_b47 {res : Int32} (C : Cx p s m args meth c cX2_findLimiting 5 (some .int) RX2 wsX2_findLimiting) (G : Gx D cs ad s) {i : Nat} (hi : i < 6) {Ls : Nat → SL} {Hs : SL} {T : SL} {M : SL} {dr : Int64} {hs : Int64} {o : Int64} {od : UInt64} {L : SL} {K7 : SL → Int32 → Int32 → Int32 → Option (Int32)} (hK7 : ∀ {x1 : Int32} {x2 : Int32} {x3 : Int32} {H : Heap} {locs : List Loc} {ls : Array Slot}, va_P D vwCl (wA cs ad (va_up Ls i L) Hs T M dr hs o od) H → va_S (Afr ad s.heap.size) s.heap H locs → lv_has ls 5 [(0, .ref (ad (5 + 14 * i + 0))), (1, .int x1), (2, .int x2), (3, .int x3)] → K7 L x1 x2 x3 = some res → W p l e rmX2_findLimiting s m args below meth c H locs 0 0 (MQ below (va_Qi (fun r' (_ : Unit) => r' = res) (fun _ t => va_P D vwCl (wA cs ad (va_up Ls i L) Hs T M dr hs o od) t.heap) (Afr ad s.heap.size)) args s 0 0 (Afr ad s.heap.size)) (F0 m 7 ls [])) {x1 : Int32} {x2 : Int32} {x3 : Int32} {H : Heap} {locs : List Loc} {ls : Array Slot} (hP : va_P D vwCl (wA cs ad (va_up Ls i L) Hs T M dr hs o od) H) (hS : va_S (Afr ad s.heap.size) s.heap H locs) (hl : lv_has ls 5 [(0, .ref (ad (5 + 14 * i + 0))), (1, .int x1), (2, .int x2), (3, .int x3)]) (h : f_X2_findLimiting_b47 K7 L x1 x2 x3 = some res) : W p l e rmX2_findLimiting s m args below meth c H locs 0 0 (MQ below (va_Qi (fun r' (_ : Unit) => r' = res) (fun _ t => va_P D vwCl (wA cs ad (va_up Ls i L) Hs T M dr hs o od) t.heap) (Afr ad s.heap.size)) args s 0 0 (Afr ad s.heap.size)) (F0 m 47 ls []) := by
  unfold f_X2_findLimiting_b47 at h
  obtain ⟨z1, ez1, h⟩ := lt_out h
  refine lv_iinc (v := z1) (lv' := [(3, .int z1), (0, .ref (ad (5 + 14 * i + 0))), (1, .int x1), (2, .int x2)]) C.1 C.2.1 dX2_findLimiting_47 hl (k := 3) rfl (by rw [ez1]; rfl) (by decide) rfl (fun ls hl => ?_)
  refine lv_goto (tgt := 7) C.1 C.2.1 dX2_findLimiting_50 (by decide) ?_
  exact hK7 hP hS (lv_sub hl [1, 2, 3, 0] rfl)  h
set_option maxRecDepth 100000 in
set_option maxHeartbeats 4000000 in
theorem w_X2_findLimiting_b7 {res : Int32} (C : Cx p s m args meth c cX2_findLimiting 5 (some .int) RX2 wsX2_findLimiting) (G : Gx D cs ad s) {i : Nat} (hi : i < 6) {Ls : Nat → SL} {Hs : SL} {T : SL} {M : SL} {dr : Int64} {hs : Int64} {o : Int64} {od : UInt64} {L : SL} {K7 : SL → Int32 → Int32 → Int32 → Option (Int32)} (hK7 : ∀ {x1 : Int32} {x2 : Int32} {x3 : Int32} {H : Heap} {locs : List Loc} {ls : Array Slot}, va_P D vwCl (wA cs ad (va_up Ls i L) Hs T M dr hs o od) H → va_S (Afr ad s.heap.size) s.heap H locs → lv_has ls 5 [(0, .ref (ad (5 + 14 * i + 0))), (1, .int x1), (2, .int x2), (3, .int x3)] → K7 L x1 x2 x3 = some res → W p l e rmX2_findLimiting s m args below meth c H locs 0 0 (MQ below (va_Qi (fun r' (_ : Unit) => r' = res) (fun _ t => va_P D vwCl (wA cs ad (va_up Ls i L) Hs T M dr hs o od) t.heap) (Afr ad s.heap.size)) args s 0 0 (Afr ad s.heap.size)) (F0 m 7 ls [])) {x1 : Int32} {x2 : Int32} {x3 : Int32} {H : Heap} {locs : List Loc} {ls : Array Slot} (hP : va_P D vwCl (wA cs ad (va_up Ls i L) Hs T M dr hs o od) H) (hS : va_S (Afr ad s.heap.size) s.heap H locs) (hl : lv_has ls 5 [(0, .ref (ad (5 + 14 * i + 0))), (1, .int x1), (2, .int x2), (3, .int x3)]) (h : f_X2_findLimiting_b7 K7 L x1 x2 x3 = some res) : W p l e rmX2_findLimiting s m args below meth c H locs 0 0 (MQ below (va_Qi (fun r' (_ : Unit) => r' = res) (fun _ t => va_P D vwCl (wA cs ad (va_up Ls i L) Hs T M dr hs o od) t.heap) (Afr ad s.heap.size)) args s 0 0 (Afr ad s.heap.size)) (F0 m 7 ls []) := by
  unfold f_X2_findLimiting_b7 at h
  refine lv_iload_n C.1 C.2.1 dX2_findLimiting_7 rfl (lv_at hl 3 rfl) ?_
  refine lv_aload_n C.1 C.2.1 dX2_findLimiting_8 rfl (lv_at hl 0 rfl) ?_
  obtain ⟨v1, ev1, h⟩ := lt_out h
  refine k_geti C G hP (v_obj hi) rfl 2 (by decide) n_X2_findLimiting_X2 q_X2_findLimiting_1 rfl ev1 dX2_findLimiting_9 ?_
  refine lv_icmp_ge (tgt := 53) C.1 C.2.1 dX2_findLimiting_12 (by decide) (fun c2 => ?_) (fun c2 => ?_)
  · have h := if_t c2 h
    refine lv_iload_n C.1 C.2.1 dX2_findLimiting_53 rfl (lv_at hl 1 rfl) ?_
    cases h
    exact k_iret C hP hS dX2_findLimiting_54
  · have h := if_f c2 h
    refine lv_aload_n C.1 C.2.1 dX2_findLimiting_15 rfl (lv_at hl 0 rfl) ?_
    refine k_getf C G hP (v_obj hi) rfl 0 (by decide) n_X2_findLimiting_X2 q_X2_findLimiting_2 (v := .ref (ad (5 + 14 * i + 1))) rfl dX2_findLimiting_16 ?_
    refine lv_iload_n C.1 C.2.1 dX2_findLimiting_19 rfl (lv_at hl 3 rfl) ?_
    obtain ⟨g3, h⟩ := gd_out h
    have g3 := chk_in g3
    obtain ⟨kq4, ekq4, h⟩ := lt_out h
    have hkq4 : 2 ≤ kq4 ∧ kq4 < 10 := row_k g3 ekq4
    refine k_aaldR C G hP (v_rows hi) g3 (b := ad (5 + 14 * i + kq4)) (by rw [ekq4]) dX2_findLimiting_20 ?_
    refine lv_bipush (v := 10) C.1 C.2.1 dX2_findLimiting_21 (by decide) ?_
    obtain ⟨v5, ev5, h⟩ := lt_out h
    refine k_iald C G hP (v_row hi hkq4) (chk_in rfl) (j := 10) rfl ev5 dX2_findLimiting_23 ?_
    refine lv_aload_n C.1 C.2.1 dX2_findLimiting_24 rfl (lv_at hl 0 rfl) ?_
    refine k_getf C G hP (v_obj hi) rfl 0 (by decide) n_X2_findLimiting_X2 q_X2_findLimiting_2 (v := .ref (ad (5 + 14 * i + 1))) rfl dX2_findLimiting_25 ?_
    refine lv_iload_n C.1 C.2.1 dX2_findLimiting_28 rfl (lv_at hl 3 rfl) ?_
    obtain ⟨kq6, ekq6, h⟩ := lt_out h
    have hkq6 : 2 ≤ kq6 ∧ kq6 < 10 := row_k g3 ekq6
    refine k_aaldR C G hP (v_rows hi) g3 (b := ad (5 + 14 * i + kq6)) (by rw [ekq6]) dX2_findLimiting_29 ?_
    refine lv_bipush (v := 11) C.1 C.2.1 dX2_findLimiting_30 (by decide) ?_
    obtain ⟨v7, ev7, h⟩ := lt_out h
    refine k_iald C G hP (v_row hi hkq6) (chk_in rfl) (j := 11) rfl ev7 dX2_findLimiting_32 ?_
    obtain ⟨v8, ev8, h⟩ := lt_out h
    refine k_iadd C ev8 dX2_findLimiting_33 ?_
    refine lv_istore (lv' := [(4, .int v8), (0, .ref (ad (5 + 14 * i + 0))), (1, .int x1), (2, .int x2), (3, .int x3)]) C.1 C.2.1 dX2_findLimiting_34 hl (by decide) rfl (fun ls hl => ?_)
    refine lv_iload C.1 C.2.1 dX2_findLimiting_36 (lv_at hl 0 rfl) ?_
    refine lv_iload_n C.1 C.2.1 dX2_findLimiting_38 rfl (lv_at hl 3 rfl) ?_
    refine lv_icmp_ge (tgt := 47) C.1 C.2.1 dX2_findLimiting_39 (by decide) (fun c9 => ?_) (fun c9 => ?_)
    · have h := if_t c9 h
      exact w_X2_findLimiting_b47 C G hi hK7 hP hS (lv_sub hl [1, 2, 3, 4] rfl) h
    · have h := if_f c9 h
      refine lv_iload C.1 C.2.1 dX2_findLimiting_42 (lv_at hl 0 rfl) ?_
      refine lv_istore_n (lv' := [(2, .int v8), (4, .int v8), (0, .ref (ad (5 + 14 * i + 0))), (1, .int x1), (3, .int x3)]) C.1 C.2.1 dX2_findLimiting_44 rfl hl (by decide) rfl (fun ls hl => ?_)
      refine lv_iload_n C.1 C.2.1 dX2_findLimiting_45 rfl (lv_at hl 4 rfl) ?_
      refine lv_istore_n (lv' := [(1, .int x3), (2, .int v8), (4, .int v8), (0, .ref (ad (5 + 14 * i + 0))), (3, .int x3)]) C.1 C.2.1 dX2_findLimiting_46 rfl hl (by decide) rfl (fun ls hl => ?_)
      exact w_X2_findLimiting_b47 C G hi hK7 hP hS (lv_sub hl [3, 0, 1, 4] rfl) h
set_option maxRecDepth 100000 in
set_option maxHeartbeats 4000000 in
theorem w_X2_findLimiting_h7 {res : Int32} (C : Cx p s m args meth c cX2_findLimiting 5 (some .int) RX2 wsX2_findLimiting) (G : Gx D cs ad s) {i : Nat} (hi : i < 6) {Ls : Nat → SL} {Hs : SL} {T : SL} {M : SL} {dr : Int64} {hs : Int64} {o : Int64} {od : UInt64} {L : SL} : ∀ (n : Nat) {x1 : Int32} {x2 : Int32} {x3 : Int32} {H : Heap} {locs : List Loc} {ls : Array Slot}, va_P D vwCl (wA cs ad (va_up Ls i L) Hs T M dr hs o od) H → va_S (Afr ad s.heap.size) s.heap H locs → lv_has ls 5 [(0, .ref (ad (5 + 14 * i + 0))), (1, .int x1), (2, .int x2), (3, .int x3)] → f_X2_findLimiting_h7 n L x1 x2 x3 = some res → W p l e rmX2_findLimiting s m args below meth c H locs 0 0 (MQ below (va_Qi (fun r' (_ : Unit) => r' = res) (fun _ t => va_P D vwCl (wA cs ad (va_up Ls i L) Hs T M dr hs o od) t.heap) (Afr ad s.heap.size)) args s 0 0 (Afr ad s.heap.size)) (F0 m 7 ls []) := by
  intro n
  induction n with
  | zero => intro  x1 x2 x3 H locs ls hP hS hl  h; cases h
  | succ n ih => intro  x1 x2 x3 H locs ls hP hS hl  h; exact w_X2_findLimiting_b7 C G hi  ih hP hS hl  h
set_option maxRecDepth 100000 in
set_option maxHeartbeats 4000000 in
theorem w_X2_findLimiting_e {res : Int32} (C : Cx p s m args meth c cX2_findLimiting 5 (some .int) RX2 wsX2_findLimiting) (G : Gx D cs ad s) {i : Nat} (hi : i < 6) {Ls : Nat → SL} {Hs : SL} {T : SL} {M : SL} {dr : Int64} {hs : Int64} {o : Int64} {od : UInt64} {L : SL} {H : Heap} {locs : List Loc} {ls : Array Slot} (hP : va_P D vwCl (wA cs ad (va_up Ls i L) Hs T M dr hs o od) H) (hS : va_S (Afr ad s.heap.size) s.heap H locs) (hl : lv_has ls 5 [(0, .ref (ad (5 + 14 * i + 0)))]) (h : f_X2_findLimiting L = some res) : W p l e rmX2_findLimiting s m args below meth c H locs 0 0 (MQ below (va_Qi (fun r' (_ : Unit) => r' = res) (fun _ t => va_P D vwCl (wA cs ad (va_up Ls i L) Hs T M dr hs o od) t.heap) (Afr ad s.heap.size)) args s 0 0 (Afr ad s.heap.size)) (F0 m 0 ls []) := by
  unfold f_X2_findLimiting at h
  refine lv_iconst (v := 0) C.1 C.2.1 dX2_findLimiting_0 (by decide) ?_
  refine lv_istore_n (lv' := [(1, .int 0), (0, .ref (ad (5 + 14 * i + 0)))]) C.1 C.2.1 dX2_findLimiting_1 rfl hl (by decide) rfl (fun ls hl => ?_)
  refine k_ldci C G q_X2_findLimiting_0 dX2_findLimiting_2 ?_
  refine lv_istore_n (lv' := [(2, .int 2147483647), (1, .int 0), (0, .ref (ad (5 + 14 * i + 0)))]) C.1 C.2.1 dX2_findLimiting_4 rfl hl (by decide) rfl (fun ls hl => ?_)
  refine lv_iconst (v := 0) C.1 C.2.1 dX2_findLimiting_5 (by decide) ?_
  refine lv_istore_n (lv' := [(3, .int 0), (2, .int 2147483647), (1, .int 0), (0, .ref (ad (5 + 14 * i + 0)))]) C.1 C.2.1 dX2_findLimiting_6 rfl hl (by decide) rfl (fun ls hl => ?_)
  exact w_X2_findLimiting_h7 C G hi fuel hP hS (lv_sub hl [3, 2, 1, 0] rfl) h
set_option maxRecDepth 100000 in
set_option maxHeartbeats 4000000 in
theorem m_X2_findLimiting (l : Launch) {D : va_G} {cs : Nat → ClassId} {ad : Nat → Nat} (hAd : adOK ad) (sz : Nat) {i : Nat} (hi : i < 6) {Ls : Nat → SL} {Hs : SL} {T : SL} {M : SL} {dr : Int64} {hs : Int64} {o : Int64} {od : UInt64} {L : SL} {res : Int32} (h : f_X2_findLimiting L = some res) : Met l yX2_findLimiting wsX2_findLimiting rmX2_findLimiting (PA D cs sz (wA cs ad (va_up Ls i L) Hs T M dr hs o od) [.ref (ad (5 + 14 * i + 0))]) (va_Qi (fun r' (_ : Unit) => r' = res) (fun _ t => va_P D vwCl (wA cs ad (va_up Ls i L) Hs T M dr hs o od) t.heap) (Afr ad sz)) 0 0 (Afr ad sz) :=
  k_met (by decide) rfl (Nat.le_of_ble_eq_true rfl) hAd (fun p e s m below meth c ls C G hP hsz hl hS => by
    subst hsz
    exact w_X2_findLimiting_e C G hi hP hS hl  h)
/-! X2 upTicks -/
abbrev rmX2_upTicks : Room := { frames := 2, cells := 0, slots := 0, locals := 49 }
theorem q_X2_upTicks_0 : Cond.fieldLink RX2 19 "LineBuffers$Line" "stops" "LLineBuffers$Stops;" ∈ wsX2_upTicks := List.mem_of_getElem? (i := 1) rfl
theorem q_X2_upTicks_1 : Cond.methodLink RX2 89 Lib.Math.min.name ∈ wsX2_upTicks := List.mem_of_getElem? (i := 2) rfl
theorem q_X2_upTicks_2 : Cond.static Lib.Math.min.name ∈ wsX2_upTicks := List.mem_of_getElem? (i := 3) rfl
theorem q_X2_upTicks_3 : Cond.initialized "java/lang/Math" ∈ wsX2_upTicks := List.mem_of_getElem? (i := 4) rfl
theorem q_X2_upTicks_4 : Cond.code Lib.Math.min.name Lib.Math.min.code 2 (some .int) ∈ wsX2_upTicks := List.mem_of_getElem? (i := 5) rfl
theorem n_X2_upTicks_X2 : ∀ x ∈ u_ws RX2 TX2 4, x ∈ wsX2_upTicks := fun x h => List.mem_cons_of_mem _ (List.mem_append_left _ (List.mem_append_right _ h))
set_option maxRecDepth 100000 in
set_option maxHeartbeats 4000000 in
theorem w_X2_upTicks_b57 {res : Int32 × SL} (C : Cx p s m args meth c cX2_upTicks 7 (some .int) RX2 wsX2_upTicks) (G : Gx D cs ad s) {i : Nat} (hi : i < 6) {Ls : Nat → SL} {Hs : SL} {T : SL} {M : SL} {dr : Int64} {hs : Int64} {o : Int64} {od : UInt64} {K8 : SL → Int32 → Int32 → Int32 → Int32 → Int32 → Option (Int32 × SL)} (hK8 : ∀ {L : SL} {x1 : Int32} {x2 : Int32} {x3 : Int32} {x4 : Int32} {x5 : Int32} {H : Heap} {locs : List Loc} {ls : Array Slot}, va_P D vwCl (wA cs ad (va_up Ls i L) Hs T M dr hs o od) H → va_S (Afr ad s.heap.size) s.heap H locs → lv_has ls 7 [(0, .ref (ad (5 + 14 * i + 0))), (1, .int x1), (2, .int x2), (3, .int x3), (4, .int x4), (5, .int x5)] → K8 L x1 x2 x3 x4 x5 = some res → W p l e rmX2_upTicks s m args below meth c H locs 0 0 (MQ below (va_Qi (fun r' (_ : Unit) => r' = res.1) (fun _ t => va_P D vwCl (wA cs ad (va_up Ls i res.2) Hs T M dr hs o od) t.heap) (Afr ad s.heap.size)) args s 0 0 (Afr ad s.heap.size)) (F0 m 8 ls [])) {L : SL} {x1 : Int32} {x2 : Int32} {x3 : Int32} {x5 : Int32} {x6 : Int32} {H : Heap} {locs : List Loc} {ls : Array Slot} (hP : va_P D vwCl (wA cs ad (va_up Ls i L) Hs T M dr hs o od) H) (hS : va_S (Afr ad s.heap.size) s.heap H locs) (hl : lv_has ls 7 [(0, .ref (ad (5 + 14 * i + 0))), (1, .int x1), (2, .int x2), (3, .int x3), (5, .int x5), (6, .int x6)]) (h : f_X2_upTicks_b57 K8 L x1 x2 x3 x5 x6 = some res) : W p l e rmX2_upTicks s m args below meth c H locs 0 0 (MQ below (va_Qi (fun r' (_ : Unit) => r' = res.1) (fun _ t => va_P D vwCl (wA cs ad (va_up Ls i res.2) Hs T M dr hs o od) t.heap) (Afr ad s.heap.size)) args s 0 0 (Afr ad s.heap.size)) (F0 m 57 ls []) := by
  unfold f_X2_upTicks_b57 at h
  refine lv_iload C.1 C.2.1 dX2_upTicks_57 (lv_at hl 5 rfl) ?_
  refine lv_istore (lv' := [(4, .int x6), (0, .ref (ad (5 + 14 * i + 0))), (1, .int x1), (2, .int x2), (3, .int x3), (5, .int x5), (6, .int x6)]) C.1 C.2.1 dX2_upTicks_59 hl (by decide) rfl (fun ls hl => ?_)
  obtain ⟨z1, ez1, h⟩ := lt_out h
  refine lv_iinc (v := z1) (lv' := [(5, .int z1), (4, .int x6), (0, .ref (ad (5 + 14 * i + 0))), (1, .int x1), (2, .int x2), (3, .int x3), (6, .int x6)]) C.1 C.2.1 dX2_upTicks_61 hl (k := 5) rfl (by rw [ez1]; rfl) (by decide) rfl (fun ls hl => ?_)
  refine lv_goto (tgt := 8) C.1 C.2.1 dX2_upTicks_64 (by decide) ?_
  exact hK8 hP hS (lv_sub hl [2, 3, 4, 5, 1, 0] rfl)  h
set_option maxRecDepth 100000 in
set_option maxHeartbeats 4000000 in
theorem w_X2_upTicks_b8 {res : Int32 × SL} (C : Cx p s m args meth c cX2_upTicks 7 (some .int) RX2 wsX2_upTicks) (G : Gx D cs ad s) {i : Nat} (hi : i < 6) {Ls : Nat → SL} {Hs : SL} {T : SL} {M : SL} {dr : Int64} {hs : Int64} {o : Int64} {od : UInt64} {K8 : SL → Int32 → Int32 → Int32 → Int32 → Int32 → Option (Int32 × SL)} (hK8 : ∀ {L : SL} {x1 : Int32} {x2 : Int32} {x3 : Int32} {x4 : Int32} {x5 : Int32} {H : Heap} {locs : List Loc} {ls : Array Slot}, va_P D vwCl (wA cs ad (va_up Ls i L) Hs T M dr hs o od) H → va_S (Afr ad s.heap.size) s.heap H locs → lv_has ls 7 [(0, .ref (ad (5 + 14 * i + 0))), (1, .int x1), (2, .int x2), (3, .int x3), (4, .int x4), (5, .int x5)] → K8 L x1 x2 x3 x4 x5 = some res → W p l e rmX2_upTicks s m args below meth c H locs 0 0 (MQ below (va_Qi (fun r' (_ : Unit) => r' = res.1) (fun _ t => va_P D vwCl (wA cs ad (va_up Ls i res.2) Hs T M dr hs o od) t.heap) (Afr ad s.heap.size)) args s 0 0 (Afr ad s.heap.size)) (F0 m 8 ls [])) {L : SL} {x1 : Int32} {x2 : Int32} {x3 : Int32} {x4 : Int32} {x5 : Int32} {H : Heap} {locs : List Loc} {ls : Array Slot} (hP : va_P D vwCl (wA cs ad (va_up Ls i L) Hs T M dr hs o od) H) (hS : va_S (Afr ad s.heap.size) s.heap H locs) (hl : lv_has ls 7 [(0, .ref (ad (5 + 14 * i + 0))), (1, .int x1), (2, .int x2), (3, .int x3), (4, .int x4), (5, .int x5)]) (h : f_X2_upTicks_b8 K8 L x1 x2 x3 x4 x5 = some res) : W p l e rmX2_upTicks s m args below meth c H locs 0 0 (MQ below (va_Qi (fun r' (_ : Unit) => r' = res.1) (fun _ t => va_P D vwCl (wA cs ad (va_up Ls i res.2) Hs T M dr hs o od) t.heap) (Afr ad s.heap.size)) args s 0 0 (Afr ad s.heap.size)) (F0 m 8 ls []) := by
  unfold f_X2_upTicks_b8 at h
  refine lv_iload C.1 C.2.1 dX2_upTicks_8 (lv_at hl 5 rfl) ?_
  refine lv_bipush (v := 80) C.1 C.2.1 dX2_upTicks_10 (by decide) ?_
  refine lv_icmp_gt (tgt := 67) C.1 C.2.1 dX2_upTicks_12 (by decide) (fun c1 => ?_) (fun c1 => ?_)
  · have h := if_t c1 h
    refine lv_iload_n C.1 C.2.1 dX2_upTicks_67 rfl (lv_at hl 3 rfl) ?_
    cases h
    exact k_iret C hP hS dX2_upTicks_68
  · have h := if_f c1 h
    refine lv_iload C.1 C.2.1 dX2_upTicks_15 (lv_at hl 4 rfl) ?_
    refine lv_iload_n C.1 C.2.1 dX2_upTicks_17 rfl (lv_at hl 2 rfl) ?_
    refine lv_icmp_gt (tgt := 67) C.1 C.2.1 dX2_upTicks_18 (by decide) (fun c2 => ?_) (fun c2 => ?_)
    · have h := if_t c2 h
      refine lv_iload_n C.1 C.2.1 dX2_upTicks_67 rfl (lv_at hl 3 rfl) ?_
      cases h
      exact k_iret C hP hS dX2_upTicks_68
    · have h := if_f c2 h
      refine lv_aload_n C.1 C.2.1 dX2_upTicks_21 rfl (lv_at hl 0 rfl) ?_
      refine k_getf C G hP (v_obj hi) rfl 1 (by decide) n_X2_upTicks_X2 q_X2_upTicks_0 (v := .ref (ad (5 + 14 * i + 10))) rfl dX2_upTicks_22 ?_
      refine lv_iload C.1 C.2.1 dX2_upTicks_25 (lv_at hl 4 rfl) ?_
      obtain ⟨r3, L4, c5, h⟩ := bd2_out h
      refine k_callVi C G hP hS (m_X4_lookAt l G.2.1 _ hi c5) (v_sto hi) rfl (cwV 1 C.2.2.2.2.2.1 gX2_upTicks_X4_lookAt rfl rfl rfl (by decide +kernel) ⟨Nat.le_of_ble_eq_true rfl, Nat.le_of_ble_eq_true rfl⟩) (As := [.int x4]) rfl hl.1 rfl (Nat.le_of_ble_eq_true rfl) dX2_upTicks_27 ⟨Nat.le_of_ble_eq_true rfl, Nat.le_of_ble_eq_true rfl⟩ (fun H locs hP hS => ?_)
      refine lv_iload_n C.1 C.2.1 dX2_upTicks_30 rfl (lv_at hl 2 rfl) ?_
      refine lv_iconst (v := 1) C.1 C.2.1 dX2_upTicks_31 (by decide) ?_
      obtain ⟨v6, ev6, h⟩ := lt_out h
      refine k_iadd C ev6 dX2_upTicks_32 ?_
      obtain ⟨v7, ev7, h⟩ := lt_out h
      refine k_min C G hl.1 q_X2_upTicks_1 q_X2_upTicks_2 q_X2_upTicks_3 q_X2_upTicks_4 (Nat.le_of_ble_eq_true rfl) (Nat.le_of_ble_eq_true rfl) (Nat.le_of_ble_eq_true rfl) (Nat.le_of_ble_eq_true rfl) ev7 dX2_upTicks_33 ?_
      refine lv_istore (lv' := [(6, .int v7), (0, .ref (ad (5 + 14 * i + 0))), (1, .int x1), (2, .int x2), (3, .int x3), (4, .int x4), (5, .int x5)]) C.1 C.2.1 dX2_upTicks_36 hl (by decide) rfl (fun ls hl => ?_)
      refine lv_aload_n C.1 C.2.1 dX2_upTicks_38 rfl (lv_at hl 1 rfl) ?_
      refine k_getf C G hP (v_obj hi) rfl 1 (by decide) n_X2_upTicks_X2 q_X2_upTicks_0 (v := .ref (ad (5 + 14 * i + 10))) rfl dX2_upTicks_39 ?_
      refine lv_iload_n C.1 C.2.1 dX2_upTicks_42 rfl (lv_at hl 2 rfl) ?_
      obtain ⟨r8, c9, h⟩ := bd_out h
      refine k_callVi C G hP hS (m_X4_isDown l G.2.1 _ hi c9) (v_sto hi) rfl (cwV 1 C.2.2.2.2.2.1 gX2_upTicks_X4_isDown rfl rfl rfl (by decide +kernel) ⟨Nat.le_of_ble_eq_true rfl, Nat.le_of_ble_eq_true rfl⟩) (As := [.int x1]) rfl hl.1 rfl (Nat.le_of_ble_eq_true rfl) dX2_upTicks_43 ⟨Nat.le_of_ble_eq_true rfl, Nat.le_of_ble_eq_true rfl⟩ (fun H locs hP hS => ?_)
      refine lv_if_ne (tgt := 57) C.1 C.2.1 dX2_upTicks_46 (by decide) (fun c10 => ?_) (fun c10 => ?_)
      · have h := if_t c10 h
        exact w_X2_upTicks_b57 C G hi hK8 hP hS (lv_sub hl [1, 2, 3, 4, 6, 0] rfl) h
      · have h := if_n c10 h
        refine lv_iload_n C.1 C.2.1 dX2_upTicks_49 rfl (lv_at hl 4 rfl) ?_
        refine lv_iload C.1 C.2.1 dX2_upTicks_50 (lv_at hl 0 rfl) ?_
        refine lv_iload C.1 C.2.1 dX2_upTicks_52 (lv_at hl 5 rfl) ?_
        obtain ⟨v11, ev11, h⟩ := lt_out h
        refine k_isub C ev11 dX2_upTicks_54 ?_
        obtain ⟨v12, ev12, h⟩ := lt_out h
        refine k_iadd C ev12 dX2_upTicks_55 ?_
        refine lv_istore_n (lv' := [(3, .int v12), (6, .int v7), (0, .ref (ad (5 + 14 * i + 0))), (1, .int x1), (2, .int x2), (4, .int x4), (5, .int x5)]) C.1 C.2.1 dX2_upTicks_56 rfl hl (by decide) rfl (fun ls hl => ?_)
        exact w_X2_upTicks_b57 C G hi hK8 hP hS (lv_sub hl [2, 3, 4, 0, 6, 1] rfl) h
set_option maxRecDepth 100000 in
set_option maxHeartbeats 4000000 in
theorem w_X2_upTicks_h8 {res : Int32 × SL} (C : Cx p s m args meth c cX2_upTicks 7 (some .int) RX2 wsX2_upTicks) (G : Gx D cs ad s) {i : Nat} (hi : i < 6) {Ls : Nat → SL} {Hs : SL} {T : SL} {M : SL} {dr : Int64} {hs : Int64} {o : Int64} {od : UInt64} : ∀ (n : Nat) {L : SL} {x1 : Int32} {x2 : Int32} {x3 : Int32} {x4 : Int32} {x5 : Int32} {H : Heap} {locs : List Loc} {ls : Array Slot}, va_P D vwCl (wA cs ad (va_up Ls i L) Hs T M dr hs o od) H → va_S (Afr ad s.heap.size) s.heap H locs → lv_has ls 7 [(0, .ref (ad (5 + 14 * i + 0))), (1, .int x1), (2, .int x2), (3, .int x3), (4, .int x4), (5, .int x5)] → f_X2_upTicks_h8 n L x1 x2 x3 x4 x5 = some res → W p l e rmX2_upTicks s m args below meth c H locs 0 0 (MQ below (va_Qi (fun r' (_ : Unit) => r' = res.1) (fun _ t => va_P D vwCl (wA cs ad (va_up Ls i res.2) Hs T M dr hs o od) t.heap) (Afr ad s.heap.size)) args s 0 0 (Afr ad s.heap.size)) (F0 m 8 ls []) := by
  intro n
  induction n with
  | zero => intro L x1 x2 x3 x4 x5 H locs ls hP hS hl  h; cases h
  | succ n ih => intro L x1 x2 x3 x4 x5 H locs ls hP hS hl  h; exact w_X2_upTicks_b8 C G hi  ih hP hS hl  h
set_option maxRecDepth 100000 in
set_option maxHeartbeats 4000000 in
theorem w_X2_upTicks_e {res : Int32 × SL} (C : Cx p s m args meth c cX2_upTicks 7 (some .int) RX2 wsX2_upTicks) (G : Gx D cs ad s) {i : Nat} (hi : i < 6) {Ls : Nat → SL} {Hs : SL} {T : SL} {M : SL} {dr : Int64} {hs : Int64} {o : Int64} {od : UInt64} {L : SL} {x1 : Int32} {x2 : Int32} {H : Heap} {locs : List Loc} {ls : Array Slot} (hP : va_P D vwCl (wA cs ad (va_up Ls i L) Hs T M dr hs o od) H) (hS : va_S (Afr ad s.heap.size) s.heap H locs) (hl : lv_has ls 7 [(0, .ref (ad (5 + 14 * i + 0))), (1, .int x1), (2, .int x2)]) (h : f_X2_upTicks L x1 x2 = some res) : W p l e rmX2_upTicks s m args below meth c H locs 0 0 (MQ below (va_Qi (fun r' (_ : Unit) => r' = res.1) (fun _ t => va_P D vwCl (wA cs ad (va_up Ls i res.2) Hs T M dr hs o od) t.heap) (Afr ad s.heap.size)) args s 0 0 (Afr ad s.heap.size)) (F0 m 0 ls []) := by
  unfold f_X2_upTicks at h
  refine lv_iconst (v := 0) C.1 C.2.1 dX2_upTicks_0 (by decide) ?_
  refine lv_istore_n (lv' := [(3, .int 0), (0, .ref (ad (5 + 14 * i + 0))), (1, .int x1), (2, .int x2)]) C.1 C.2.1 dX2_upTicks_1 rfl hl (by decide) rfl (fun ls hl => ?_)
  refine lv_iconst (v := 1) C.1 C.2.1 dX2_upTicks_2 (by decide) ?_
  refine lv_istore (lv' := [(4, .int 1), (3, .int 0), (0, .ref (ad (5 + 14 * i + 0))), (1, .int x1), (2, .int x2)]) C.1 C.2.1 dX2_upTicks_3 hl (by decide) rfl (fun ls hl => ?_)
  refine lv_iconst (v := 0) C.1 C.2.1 dX2_upTicks_5 (by decide) ?_
  refine lv_istore (lv' := [(5, .int 0), (4, .int 1), (3, .int 0), (0, .ref (ad (5 + 14 * i + 0))), (1, .int x1), (2, .int x2)]) C.1 C.2.1 dX2_upTicks_6 hl (by decide) rfl (fun ls hl => ?_)
  exact w_X2_upTicks_h8 C G hi fuel hP hS (lv_sub hl [3, 4, 5, 2, 1, 0] rfl) h
set_option maxRecDepth 100000 in
set_option maxHeartbeats 4000000 in
theorem m_X2_upTicks (l : Launch) {D : va_G} {cs : Nat → ClassId} {ad : Nat → Nat} (hAd : adOK ad) (sz : Nat) {i : Nat} (hi : i < 6) {Ls : Nat → SL} {Hs : SL} {T : SL} {M : SL} {dr : Int64} {hs : Int64} {o : Int64} {od : UInt64} {L : SL} {x1 : Int32} {x2 : Int32} {res : Int32 × SL} (h : f_X2_upTicks L x1 x2 = some res) : Met l yX2_upTicks wsX2_upTicks rmX2_upTicks (PA D cs sz (wA cs ad (va_up Ls i L) Hs T M dr hs o od) [.ref (ad (5 + 14 * i + 0)), .int x1, .int x2]) (va_Qi (fun r' (_ : Unit) => r' = res.1) (fun _ t => va_P D vwCl (wA cs ad (va_up Ls i res.2) Hs T M dr hs o od) t.heap) (Afr ad sz)) 0 0 (Afr ad sz) :=
  k_met (by decide) rfl (Nat.le_of_ble_eq_true rfl) hAd (fun p e s m below meth c ls C G hP hsz hl hS => by
    subst hsz
    exact w_X2_upTicks_e C G hi hP hS hl  h)
/-! X2 mostBottles -/
abbrev rmX2_mostBottles : Room := { frames := 3, cells := 0, slots := 0, locals := 75 }
theorem q_X2_mostBottles_0 : Cond.fieldLink RX2 11 "LineBuffers$Line" "rows" "[[I" ∈ wsX2_mostBottles := List.mem_of_getElem? (i := 1) rfl
theorem n_X2_mostBottles_X2 : ∀ x ∈ u_ws RX2 TX2 4, x ∈ wsX2_mostBottles := fun x h => List.mem_cons_of_mem _ (List.mem_append_left _ (List.mem_append_right _ h))
set_option maxRecDepth 100000 in
set_option maxHeartbeats 4000000 in
theorem w_X2_mostBottles_e {res : Int32 × SL} (C : Cx p s m args meth c cX2_mostBottles 4 (some .int) RX2 wsX2_mostBottles) (G : Gx D cs ad s) {i : Nat} (hi : i < 6) {Ls : Nat → SL} {Hs : SL} {T : SL} {M : SL} {dr : Int64} {hs : Int64} {o : Int64} {od : UInt64} {L : SL} {x1 : Int32} {x2 : Int32} {H : Heap} {locs : List Loc} {ls : Array Slot} (hP : va_P D vwCl (wA cs ad (va_up Ls i L) Hs T M dr hs o od) H) (hS : va_S (Afr ad s.heap.size) s.heap H locs) (hl : lv_has ls 4 [(0, .ref (ad (5 + 14 * i + 0))), (1, .int x1), (2, .int x2)]) (h : f_X2_mostBottles L x1 x2 = some res) : W p l e rmX2_mostBottles s m args below meth c H locs 0 0 (MQ below (va_Qi (fun r' (_ : Unit) => r' = res.1) (fun _ t => va_P D vwCl (wA cs ad (va_up Ls i res.2) Hs T M dr hs o od) t.heap) (Afr ad s.heap.size)) args s 0 0 (Afr ad s.heap.size)) (F0 m 0 ls []) := by
  unfold f_X2_mostBottles at h
  refine lv_aload_n C.1 C.2.1 dX2_mostBottles_0 rfl (lv_at hl 0 rfl) ?_
  refine k_getf C G hP (v_obj hi) rfl 0 (by decide) n_X2_mostBottles_X2 q_X2_mostBottles_0 (v := .ref (ad (5 + 14 * i + 1))) rfl dX2_mostBottles_1 ?_
  refine lv_iload_n C.1 C.2.1 dX2_mostBottles_4 rfl (lv_at hl 1 rfl) ?_
  obtain ⟨g1, h⟩ := gd_out h
  have g1 := chk_in g1
  obtain ⟨kq2, ekq2, h⟩ := lt_out h
  have hkq2 : 2 ≤ kq2 ∧ kq2 < 10 := row_k g1 ekq2
  refine k_aaldR C G hP (v_rows hi) g1 (b := ad (5 + 14 * i + kq2)) (by rw [ekq2]) dX2_mostBottles_5 ?_
  refine lv_iconst (v := 1) C.1 C.2.1 dX2_mostBottles_6 (by decide) ?_
  obtain ⟨v3, ev3, h⟩ := lt_out h
  refine k_iald C G hP (v_row hi hkq2) (chk_in rfl) (j := 1) rfl ev3 dX2_mostBottles_7 ?_
  refine lv_istore_n (lv' := [(3, .int v3), (0, .ref (ad (5 + 14 * i + 0))), (1, .int x1), (2, .int x2)]) C.1 C.2.1 dX2_mostBottles_8 rfl hl (by decide) rfl (fun ls hl => ?_)
  refine lv_iload_n C.1 C.2.1 dX2_mostBottles_9 rfl (lv_at hl 0 rfl) ?_
  refine lv_iconst (v := 1) C.1 C.2.1 dX2_mostBottles_10 (by decide) ?_
  refine lv_icmp_ge (tgt := 18) C.1 C.2.1 dX2_mostBottles_11 (by decide) (fun c4 => ?_) (fun c4 => ?_)
  · have h := if_t c4 h
    refine lv_aload_n C.1 C.2.1 dX2_mostBottles_18 rfl (lv_at hl 1 rfl) ?_
    refine lv_iload_n C.1 C.2.1 dX2_mostBottles_19 rfl (lv_at hl 2 rfl) ?_
    refine lv_iload_n C.1 C.2.1 dX2_mostBottles_20 rfl (lv_at hl 3 rfl) ?_
    obtain ⟨r5, L6, c7, h⟩ := bd2_out h
    refine k_callVi C G hP hS (m_X2_upTicks l G.2.1 _ hi c7) (v_obj hi) rfl (cwV 2 C.2.2.2.2.2.1 gX2_mostBottles_X2_upTicks rfl rfl rfl (by decide +kernel) ⟨Nat.le_of_ble_eq_true rfl, Nat.le_of_ble_eq_true rfl⟩) (As := [.int x1, .int x2]) rfl hl.1 rfl (Nat.le_of_ble_eq_true rfl) dX2_mostBottles_21 ⟨Nat.le_of_ble_eq_true rfl, Nat.le_of_ble_eq_true rfl⟩ (fun H locs hP hS => ?_)
    refine lv_iload_n C.1 C.2.1 dX2_mostBottles_24 rfl (lv_at hl 0 rfl) ?_
    obtain ⟨g8, h⟩ := gd_out h
    have g8 := nz_ne g8
    obtain ⟨v9, ev9, h⟩ := lt_out h
    refine k_idiv C g8 ev9 dX2_mostBottles_25 ?_
    cases h
    exact k_iret C hP hS dX2_mostBottles_26
  · have h := if_f c4 h
    refine lv_iconst (v := 0) C.1 C.2.1 dX2_mostBottles_14 (by decide) ?_
    refine lv_goto (tgt := 26) C.1 C.2.1 dX2_mostBottles_15 (by decide) ?_
    cases h
    exact k_iret C hP hS dX2_mostBottles_26
set_option maxRecDepth 100000 in
set_option maxHeartbeats 4000000 in
theorem m_X2_mostBottles (l : Launch) {D : va_G} {cs : Nat → ClassId} {ad : Nat → Nat} (hAd : adOK ad) (sz : Nat) {i : Nat} (hi : i < 6) {Ls : Nat → SL} {Hs : SL} {T : SL} {M : SL} {dr : Int64} {hs : Int64} {o : Int64} {od : UInt64} {L : SL} {x1 : Int32} {x2 : Int32} {res : Int32 × SL} (h : f_X2_mostBottles L x1 x2 = some res) : Met l yX2_mostBottles wsX2_mostBottles rmX2_mostBottles (PA D cs sz (wA cs ad (va_up Ls i L) Hs T M dr hs o od) [.ref (ad (5 + 14 * i + 0)), .int x1, .int x2]) (va_Qi (fun r' (_ : Unit) => r' = res.1) (fun _ t => va_P D vwCl (wA cs ad (va_up Ls i res.2) Hs T M dr hs o od) t.heap) (Afr ad sz)) 0 0 (Afr ad sz) :=
  k_met (by decide) rfl (Nat.le_of_ble_eq_true rfl) hAd (fun p e s m below meth c ls C G hP hsz hl hS => by
    subst hsz
    exact w_X2_mostBottles_e C G hi hP hS hl  h)
/-! X2 findSlowest -/
abbrev rmX2_findSlowest : Room := { frames := 4, cells := 0, slots := 0, locals := 98 }
theorem q_X2_findSlowest_0 : Cond.constant RX2 81 (2147483647) ∈ wsX2_findSlowest := List.mem_of_getElem? (i := 1) rfl
theorem q_X2_findSlowest_1 : Cond.fieldLink RX2 23 "LineBuffers$Line" "machines" "I" ∈ wsX2_findSlowest := List.mem_of_getElem? (i := 2) rfl
theorem n_X2_findSlowest_X2 : ∀ x ∈ u_ws RX2 TX2 4, x ∈ wsX2_findSlowest := fun x h => List.mem_cons_of_mem _ (List.mem_append_left _ (List.mem_append_right _ h))
set_option maxRecDepth 100000 in
set_option maxHeartbeats 4000000 in
theorem w_X2_findSlowest_b38 {res : Int32 × SL} (C : Cx p s m args meth c cX2_findSlowest 6 (some .int) RX2 wsX2_findSlowest) (G : Gx D cs ad s) {i : Nat} (hi : i < 6) {Ls : Nat → SL} {Hs : SL} {T : SL} {M : SL} {dr : Int64} {hs : Int64} {o : Int64} {od : UInt64} {K8 : SL → Int32 → Int32 → Int32 → Int32 → Option (Int32 × SL)} (hK8 : ∀ {L : SL} {x1 : Int32} {x2 : Int32} {x3 : Int32} {x4 : Int32} {H : Heap} {locs : List Loc} {ls : Array Slot}, va_P D vwCl (wA cs ad (va_up Ls i L) Hs T M dr hs o od) H → va_S (Afr ad s.heap.size) s.heap H locs → lv_has ls 6 [(0, .ref (ad (5 + 14 * i + 0))), (1, .int x1), (2, .int x2), (3, .int x3), (4, .int x4)] → K8 L x1 x2 x3 x4 = some res → W p l e rmX2_findSlowest s m args below meth c H locs 0 0 (MQ below (va_Qi (fun r' (_ : Unit) => r' = res.1) (fun _ t => va_P D vwCl (wA cs ad (va_up Ls i res.2) Hs T M dr hs o od) t.heap) (Afr ad s.heap.size)) args s 0 0 (Afr ad s.heap.size)) (F0 m 8 ls [])) {L : SL} {x1 : Int32} {x2 : Int32} {x3 : Int32} {x4 : Int32} {H : Heap} {locs : List Loc} {ls : Array Slot} (hP : va_P D vwCl (wA cs ad (va_up Ls i L) Hs T M dr hs o od) H) (hS : va_S (Afr ad s.heap.size) s.heap H locs) (hl : lv_has ls 6 [(0, .ref (ad (5 + 14 * i + 0))), (1, .int x1), (2, .int x2), (3, .int x3), (4, .int x4)]) (h : f_X2_findSlowest_b38 K8 L x1 x2 x3 x4 = some res) : W p l e rmX2_findSlowest s m args below meth c H locs 0 0 (MQ below (va_Qi (fun r' (_ : Unit) => r' = res.1) (fun _ t => va_P D vwCl (wA cs ad (va_up Ls i res.2) Hs T M dr hs o od) t.heap) (Afr ad s.heap.size)) args s 0 0 (Afr ad s.heap.size)) (F0 m 38 ls []) := by
  unfold f_X2_findSlowest_b38 at h
  obtain ⟨z1, ez1, h⟩ := lt_out h
  refine lv_iinc (v := z1) (lv' := [(4, .int z1), (0, .ref (ad (5 + 14 * i + 0))), (1, .int x1), (2, .int x2), (3, .int x3)]) C.1 C.2.1 dX2_findSlowest_38 hl (k := 4) rfl (by rw [ez1]; rfl) (by decide) rfl (fun ls hl => ?_)
  refine lv_goto (tgt := 8) C.1 C.2.1 dX2_findSlowest_41 (by decide) ?_
  exact hK8 hP hS (lv_sub hl [1, 2, 3, 4, 0] rfl)  h
set_option maxRecDepth 100000 in
set_option maxHeartbeats 4000000 in
theorem w_X2_findSlowest_b8 {res : Int32 × SL} (C : Cx p s m args meth c cX2_findSlowest 6 (some .int) RX2 wsX2_findSlowest) (G : Gx D cs ad s) {i : Nat} (hi : i < 6) {Ls : Nat → SL} {Hs : SL} {T : SL} {M : SL} {dr : Int64} {hs : Int64} {o : Int64} {od : UInt64} {K8 : SL → Int32 → Int32 → Int32 → Int32 → Option (Int32 × SL)} (hK8 : ∀ {L : SL} {x1 : Int32} {x2 : Int32} {x3 : Int32} {x4 : Int32} {H : Heap} {locs : List Loc} {ls : Array Slot}, va_P D vwCl (wA cs ad (va_up Ls i L) Hs T M dr hs o od) H → va_S (Afr ad s.heap.size) s.heap H locs → lv_has ls 6 [(0, .ref (ad (5 + 14 * i + 0))), (1, .int x1), (2, .int x2), (3, .int x3), (4, .int x4)] → K8 L x1 x2 x3 x4 = some res → W p l e rmX2_findSlowest s m args below meth c H locs 0 0 (MQ below (va_Qi (fun r' (_ : Unit) => r' = res.1) (fun _ t => va_P D vwCl (wA cs ad (va_up Ls i res.2) Hs T M dr hs o od) t.heap) (Afr ad s.heap.size)) args s 0 0 (Afr ad s.heap.size)) (F0 m 8 ls [])) {L : SL} {x1 : Int32} {x2 : Int32} {x3 : Int32} {x4 : Int32} {H : Heap} {locs : List Loc} {ls : Array Slot} (hP : va_P D vwCl (wA cs ad (va_up Ls i L) Hs T M dr hs o od) H) (hS : va_S (Afr ad s.heap.size) s.heap H locs) (hl : lv_has ls 6 [(0, .ref (ad (5 + 14 * i + 0))), (1, .int x1), (2, .int x2), (3, .int x3), (4, .int x4)]) (h : f_X2_findSlowest_b8 K8 L x1 x2 x3 x4 = some res) : W p l e rmX2_findSlowest s m args below meth c H locs 0 0 (MQ below (va_Qi (fun r' (_ : Unit) => r' = res.1) (fun _ t => va_P D vwCl (wA cs ad (va_up Ls i res.2) Hs T M dr hs o od) t.heap) (Afr ad s.heap.size)) args s 0 0 (Afr ad s.heap.size)) (F0 m 8 ls []) := by
  unfold f_X2_findSlowest_b8 at h
  refine lv_iload C.1 C.2.1 dX2_findSlowest_8 (lv_at hl 4 rfl) ?_
  refine lv_aload_n C.1 C.2.1 dX2_findSlowest_10 rfl (lv_at hl 0 rfl) ?_
  obtain ⟨v1, ev1, h⟩ := lt_out h
  refine k_geti C G hP (v_obj hi) rfl 2 (by decide) n_X2_findSlowest_X2 q_X2_findSlowest_1 rfl ev1 dX2_findSlowest_11 ?_
  refine lv_icmp_ge (tgt := 44) C.1 C.2.1 dX2_findSlowest_14 (by decide) (fun c2 => ?_) (fun c2 => ?_)
  · have h := if_t c2 h
    refine lv_iload_n C.1 C.2.1 dX2_findSlowest_44 rfl (lv_at hl 2 rfl) ?_
    cases h
    exact k_iret C hP hS dX2_findSlowest_45
  · have h := if_f c2 h
    refine lv_aload_n C.1 C.2.1 dX2_findSlowest_17 rfl (lv_at hl 0 rfl) ?_
    refine lv_iload C.1 C.2.1 dX2_findSlowest_18 (lv_at hl 4 rfl) ?_
    refine lv_iload_n C.1 C.2.1 dX2_findSlowest_20 rfl (lv_at hl 1 rfl) ?_
    obtain ⟨r3, L4, c5, h⟩ := bd2_out h
    refine k_callVi C G hP hS (m_X2_mostBottles l G.2.1 _ hi c5) (v_obj hi) rfl (cwV 2 C.2.2.2.2.2.1 gX2_findSlowest_X2_mostBottles rfl rfl rfl (by decide +kernel) ⟨Nat.le_of_ble_eq_true rfl, Nat.le_of_ble_eq_true rfl⟩) (As := [.int x4, .int x1]) rfl hl.1 rfl (Nat.le_of_ble_eq_true rfl) dX2_findSlowest_21 ⟨Nat.le_of_ble_eq_true rfl, Nat.le_of_ble_eq_true rfl⟩ (fun H locs hP hS => ?_)
    refine lv_istore (lv' := [(5, .int r3), (0, .ref (ad (5 + 14 * i + 0))), (1, .int x1), (2, .int x2), (3, .int x3), (4, .int x4)]) C.1 C.2.1 dX2_findSlowest_24 hl (by decide) rfl (fun ls hl => ?_)
    refine lv_iload C.1 C.2.1 dX2_findSlowest_26 (lv_at hl 0 rfl) ?_
    refine lv_iload_n C.1 C.2.1 dX2_findSlowest_28 rfl (lv_at hl 4 rfl) ?_
    refine lv_icmp_ge (tgt := 38) C.1 C.2.1 dX2_findSlowest_29 (by decide) (fun c6 => ?_) (fun c6 => ?_)
    · have h := if_t c6 h
      exact w_X2_findSlowest_b38 C G hi hK8 hP hS (lv_sub hl [1, 2, 3, 4, 5] rfl) h
    · have h := if_f c6 h
      refine lv_iload C.1 C.2.1 dX2_findSlowest_32 (lv_at hl 0 rfl) ?_
      refine lv_istore_n (lv' := [(3, .int r3), (5, .int r3), (0, .ref (ad (5 + 14 * i + 0))), (1, .int x1), (2, .int x2), (4, .int x4)]) C.1 C.2.1 dX2_findSlowest_34 rfl hl (by decide) rfl (fun ls hl => ?_)
      refine lv_iload C.1 C.2.1 dX2_findSlowest_35 (lv_at hl 5 rfl) ?_
      refine lv_istore_n (lv' := [(2, .int x4), (3, .int r3), (5, .int r3), (0, .ref (ad (5 + 14 * i + 0))), (1, .int x1), (4, .int x4)]) C.1 C.2.1 dX2_findSlowest_37 rfl hl (by decide) rfl (fun ls hl => ?_)
      exact w_X2_findSlowest_b38 C G hi hK8 hP hS (lv_sub hl [3, 4, 0, 1, 5] rfl) h
set_option maxRecDepth 100000 in
set_option maxHeartbeats 4000000 in
theorem w_X2_findSlowest_h8 {res : Int32 × SL} (C : Cx p s m args meth c cX2_findSlowest 6 (some .int) RX2 wsX2_findSlowest) (G : Gx D cs ad s) {i : Nat} (hi : i < 6) {Ls : Nat → SL} {Hs : SL} {T : SL} {M : SL} {dr : Int64} {hs : Int64} {o : Int64} {od : UInt64} : ∀ (n : Nat) {L : SL} {x1 : Int32} {x2 : Int32} {x3 : Int32} {x4 : Int32} {H : Heap} {locs : List Loc} {ls : Array Slot}, va_P D vwCl (wA cs ad (va_up Ls i L) Hs T M dr hs o od) H → va_S (Afr ad s.heap.size) s.heap H locs → lv_has ls 6 [(0, .ref (ad (5 + 14 * i + 0))), (1, .int x1), (2, .int x2), (3, .int x3), (4, .int x4)] → f_X2_findSlowest_h8 n L x1 x2 x3 x4 = some res → W p l e rmX2_findSlowest s m args below meth c H locs 0 0 (MQ below (va_Qi (fun r' (_ : Unit) => r' = res.1) (fun _ t => va_P D vwCl (wA cs ad (va_up Ls i res.2) Hs T M dr hs o od) t.heap) (Afr ad s.heap.size)) args s 0 0 (Afr ad s.heap.size)) (F0 m 8 ls []) := by
  intro n
  induction n with
  | zero => intro L x1 x2 x3 x4 H locs ls hP hS hl  h; cases h
  | succ n ih => intro L x1 x2 x3 x4 H locs ls hP hS hl  h; exact w_X2_findSlowest_b8 C G hi  ih hP hS hl  h
set_option maxRecDepth 100000 in
set_option maxHeartbeats 4000000 in
theorem w_X2_findSlowest_e {res : Int32 × SL} (C : Cx p s m args meth c cX2_findSlowest 6 (some .int) RX2 wsX2_findSlowest) (G : Gx D cs ad s) {i : Nat} (hi : i < 6) {Ls : Nat → SL} {Hs : SL} {T : SL} {M : SL} {dr : Int64} {hs : Int64} {o : Int64} {od : UInt64} {L : SL} {x1 : Int32} {H : Heap} {locs : List Loc} {ls : Array Slot} (hP : va_P D vwCl (wA cs ad (va_up Ls i L) Hs T M dr hs o od) H) (hS : va_S (Afr ad s.heap.size) s.heap H locs) (hl : lv_has ls 6 [(0, .ref (ad (5 + 14 * i + 0))), (1, .int x1)]) (h : f_X2_findSlowest L x1 = some res) : W p l e rmX2_findSlowest s m args below meth c H locs 0 0 (MQ below (va_Qi (fun r' (_ : Unit) => r' = res.1) (fun _ t => va_P D vwCl (wA cs ad (va_up Ls i res.2) Hs T M dr hs o od) t.heap) (Afr ad s.heap.size)) args s 0 0 (Afr ad s.heap.size)) (F0 m 0 ls []) := by
  unfold f_X2_findSlowest at h
  refine lv_iconst (v := 0) C.1 C.2.1 dX2_findSlowest_0 (by decide) ?_
  refine lv_istore_n (lv' := [(2, .int 0), (0, .ref (ad (5 + 14 * i + 0))), (1, .int x1)]) C.1 C.2.1 dX2_findSlowest_1 rfl hl (by decide) rfl (fun ls hl => ?_)
  refine k_ldci C G q_X2_findSlowest_0 dX2_findSlowest_2 ?_
  refine lv_istore_n (lv' := [(3, .int 2147483647), (2, .int 0), (0, .ref (ad (5 + 14 * i + 0))), (1, .int x1)]) C.1 C.2.1 dX2_findSlowest_4 rfl hl (by decide) rfl (fun ls hl => ?_)
  refine lv_iconst (v := 0) C.1 C.2.1 dX2_findSlowest_5 (by decide) ?_
  refine lv_istore (lv' := [(4, .int 0), (3, .int 2147483647), (2, .int 0), (0, .ref (ad (5 + 14 * i + 0))), (1, .int x1)]) C.1 C.2.1 dX2_findSlowest_6 hl (by decide) rfl (fun ls hl => ?_)
  exact w_X2_findSlowest_h8 C G hi fuel hP hS (lv_sub hl [3, 4, 2, 1, 0] rfl) h
set_option maxRecDepth 100000 in
set_option maxHeartbeats 4000000 in
theorem m_X2_findSlowest (l : Launch) {D : va_G} {cs : Nat → ClassId} {ad : Nat → Nat} (hAd : adOK ad) (sz : Nat) {i : Nat} (hi : i < 6) {Ls : Nat → SL} {Hs : SL} {T : SL} {M : SL} {dr : Int64} {hs : Int64} {o : Int64} {od : UInt64} {L : SL} {x1 : Int32} {res : Int32 × SL} (h : f_X2_findSlowest L x1 = some res) : Met l yX2_findSlowest wsX2_findSlowest rmX2_findSlowest (PA D cs sz (wA cs ad (va_up Ls i L) Hs T M dr hs o od) [.ref (ad (5 + 14 * i + 0)), .int x1]) (va_Qi (fun r' (_ : Unit) => r' = res.1) (fun _ t => va_P D vwCl (wA cs ad (va_up Ls i res.2) Hs T M dr hs o od) t.heap) (Afr ad sz)) 0 0 (Afr ad sz) :=
  k_met (by decide) rfl (Nat.le_of_ble_eq_true rfl) hAd (fun p e s m below meth c ls C G hP hsz hl hS => by
    subst hsz
    exact w_X2_findSlowest_e C G hi hP hS hl  h)
/-! X2 mixInto -/
abbrev rmX2_mixInto : Room := { frames := 1, cells := 0, slots := 0, locals := 20 }
theorem q_X2_mixInto_0 : Cond.constantLong RX2 94 (31) ∈ wsX2_mixInto := List.mem_of_getElem? (i := 1) rfl
theorem q_X2_mixInto_1 : Cond.fieldLink RX2 37 "LineBuffers$Line" "tick" "I" ∈ wsX2_mixInto := List.mem_of_getElem? (i := 2) rfl
theorem q_X2_mixInto_2 : Cond.fieldLink RX2 23 "LineBuffers$Line" "machines" "I" ∈ wsX2_mixInto := List.mem_of_getElem? (i := 3) rfl
theorem q_X2_mixInto_3 : Cond.fieldLink RX2 11 "LineBuffers$Line" "rows" "[[I" ∈ wsX2_mixInto := List.mem_of_getElem? (i := 4) rfl
theorem n_X2_mixInto_X2 : ∀ x ∈ u_ws RX2 TX2 4, x ∈ wsX2_mixInto := fun x h => List.mem_cons_of_mem _ (List.mem_append_right _ h)
set_option maxRecDepth 100000 in
set_option maxHeartbeats 4000000 in
theorem w_X2_mixInto_b51 {res : Int64} (C : Cx p s m args meth c cX2_mixInto 7 (some .long) RX2 wsX2_mixInto) (G : Gx D cs ad s) {i : Nat} (hi : i < 6) {Ls : Nat → SL} {Hs : SL} {T : SL} {M : SL} {dr : Int64} {hs : Int64} {o : Int64} {od : UInt64} {L : SL} {K39 : SL → Int64 → Int32 → Option (Int64)} (hK39 : ∀ {y3 : Int64} {x5 : Int32} {H : Heap} {locs : List Loc} {ls : Array Slot}, va_P D vwCl (wA cs ad (va_up Ls i L) Hs T M dr hs o od) H → va_S (Afr ad s.heap.size) s.heap H locs → lv_has ls 7 [(0, .ref (ad (5 + 14 * i + 0))), (3, .long y3), (5, .int x5)] → K39 L y3 x5 = some res → W p l e rmX2_mixInto s m args below meth c H locs 0 0 (MQ below (va_Ql (fun r' (_ : Unit) => r' = res) (fun _ t => va_P D vwCl (wA cs ad (va_up Ls i L) Hs T M dr hs o od) t.heap) (Afr ad s.heap.size)) args s 0 0 (Afr ad s.heap.size)) (F0 m 39 ls [])) {K51 : SL → Int64 → Int32 → Int32 → Option (Int64)} (hK51 : ∀ {y3 : Int64} {x5 : Int32} {x6 : Int32} {H : Heap} {locs : List Loc} {ls : Array Slot}, va_P D vwCl (wA cs ad (va_up Ls i L) Hs T M dr hs o od) H → va_S (Afr ad s.heap.size) s.heap H locs → lv_has ls 7 [(0, .ref (ad (5 + 14 * i + 0))), (3, .long y3), (5, .int x5), (6, .int x6)] → K51 L y3 x5 x6 = some res → W p l e rmX2_mixInto s m args below meth c H locs 0 0 (MQ below (va_Ql (fun r' (_ : Unit) => r' = res) (fun _ t => va_P D vwCl (wA cs ad (va_up Ls i L) Hs T M dr hs o od) t.heap) (Afr ad s.heap.size)) args s 0 0 (Afr ad s.heap.size)) (F0 m 51 ls [])) {y3 : Int64} {x5 : Int32} {x6 : Int32} {H : Heap} {locs : List Loc} {ls : Array Slot} (hP : va_P D vwCl (wA cs ad (va_up Ls i L) Hs T M dr hs o od) H) (hS : va_S (Afr ad s.heap.size) s.heap H locs) (hl : lv_has ls 7 [(0, .ref (ad (5 + 14 * i + 0))), (3, .long y3), (5, .int x5), (6, .int x6)]) (h : f_X2_mixInto_b51 K39 K51 L y3 x5 x6 = some res) : W p l e rmX2_mixInto s m args below meth c H locs 0 0 (MQ below (va_Ql (fun r' (_ : Unit) => r' = res) (fun _ t => va_P D vwCl (wA cs ad (va_up Ls i L) Hs T M dr hs o od) t.heap) (Afr ad s.heap.size)) args s 0 0 (Afr ad s.heap.size)) (F0 m 51 ls []) := by
  unfold f_X2_mixInto_b51 at h
  refine lv_iload C.1 C.2.1 dX2_mixInto_51 (lv_at hl 3 rfl) ?_
  refine lv_bipush (v := 15) C.1 C.2.1 dX2_mixInto_53 (by decide) ?_
  refine lv_icmp_ge (tgt := 82) C.1 C.2.1 dX2_mixInto_55 (by decide) (fun c1 => ?_) (fun c1 => ?_)
  · have h := if_t c1 h
    obtain ⟨z2, ez2, h⟩ := lt_out h
    refine lv_iinc (v := z2) (lv' := [(5, .int z2), (0, .ref (ad (5 + 14 * i + 0))), (3, .long y3), (6, .int x6)]) C.1 C.2.1 dX2_mixInto_82 hl (k := 2) rfl (by rw [ez2]; rfl) (by decide) rfl (fun ls hl => ?_)
    refine lv_goto (tgt := 39) C.1 C.2.1 dX2_mixInto_85 (by decide) ?_
    exact hK39 hP hS (lv_sub hl [1, 2, 0] rfl)  h
  · have h := if_f c1 h
    refine k_ldcl C G q_X2_mixInto_0 dX2_mixInto_58 ?_
    refine lv_lload_n C.1 C.2.1 dX2_mixInto_61 rfl (lv_at hl 1 rfl) ?_
    obtain ⟨w3, ew3, h⟩ := lt_out h
    refine k_lmul C ew3 dX2_mixInto_62 ?_
    refine lv_aload_n C.1 C.2.1 dX2_mixInto_63 rfl (lv_at hl 0 rfl) ?_
    refine k_getf C G hP (v_obj hi) rfl 0 (by decide) n_X2_mixInto_X2 q_X2_mixInto_3 (v := .ref (ad (5 + 14 * i + 1))) rfl dX2_mixInto_64 ?_
    refine lv_iload C.1 C.2.1 dX2_mixInto_67 (lv_at hl 2 rfl) ?_
    obtain ⟨g4, h⟩ := gd_out h
    have g4 := chk_in g4
    obtain ⟨kq5, ekq5, h⟩ := lt_out h
    have hkq5 : 2 ≤ kq5 ∧ kq5 < 10 := row_k g4 ekq5
    refine k_aaldR C G hP (v_rows hi) g4 (b := ad (5 + 14 * i + kq5)) (by rw [ekq5]) dX2_mixInto_69 ?_
    refine lv_iload C.1 C.2.1 dX2_mixInto_70 (lv_at hl 3 rfl) ?_
    obtain ⟨g6, h⟩ := gd_out h
    have g6 := chk_in g6
    obtain ⟨v7, ev7, h⟩ := lt_out h
    refine k_iald C G hP (v_row hi hkq5) g6 (j := x6.toNatClampNeg) rfl ev7 dX2_mixInto_72 ?_
    obtain ⟨w8, ew8, h⟩ := lt_out h
    refine k_i2l C ew8 dX2_mixInto_73 ?_
    obtain ⟨w9, ew9, h⟩ := lt_out h
    refine k_ladd C ew9 dX2_mixInto_74 ?_
    refine lv_lstore_n (lv' := [(3, .long w9), (0, .ref (ad (5 + 14 * i + 0))), (5, .int x5), (6, .int x6)]) C.1 C.2.1 dX2_mixInto_75 rfl hl (by decide) rfl (fun ls hl => ?_)
    obtain ⟨z10, ez10, h⟩ := lt_out h
    refine lv_iinc (v := z10) (lv' := [(6, .int z10), (3, .long w9), (0, .ref (ad (5 + 14 * i + 0))), (5, .int x5)]) C.1 C.2.1 dX2_mixInto_76 hl (k := 3) rfl (by rw [ez10]; rfl) (by decide) rfl (fun ls hl => ?_)
    refine lv_goto (tgt := 51) C.1 C.2.1 dX2_mixInto_79 (by decide) ?_
    exact hK51 hP hS (lv_sub hl [2, 1, 3, 0] rfl)  h
set_option maxRecDepth 100000 in
set_option maxHeartbeats 4000000 in
theorem w_X2_mixInto_h51 {res : Int64} (C : Cx p s m args meth c cX2_mixInto 7 (some .long) RX2 wsX2_mixInto) (G : Gx D cs ad s) {i : Nat} (hi : i < 6) {Ls : Nat → SL} {Hs : SL} {T : SL} {M : SL} {dr : Int64} {hs : Int64} {o : Int64} {od : UInt64} {L : SL} {K39 : SL → Int64 → Int32 → Option (Int64)} (hK39 : ∀ {y3 : Int64} {x5 : Int32} {H : Heap} {locs : List Loc} {ls : Array Slot}, va_P D vwCl (wA cs ad (va_up Ls i L) Hs T M dr hs o od) H → va_S (Afr ad s.heap.size) s.heap H locs → lv_has ls 7 [(0, .ref (ad (5 + 14 * i + 0))), (3, .long y3), (5, .int x5)] → K39 L y3 x5 = some res → W p l e rmX2_mixInto s m args below meth c H locs 0 0 (MQ below (va_Ql (fun r' (_ : Unit) => r' = res) (fun _ t => va_P D vwCl (wA cs ad (va_up Ls i L) Hs T M dr hs o od) t.heap) (Afr ad s.heap.size)) args s 0 0 (Afr ad s.heap.size)) (F0 m 39 ls [])) : ∀ (n : Nat) {y3 : Int64} {x5 : Int32} {x6 : Int32} {H : Heap} {locs : List Loc} {ls : Array Slot}, va_P D vwCl (wA cs ad (va_up Ls i L) Hs T M dr hs o od) H → va_S (Afr ad s.heap.size) s.heap H locs → lv_has ls 7 [(0, .ref (ad (5 + 14 * i + 0))), (3, .long y3), (5, .int x5), (6, .int x6)] → f_X2_mixInto_h51 K39 n L y3 x5 x6 = some res → W p l e rmX2_mixInto s m args below meth c H locs 0 0 (MQ below (va_Ql (fun r' (_ : Unit) => r' = res) (fun _ t => va_P D vwCl (wA cs ad (va_up Ls i L) Hs T M dr hs o od) t.heap) (Afr ad s.heap.size)) args s 0 0 (Afr ad s.heap.size)) (F0 m 51 ls []) := by
  intro n
  induction n with
  | zero => intro  y3 x5 x6 H locs ls hP hS hl  h; cases h
  | succ n ih => intro  y3 x5 x6 H locs ls hP hS hl  h; exact w_X2_mixInto_b51 C G hi hK39 ih hP hS hl  h
set_option maxRecDepth 100000 in
set_option maxHeartbeats 4000000 in
theorem w_X2_mixInto_b39 {res : Int64} (C : Cx p s m args meth c cX2_mixInto 7 (some .long) RX2 wsX2_mixInto) (G : Gx D cs ad s) {i : Nat} (hi : i < 6) {Ls : Nat → SL} {Hs : SL} {T : SL} {M : SL} {dr : Int64} {hs : Int64} {o : Int64} {od : UInt64} {L : SL} {K39 : SL → Int64 → Int32 → Option (Int64)} (hK39 : ∀ {y3 : Int64} {x5 : Int32} {H : Heap} {locs : List Loc} {ls : Array Slot}, va_P D vwCl (wA cs ad (va_up Ls i L) Hs T M dr hs o od) H → va_S (Afr ad s.heap.size) s.heap H locs → lv_has ls 7 [(0, .ref (ad (5 + 14 * i + 0))), (3, .long y3), (5, .int x5)] → K39 L y3 x5 = some res → W p l e rmX2_mixInto s m args below meth c H locs 0 0 (MQ below (va_Ql (fun r' (_ : Unit) => r' = res) (fun _ t => va_P D vwCl (wA cs ad (va_up Ls i L) Hs T M dr hs o od) t.heap) (Afr ad s.heap.size)) args s 0 0 (Afr ad s.heap.size)) (F0 m 39 ls [])) {y3 : Int64} {x5 : Int32} {H : Heap} {locs : List Loc} {ls : Array Slot} (hP : va_P D vwCl (wA cs ad (va_up Ls i L) Hs T M dr hs o od) H) (hS : va_S (Afr ad s.heap.size) s.heap H locs) (hl : lv_has ls 7 [(0, .ref (ad (5 + 14 * i + 0))), (3, .long y3), (5, .int x5)]) (h : f_X2_mixInto_b39 K39 L y3 x5 = some res) : W p l e rmX2_mixInto s m args below meth c H locs 0 0 (MQ below (va_Ql (fun r' (_ : Unit) => r' = res) (fun _ t => va_P D vwCl (wA cs ad (va_up Ls i L) Hs T M dr hs o od) t.heap) (Afr ad s.heap.size)) args s 0 0 (Afr ad s.heap.size)) (F0 m 39 ls []) := by
  unfold f_X2_mixInto_b39 at h
  refine lv_iload C.1 C.2.1 dX2_mixInto_39 (lv_at hl 2 rfl) ?_
  refine lv_aload_n C.1 C.2.1 dX2_mixInto_41 rfl (lv_at hl 0 rfl) ?_
  obtain ⟨v1, ev1, h⟩ := lt_out h
  refine k_geti C G hP (v_obj hi) rfl 2 (by decide) n_X2_mixInto_X2 q_X2_mixInto_2 rfl ev1 dX2_mixInto_42 ?_
  refine lv_icmp_ge (tgt := 88) C.1 C.2.1 dX2_mixInto_45 (by decide) (fun c2 => ?_) (fun c2 => ?_)
  · have h := if_t c2 h
    refine lv_lload_n C.1 C.2.1 dX2_mixInto_88 rfl (lv_at hl 1 rfl) ?_
    cases h
    exact k_lret C hP hS dX2_mixInto_89
  · have h := if_f c2 h
    refine lv_iconst (v := 0) C.1 C.2.1 dX2_mixInto_48 (by decide) ?_
    refine lv_istore (lv' := [(6, .int 0), (0, .ref (ad (5 + 14 * i + 0))), (3, .long y3), (5, .int x5)]) C.1 C.2.1 dX2_mixInto_49 hl (by decide) rfl (fun ls hl => ?_)
    exact w_X2_mixInto_h51 C G hi hK39 fuel hP hS (lv_sub hl [1, 2, 3, 0] rfl) h
set_option maxRecDepth 100000 in
set_option maxHeartbeats 4000000 in
theorem w_X2_mixInto_h39 {res : Int64} (C : Cx p s m args meth c cX2_mixInto 7 (some .long) RX2 wsX2_mixInto) (G : Gx D cs ad s) {i : Nat} (hi : i < 6) {Ls : Nat → SL} {Hs : SL} {T : SL} {M : SL} {dr : Int64} {hs : Int64} {o : Int64} {od : UInt64} {L : SL} : ∀ (n : Nat) {y3 : Int64} {x5 : Int32} {H : Heap} {locs : List Loc} {ls : Array Slot}, va_P D vwCl (wA cs ad (va_up Ls i L) Hs T M dr hs o od) H → va_S (Afr ad s.heap.size) s.heap H locs → lv_has ls 7 [(0, .ref (ad (5 + 14 * i + 0))), (3, .long y3), (5, .int x5)] → f_X2_mixInto_h39 n L y3 x5 = some res → W p l e rmX2_mixInto s m args below meth c H locs 0 0 (MQ below (va_Ql (fun r' (_ : Unit) => r' = res) (fun _ t => va_P D vwCl (wA cs ad (va_up Ls i L) Hs T M dr hs o od) t.heap) (Afr ad s.heap.size)) args s 0 0 (Afr ad s.heap.size)) (F0 m 39 ls []) := by
  intro n
  induction n with
  | zero => intro  y3 x5 H locs ls hP hS hl  h; cases h
  | succ n ih => intro  y3 x5 H locs ls hP hS hl  h; exact w_X2_mixInto_b39 C G hi  ih hP hS hl  h
set_option maxRecDepth 100000 in
set_option maxHeartbeats 4000000 in
theorem w_X2_mixInto_e {res : Int64} (C : Cx p s m args meth c cX2_mixInto 7 (some .long) RX2 wsX2_mixInto) (G : Gx D cs ad s) {i : Nat} (hi : i < 6) {Ls : Nat → SL} {Hs : SL} {T : SL} {M : SL} {dr : Int64} {hs : Int64} {o : Int64} {od : UInt64} {L : SL} {y1 : Int64} {H : Heap} {locs : List Loc} {ls : Array Slot} (hP : va_P D vwCl (wA cs ad (va_up Ls i L) Hs T M dr hs o od) H) (hS : va_S (Afr ad s.heap.size) s.heap H locs) (hl : lv_has ls 7 [(0, .ref (ad (5 + 14 * i + 0))), (1, .long y1)]) (h : f_X2_mixInto L y1 = some res) : W p l e rmX2_mixInto s m args below meth c H locs 0 0 (MQ below (va_Ql (fun r' (_ : Unit) => r' = res) (fun _ t => va_P D vwCl (wA cs ad (va_up Ls i L) Hs T M dr hs o od) t.heap) (Afr ad s.heap.size)) args s 0 0 (Afr ad s.heap.size)) (F0 m 0 ls []) := by
  unfold f_X2_mixInto at h
  refine k_ldcl C G q_X2_mixInto_0 dX2_mixInto_0 ?_
  refine lv_lload_n C.1 C.2.1 dX2_mixInto_3 rfl (lv_at hl 1 rfl) ?_
  obtain ⟨w1, ew1, h⟩ := lt_out h
  refine k_lmul C ew1 dX2_mixInto_4 ?_
  refine lv_aload_n C.1 C.2.1 dX2_mixInto_5 rfl (lv_at hl 0 rfl) ?_
  obtain ⟨v2, ev2, h⟩ := lt_out h
  refine k_geti C G hP (v_obj hi) rfl 3 (by decide) n_X2_mixInto_X2 q_X2_mixInto_1 rfl ev2 dX2_mixInto_6 ?_
  obtain ⟨w3, ew3, h⟩ := lt_out h
  refine k_i2l C ew3 dX2_mixInto_9 ?_
  obtain ⟨w4, ew4, h⟩ := lt_out h
  refine k_ladd C ew4 dX2_mixInto_10 ?_
  refine lv_lstore_n (lv' := [(3, .long w4), (0, .ref (ad (5 + 14 * i + 0))), (1, .long y1)]) C.1 C.2.1 dX2_mixInto_11 rfl hl (by decide) rfl (fun ls hl => ?_)
  refine k_ldcl C G q_X2_mixInto_0 dX2_mixInto_12 ?_
  refine lv_lload_n C.1 C.2.1 dX2_mixInto_15 rfl (lv_at hl 0 rfl) ?_
  obtain ⟨w5, ew5, h⟩ := lt_out h
  refine k_lmul C ew5 dX2_mixInto_16 ?_
  refine lv_aload_n C.1 C.2.1 dX2_mixInto_17 rfl (lv_at hl 1 rfl) ?_
  obtain ⟨r6, c7, h⟩ := bd_out h
  refine k_callVi C G hP hS (m_X2_bottlesOut l G.2.1 _ hi c7) (v_obj hi) rfl (cwV 0 C.2.2.2.2.2.1 gX2_mixInto_X2_bottlesOut rfl rfl rfl (by decide +kernel) ⟨Nat.le_of_ble_eq_true rfl, Nat.le_of_ble_eq_true rfl⟩) (As := []) rfl hl.1 rfl (Nat.le_of_ble_eq_true rfl) dX2_mixInto_18 ⟨Nat.le_of_ble_eq_true rfl, Nat.le_of_ble_eq_true rfl⟩ (fun H locs hP hS => ?_)
  obtain ⟨w8, ew8, h⟩ := lt_out h
  refine k_i2l C ew8 dX2_mixInto_21 ?_
  obtain ⟨w9, ew9, h⟩ := lt_out h
  refine k_ladd C ew9 dX2_mixInto_22 ?_
  refine lv_lstore_n (lv' := [(3, .long w9), (0, .ref (ad (5 + 14 * i + 0))), (1, .long y1)]) C.1 C.2.1 dX2_mixInto_23 rfl hl (by decide) rfl (fun ls hl => ?_)
  refine k_ldcl C G q_X2_mixInto_0 dX2_mixInto_24 ?_
  refine lv_lload_n C.1 C.2.1 dX2_mixInto_27 rfl (lv_at hl 0 rfl) ?_
  obtain ⟨w10, ew10, h⟩ := lt_out h
  refine k_lmul C ew10 dX2_mixInto_28 ?_
  refine lv_aload_n C.1 C.2.1 dX2_mixInto_29 rfl (lv_at hl 1 rfl) ?_
  obtain ⟨v11, ev11, h⟩ := lt_out h
  refine k_geti C G hP (v_obj hi) rfl 2 (by decide) n_X2_mixInto_X2 q_X2_mixInto_2 rfl ev11 dX2_mixInto_30 ?_
  obtain ⟨w12, ew12, h⟩ := lt_out h
  refine k_i2l C ew12 dX2_mixInto_33 ?_
  obtain ⟨w13, ew13, h⟩ := lt_out h
  refine k_ladd C ew13 dX2_mixInto_34 ?_
  refine lv_lstore_n (lv' := [(3, .long w13), (0, .ref (ad (5 + 14 * i + 0))), (1, .long y1)]) C.1 C.2.1 dX2_mixInto_35 rfl hl (by decide) rfl (fun ls hl => ?_)
  refine lv_iconst (v := 0) C.1 C.2.1 dX2_mixInto_36 (by decide) ?_
  refine lv_istore (lv' := [(5, .int 0), (3, .long w13), (0, .ref (ad (5 + 14 * i + 0))), (1, .long y1)]) C.1 C.2.1 dX2_mixInto_37 hl (by decide) rfl (fun ls hl => ?_)
  exact w_X2_mixInto_h39 C G hi fuel hP hS (lv_sub hl [2, 1, 0] rfl) h
set_option maxRecDepth 100000 in
set_option maxHeartbeats 4000000 in
theorem m_X2_mixInto (l : Launch) {D : va_G} {cs : Nat → ClassId} {ad : Nat → Nat} (hAd : adOK ad) (sz : Nat) {i : Nat} (hi : i < 6) {Ls : Nat → SL} {Hs : SL} {T : SL} {M : SL} {dr : Int64} {hs : Int64} {o : Int64} {od : UInt64} {L : SL} {y1 : Int64} {res : Int64} (h : f_X2_mixInto L y1 = some res) : Met l yX2_mixInto wsX2_mixInto rmX2_mixInto (PA D cs sz (wA cs ad (va_up Ls i L) Hs T M dr hs o od) [.ref (ad (5 + 14 * i + 0)), .long y1]) (va_Ql (fun r' (_ : Unit) => r' = res) (fun _ t => va_P D vwCl (wA cs ad (va_up Ls i L) Hs T M dr hs o od) t.heap) (Afr ad sz)) 0 0 (Afr ad sz) :=
  k_met (by decide) rfl (Nat.le_of_ble_eq_true rfl) hAd (fun p e s m below meth c ls C G hP hsz hl hS => by
    subst hsz
    exact w_X2_mixInto_e C G hi hP hS hl  h)
end GEN
end
section
section GEN
variable {p : Program} {l : Launch} {e : Env} {s : State} {m : MethodId} {args : Array Value} {below : List Frame} {meth : Method} {c : Code} {D : va_G} {cs : Nat → ClassId} {ad : Nat → Nat}
/-! X1 keep -/
abbrev rmX1_keep : Room := { frames := 3, cells := 0, slots := 0, locals := 92 }
theorem q_X1_keep_0 : Cond.fieldLink RX1 18 "LineBuffers$History" "newest" "I" ∈ wsX1_keep := List.mem_of_getElem? (i := 1) rfl
theorem q_X1_keep_1 : Cond.fieldLink RX1 11 "LineBuffers$History" "places" "[LLineBuffers$Line;" ∈ wsX1_keep := List.mem_of_getElem? (i := 2) rfl
theorem q_X1_keep_2 : Cond.fieldLink RX1 26 "LineBuffers$History" "saved" "I" ∈ wsX1_keep := List.mem_of_getElem? (i := 3) rfl
theorem n_X1_keep_X1 : ∀ x ∈ u_ws RX1 TX1 3, x ∈ wsX1_keep := fun x h => List.mem_cons_of_mem _ (List.mem_append_left _ (List.mem_append_left _ (List.mem_append_right _ h)))
set_option maxRecDepth 100000 in
set_option maxHeartbeats 4000000 in
theorem w_X1_keep_e {res : (Nat → SL) × SL} (C : Cx p s m args meth c cX1_keep 2 none RX1 wsX1_keep) (G : Gx D cs ad s) {i : Nat} (hi : i < 6) {T : SL} {M : SL} {dr : Int64} {hs : Int64} {o : Int64} {od : UInt64} {Ls : Nat → SL} {Hs : SL} {H : Heap} {locs : List Loc} {ls : Array Slot} (hP : va_P D vwCl (wA cs ad Ls Hs T M dr hs o od) H) (hS : va_S (Afr ad s.heap.size) s.heap H locs) (hl : lv_has ls 2 [(0, .ref (ad 1)), (1, .ref (ad (5 + 14 * i + 0)))]) (h : f_X1_keep i Ls Hs = some res) : W p l e rmX1_keep s m args below meth c H locs 0 0 (MQ below (va_Qv (fun (_ : Unit) => True) (fun _ t => va_P D vwCl (wA cs ad res.1 res.2 T M dr hs o od) t.heap) (Afr ad s.heap.size)) args s 0 0 (Afr ad s.heap.size)) (F0 m 0 ls []) := by
  unfold f_X1_keep at h
  refine lv_aload_n C.1 C.2.1 dX1_keep_0 rfl (lv_at hl 0 rfl) ?_
  refine lv_aload_n C.1 C.2.1 dX1_keep_1 rfl (lv_at hl 0 rfl) ?_
  obtain ⟨v1, ev1, h⟩ := lt_out h
  refine k_geti C G hP g_his rfl 1 (by decide) n_X1_keep_X1 q_X1_keep_0 rfl ev1 dX1_keep_2 ?_
  refine lv_iconst (v := 1) C.1 C.2.1 dX1_keep_5 (by decide) ?_
  obtain ⟨v2, ev2, h⟩ := lt_out h
  refine k_iadd C ev2 dX1_keep_6 ?_
  refine lv_iconst (v := 4) C.1 C.2.1 dX1_keep_7 (by decide) ?_
  obtain ⟨v3, ev3, h⟩ := lt_out h
  refine k_irem C (by decide) ev3 dX1_keep_8 ?_
  obtain ⟨Hs4, eHs4, h⟩ := lt_out h
  refine k_puti C G hP hS g_his rfl 1 (by decide) n_X1_keep_X1 q_X1_keep_0 tyX1_ok nmX1 rfl (tyX1_ok 1 (by decide)) (Nat.le_of_ble_eq_true rfl) g_hisS1 dX1_keep_9 (fun H locs hP hS => ?_)
  rw [← eHs4] at hP
  refine lv_aload_n C.1 C.2.1 dX1_keep_12 rfl (lv_at hl 1 rfl) ?_
  refine lv_aload_n C.1 C.2.1 dX1_keep_13 rfl (lv_at hl 0 rfl) ?_
  refine k_getf C G hP g_his rfl 0 (by decide) n_X1_keep_X1 q_X1_keep_1 (v := .ref (ad 2)) rfl dX1_keep_14 ?_
  refine lv_aload_n C.1 C.2.1 dX1_keep_17 rfl (lv_at hl 0 rfl) ?_
  obtain ⟨v5, ev5, h⟩ := lt_out h
  refine k_geti C G hP g_his rfl 1 (by decide) n_X1_keep_X1 q_X1_keep_0 rfl ev5 dX1_keep_18 ?_
  obtain ⟨g6, h⟩ := gd_out h
  have g6 := chk_in g6
  obtain ⟨jq7, ejq7, h⟩ := lt_out h
  have hjq7 : jq7 < 6 := pla_j g6 ejq7
  refine k_aaldL C G hP g_pla g6 (b := ad (5 + 14 * jq7 + 0)) (by rw [ejq7]) dX1_keep_21 ?_
  obtain ⟨Ls8, c9, h⟩ := bd_out h
  refine k_callSv C G hP hS (m_X2_copy l G.2.1 _ hi hjq7 c9) (va_cwS 2 C.2.2.2.2.2.1 gX1_keep_X2_copy rfl rfl rfl (by decide +kernel) ⟨Nat.le_of_ble_eq_true rfl, Nat.le_of_ble_eq_true rfl⟩) (As := [.ref (ad (5 + 14 * i + 0)), .ref (ad (5 + 14 * jq7 + 0))]) rfl hl.1 rfl (Nat.le_of_ble_eq_true rfl) dX1_keep_22 ⟨Nat.le_of_ble_eq_true rfl, Nat.le_of_ble_eq_true rfl⟩ (fun H locs hP hS => ?_)
  refine lv_aload_n C.1 C.2.1 dX1_keep_25 rfl (lv_at hl 0 rfl) ?_
  obtain ⟨v10, ev10, h⟩ := lt_out h
  refine k_geti C G hP g_his rfl 2 (by decide) n_X1_keep_X1 q_X1_keep_2 rfl ev10 dX1_keep_26 ?_
  refine lv_iconst (v := 4) C.1 C.2.1 dX1_keep_29 (by decide) ?_
  refine lv_icmp_ge (tgt := 43) C.1 C.2.1 dX1_keep_30 (by decide) (fun c11 => ?_) (fun c11 => ?_)
  · have h := if_t c11 h
    cases h
    exact k_vret C hP hS dX1_keep_43
  · have h := if_f c11 h
    refine lv_aload_n C.1 C.2.1 dX1_keep_33 rfl (lv_at hl 0 rfl) ?_
    refine lv_dup C.1 C.2.1 dX1_keep_34 rfl ?_
    obtain ⟨v12, ev12, h⟩ := lt_out h
    refine k_geti C G hP g_his rfl 2 (by decide) n_X1_keep_X1 q_X1_keep_2 rfl ev12 dX1_keep_35 ?_
    refine lv_iconst (v := 1) C.1 C.2.1 dX1_keep_38 (by decide) ?_
    obtain ⟨v13, ev13, h⟩ := lt_out h
    refine k_iadd C ev13 dX1_keep_39 ?_
    obtain ⟨Hs14, eHs14, h⟩ := lt_out h
    refine k_puti C G hP hS g_his rfl 2 (by decide) n_X1_keep_X1 q_X1_keep_2 tyX1_ok nmX1 rfl (tyX1_ok 2 (by decide)) (Nat.le_of_ble_eq_true rfl) g_hisS2 dX1_keep_40 (fun H locs hP hS => ?_)
    rw [← eHs14] at hP
    cases h
    exact k_vret C hP hS dX1_keep_43
set_option maxRecDepth 100000 in
set_option maxHeartbeats 4000000 in
theorem m_X1_keep (l : Launch) {D : va_G} {cs : Nat → ClassId} {ad : Nat → Nat} (hAd : adOK ad) (sz : Nat) {i : Nat} (hi : i < 6) {Ls : Nat → SL} {Hs : SL} {T : SL} {M : SL} {dr : Int64} {hs : Int64} {o : Int64} {od : UInt64} {res : (Nat → SL) × SL} (h : f_X1_keep i Ls Hs = some res) : Met l yX1_keep wsX1_keep rmX1_keep (PA D cs sz (wA cs ad Ls Hs T M dr hs o od) [.ref (ad 1), .ref (ad (5 + 14 * i + 0))]) (va_Qv (fun (_ : Unit) => True) (fun _ t => va_P D vwCl (wA cs ad res.1 res.2 T M dr hs o od) t.heap) (Afr ad sz)) 0 0 (Afr ad sz) :=
  k_met (by decide) rfl (Nat.le_of_ble_eq_true rfl) hAd (fun p e s m below meth c ls C G hP hsz hl hS => by
    subst hsz
    exact w_X1_keep_e C G hi hP hS hl  h)
/-! X1 giveBack -/
abbrev rmX1_giveBack : Room := { frames := 3, cells := 0, slots := 0, locals := 92 }
theorem q_X1_giveBack_0 : Cond.fieldLink RX1 26 "LineBuffers$History" "saved" "I" ∈ wsX1_giveBack := List.mem_of_getElem? (i := 1) rfl
theorem q_X1_giveBack_1 : Cond.fieldLink RX1 11 "LineBuffers$History" "places" "[LLineBuffers$Line;" ∈ wsX1_giveBack := List.mem_of_getElem? (i := 2) rfl
theorem q_X1_giveBack_2 : Cond.fieldLink RX1 18 "LineBuffers$History" "newest" "I" ∈ wsX1_giveBack := List.mem_of_getElem? (i := 3) rfl
theorem n_X1_giveBack_X1 : ∀ x ∈ u_ws RX1 TX1 3, x ∈ wsX1_giveBack := fun x h => List.mem_cons_of_mem _ (List.mem_append_left _ (List.mem_append_left _ (List.mem_append_right _ h)))
set_option maxRecDepth 100000 in
set_option maxHeartbeats 4000000 in
theorem w_X1_giveBack_e {res : (Nat → SL) × SL} (C : Cx p s m args meth c cX1_giveBack 2 none RX1 wsX1_giveBack) (G : Gx D cs ad s) {i : Nat} (hi : i < 6) {T : SL} {M : SL} {dr : Int64} {hs : Int64} {o : Int64} {od : UInt64} {Ls : Nat → SL} {Hs : SL} {H : Heap} {locs : List Loc} {ls : Array Slot} (hP : va_P D vwCl (wA cs ad Ls Hs T M dr hs o od) H) (hS : va_S (Afr ad s.heap.size) s.heap H locs) (hl : lv_has ls 2 [(0, .ref (ad 1)), (1, .ref (ad (5 + 14 * i + 0)))]) (h : f_X1_giveBack i Ls Hs = some res) : W p l e rmX1_giveBack s m args below meth c H locs 0 0 (MQ below (va_Qv (fun (_ : Unit) => True) (fun _ t => va_P D vwCl (wA cs ad res.1 res.2 T M dr hs o od) t.heap) (Afr ad s.heap.size)) args s 0 0 (Afr ad s.heap.size)) (F0 m 0 ls []) := by
  unfold f_X1_giveBack at h
  refine lv_aload_n C.1 C.2.1 dX1_giveBack_0 rfl (lv_at hl 0 rfl) ?_
  obtain ⟨v1, ev1, h⟩ := lt_out h
  refine k_geti C G hP g_his rfl 2 (by decide) n_X1_giveBack_X1 q_X1_giveBack_0 rfl ev1 dX1_giveBack_1 ?_
  refine lv_if_ne (tgt := 8) C.1 C.2.1 dX1_giveBack_4 (by decide) (fun c2 => ?_) (fun c2 => ?_)
  · have h := if_t c2 h
    refine lv_aload_n C.1 C.2.1 dX1_giveBack_8 rfl (lv_at hl 0 rfl) ?_
    refine k_getf C G hP g_his rfl 0 (by decide) n_X1_giveBack_X1 q_X1_giveBack_1 (v := .ref (ad 2)) rfl dX1_giveBack_9 ?_
    refine lv_aload_n C.1 C.2.1 dX1_giveBack_12 rfl (lv_at hl 0 rfl) ?_
    obtain ⟨v3, ev3, h⟩ := lt_out h
    refine k_geti C G hP g_his rfl 1 (by decide) n_X1_giveBack_X1 q_X1_giveBack_2 rfl ev3 dX1_giveBack_13 ?_
    obtain ⟨g4, h⟩ := gd_out h
    have g4 := chk_in g4
    obtain ⟨jq5, ejq5, h⟩ := lt_out h
    have hjq5 : jq5 < 6 := pla_j g4 ejq5
    refine k_aaldL C G hP g_pla g4 (b := ad (5 + 14 * jq5 + 0)) (by rw [ejq5]) dX1_giveBack_16 ?_
    refine lv_aload_n C.1 C.2.1 dX1_giveBack_17 rfl (lv_at hl 1 rfl) ?_
    obtain ⟨Ls6, c7, h⟩ := bd_out h
    refine k_callSv C G hP hS (m_X2_copy l G.2.1 _ hjq5 hi c7) (va_cwS 2 C.2.2.2.2.2.1 gX1_giveBack_X2_copy rfl rfl rfl (by decide +kernel) ⟨Nat.le_of_ble_eq_true rfl, Nat.le_of_ble_eq_true rfl⟩) (As := [.ref (ad (5 + 14 * jq5 + 0)), .ref (ad (5 + 14 * i + 0))]) rfl hl.1 rfl (Nat.le_of_ble_eq_true rfl) dX1_giveBack_18 ⟨Nat.le_of_ble_eq_true rfl, Nat.le_of_ble_eq_true rfl⟩ (fun H locs hP hS => ?_)
    refine lv_aload_n C.1 C.2.1 dX1_giveBack_21 rfl (lv_at hl 0 rfl) ?_
    refine lv_aload_n C.1 C.2.1 dX1_giveBack_22 rfl (lv_at hl 0 rfl) ?_
    obtain ⟨v8, ev8, h⟩ := lt_out h
    refine k_geti C G hP g_his rfl 1 (by decide) n_X1_giveBack_X1 q_X1_giveBack_2 rfl ev8 dX1_giveBack_23 ?_
    refine lv_iconst (v := 4) C.1 C.2.1 dX1_giveBack_26 (by decide) ?_
    obtain ⟨v9, ev9, h⟩ := lt_out h
    refine k_iadd C ev9 dX1_giveBack_27 ?_
    refine lv_iconst (v := 1) C.1 C.2.1 dX1_giveBack_28 (by decide) ?_
    obtain ⟨v10, ev10, h⟩ := lt_out h
    refine k_isub C ev10 dX1_giveBack_29 ?_
    refine lv_iconst (v := 4) C.1 C.2.1 dX1_giveBack_30 (by decide) ?_
    obtain ⟨v11, ev11, h⟩ := lt_out h
    refine k_irem C (by decide) ev11 dX1_giveBack_31 ?_
    obtain ⟨Hs12, eHs12, h⟩ := lt_out h
    refine k_puti C G hP hS g_his rfl 1 (by decide) n_X1_giveBack_X1 q_X1_giveBack_2 tyX1_ok nmX1 rfl (tyX1_ok 1 (by decide)) (Nat.le_of_ble_eq_true rfl) g_hisS1 dX1_giveBack_32 (fun H locs hP hS => ?_)
    rw [← eHs12] at hP
    refine lv_aload_n C.1 C.2.1 dX1_giveBack_35 rfl (lv_at hl 0 rfl) ?_
    refine lv_dup C.1 C.2.1 dX1_giveBack_36 rfl ?_
    obtain ⟨v13, ev13, h⟩ := lt_out h
    refine k_geti C G hP g_his rfl 2 (by decide) n_X1_giveBack_X1 q_X1_giveBack_0 rfl ev13 dX1_giveBack_37 ?_
    refine lv_iconst (v := 1) C.1 C.2.1 dX1_giveBack_40 (by decide) ?_
    obtain ⟨v14, ev14, h⟩ := lt_out h
    refine k_isub C ev14 dX1_giveBack_41 ?_
    obtain ⟨Hs15, eHs15, h⟩ := lt_out h
    refine k_puti C G hP hS g_his rfl 2 (by decide) n_X1_giveBack_X1 q_X1_giveBack_0 tyX1_ok nmX1 rfl (tyX1_ok 2 (by decide)) (Nat.le_of_ble_eq_true rfl) g_hisS2 dX1_giveBack_42 (fun H locs hP hS => ?_)
    rw [← eHs15] at hP
    cases h
    exact k_vret C hP hS dX1_giveBack_45
  · have h := if_n c2 h
    cases h
    exact k_vret C hP hS dX1_giveBack_7
set_option maxRecDepth 100000 in
set_option maxHeartbeats 4000000 in
theorem m_X1_giveBack (l : Launch) {D : va_G} {cs : Nat → ClassId} {ad : Nat → Nat} (hAd : adOK ad) (sz : Nat) {i : Nat} (hi : i < 6) {Ls : Nat → SL} {Hs : SL} {T : SL} {M : SL} {dr : Int64} {hs : Int64} {o : Int64} {od : UInt64} {res : (Nat → SL) × SL} (h : f_X1_giveBack i Ls Hs = some res) : Met l yX1_giveBack wsX1_giveBack rmX1_giveBack (PA D cs sz (wA cs ad Ls Hs T M dr hs o od) [.ref (ad 1), .ref (ad (5 + 14 * i + 0))]) (va_Qv (fun (_ : Unit) => True) (fun _ t => va_P D vwCl (wA cs ad res.1 res.2 T M dr hs o od) t.heap) (Afr ad sz)) 0 0 (Afr ad sz) :=
  k_met (by decide) rfl (Nat.le_of_ble_eq_true rfl) hAd (fun p e s m below meth c ls C G hP hsz hl hS => by
    subst hsz
    exact w_X1_giveBack_e C G hi hP hS hl  h)
end GEN
end
section
section GEN
variable {p : Program} {l : Launch} {e : Env} {s : State} {m : MethodId} {args : Array Value} {below : List Frame} {meth : Method} {c : Code} {D : va_G} {cs : Nat → ClassId} {ad : Nat → Nat}
/-! X3 put -/
abbrev rmX3_put : Room := { frames := 0, cells := 0, slots := 0, locals := 0 }
theorem q_X3_put_0 : Cond.fieldLink RX3 15 "LineBuffers$LineText" "length" "I" ∈ wsX3_put := List.mem_of_getElem? (i := 1) rfl
theorem q_X3_put_1 : Cond.fieldLink RX3 9 "LineBuffers$LineText" "bytes" "[I" ∈ wsX3_put := List.mem_of_getElem? (i := 2) rfl
theorem n_X3_put_X3 : ∀ x ∈ u_ws RX3 TX3 4, x ∈ wsX3_put := fun x h => List.mem_cons_of_mem _ (List.mem_append_right _ h)
set_option maxRecDepth 100000 in
set_option maxHeartbeats 4000000 in
theorem w_X3_put_e {res : SL} (C : Cx p s m args meth c cX3_put 2 none RX3 wsX3_put) (G : Gx D cs ad s) {Ls : Nat → SL} {Hs : SL} {M : SL} {dr : Int64} {hs : Int64} {o : Int64} {od : UInt64} {T : SL} {x1 : Int32} {H : Heap} {locs : List Loc} {ls : Array Slot} (hP : va_P D vwCl (wA cs ad Ls Hs T M dr hs o od) H) (hS : va_S (Afr ad s.heap.size) s.heap H locs) (hl : lv_has ls 2 [(0, .ref (ad 3)), (1, .int x1)]) (h : f_X3_put T x1 = some res) : W p l e rmX3_put s m args below meth c H locs 0 0 (MQ below (va_Qv (fun (_ : Unit) => True) (fun _ t => va_P D vwCl (wA cs ad Ls Hs res M dr hs o od) t.heap) (Afr ad s.heap.size)) args s 0 0 (Afr ad s.heap.size)) (F0 m 0 ls []) := by
  unfold f_X3_put at h
  refine lv_aload_n C.1 C.2.1 dX3_put_0 rfl (lv_at hl 0 rfl) ?_
  obtain ⟨v1, ev1, h⟩ := lt_out h
  refine k_geti C G hP g_txt rfl 1 (by decide) n_X3_put_X3 q_X3_put_0 rfl ev1 dX3_put_1 ?_
  refine lv_bipush (v := 120) C.1 C.2.1 dX3_put_4 (by decide) ?_
  refine lv_icmp_ge (tgt := 29) C.1 C.2.1 dX3_put_6 (by decide) (fun c2 => ?_) (fun c2 => ?_)
  · have h := if_t c2 h
    cases h
    exact k_vret C hP hS dX3_put_29
  · have h := if_f c2 h
    refine lv_aload_n C.1 C.2.1 dX3_put_9 rfl (lv_at hl 0 rfl) ?_
    refine k_getf C G hP g_txt rfl 0 (by decide) n_X3_put_X3 q_X3_put_1 (v := .ref (ad 4)) rfl dX3_put_10 ?_
    refine lv_aload_n C.1 C.2.1 dX3_put_13 rfl (lv_at hl 0 rfl) ?_
    obtain ⟨v3, ev3, h⟩ := lt_out h
    refine k_geti C G hP g_txt rfl 1 (by decide) n_X3_put_X3 q_X3_put_0 rfl ev3 dX3_put_14 ?_
    refine lv_iload_n C.1 C.2.1 dX3_put_17 rfl (lv_at hl 1 rfl) ?_
    obtain ⟨g4, h⟩ := gd_out h
    have g4 := chk_in g4
    obtain ⟨T5, eT5, h⟩ := lt_out h
    refine k_iast C G hP hS g_byt g4 (j := v3.toNatClampNeg) rfl g_bytS dX3_put_18 (fun H locs hP hS => ?_)
    rw [← eT5] at hP
    refine lv_aload_n C.1 C.2.1 dX3_put_19 rfl (lv_at hl 0 rfl) ?_
    refine lv_dup C.1 C.2.1 dX3_put_20 rfl ?_
    obtain ⟨v6, ev6, h⟩ := lt_out h
    refine k_geti C G hP g_txt rfl 1 (by decide) n_X3_put_X3 q_X3_put_0 rfl ev6 dX3_put_21 ?_
    refine lv_iconst (v := 1) C.1 C.2.1 dX3_put_24 (by decide) ?_
    obtain ⟨v7, ev7, h⟩ := lt_out h
    refine k_iadd C ev7 dX3_put_25 ?_
    obtain ⟨T8, eT8, h⟩ := lt_out h
    refine k_puti C G hP hS g_txt rfl 1 (by decide) n_X3_put_X3 q_X3_put_0 tyX3_ok nmX3 rfl (tyX3_ok 1 (by decide)) (Nat.le_of_ble_eq_true rfl) g_txtS1 dX3_put_26 (fun H locs hP hS => ?_)
    rw [← eT8] at hP
    cases h
    exact k_vret C hP hS dX3_put_29
set_option maxRecDepth 100000 in
set_option maxHeartbeats 4000000 in
theorem m_X3_put (l : Launch) {D : va_G} {cs : Nat → ClassId} {ad : Nat → Nat} (hAd : adOK ad) (sz : Nat) {Ls : Nat → SL} {Hs : SL} {T : SL} {M : SL} {dr : Int64} {hs : Int64} {o : Int64} {od : UInt64} {x1 : Int32} {res : SL} (h : f_X3_put T x1 = some res) : Met l yX3_put wsX3_put rmX3_put (PA D cs sz (wA cs ad Ls Hs T M dr hs o od) [.ref (ad 3), .int x1]) (va_Qv (fun (_ : Unit) => True) (fun _ t => va_P D vwCl (wA cs ad Ls Hs res M dr hs o od) t.heap) (Afr ad sz)) 0 0 (Afr ad sz) :=
  k_met (by decide) rfl (Nat.le_of_ble_eq_true rfl) hAd (fun p e s m below meth c ls C G hP hsz hl hS => by
    subst hsz
    exact w_X3_put_e C G  hP hS hl  h)
/-! X3 byteAt -/
abbrev rmX3_byteAt : Room := { frames := 0, cells := 0, slots := 0, locals := 0 }
theorem q_X3_byteAt_0 : Cond.fieldLink RX3 15 "LineBuffers$LineText" "length" "I" ∈ wsX3_byteAt := List.mem_of_getElem? (i := 1) rfl
theorem q_X3_byteAt_1 : Cond.fieldLink RX3 9 "LineBuffers$LineText" "bytes" "[I" ∈ wsX3_byteAt := List.mem_of_getElem? (i := 2) rfl
theorem n_X3_byteAt_X3 : ∀ x ∈ u_ws RX3 TX3 4, x ∈ wsX3_byteAt := fun x h => List.mem_cons_of_mem _ (List.mem_append_right _ h)
set_option maxRecDepth 100000 in
set_option maxHeartbeats 4000000 in
theorem w_X3_byteAt_b12 {res : Int32} (C : Cx p s m args meth c cX3_byteAt 2 (some .int) RX3 wsX3_byteAt) (G : Gx D cs ad s) {Ls : Nat → SL} {Hs : SL} {M : SL} {dr : Int64} {hs : Int64} {o : Int64} {od : UInt64} {T : SL} {H : Heap} {locs : List Loc} {ls : Array Slot} (hP : va_P D vwCl (wA cs ad Ls Hs T M dr hs o od) H) (hS : va_S (Afr ad s.heap.size) s.heap H locs) (hl : lv_has ls 2 []) (h : f_X3_byteAt_b12 T = some res) : W p l e rmX3_byteAt s m args below meth c H locs 0 0 (MQ below (va_Qi (fun r' (_ : Unit) => r' = res) (fun _ t => va_P D vwCl (wA cs ad Ls Hs T M dr hs o od) t.heap) (Afr ad s.heap.size)) args s 0 0 (Afr ad s.heap.size)) (F0 m 12 ls []) := by
  unfold f_X3_byteAt_b12 at h
  refine lv_iconst (v := (-1)) C.1 C.2.1 dX3_byteAt_12 (by decide) ?_
  refine lv_goto (tgt := 22) C.1 C.2.1 dX3_byteAt_13 (by decide) ?_
  cases h
  exact k_iret C hP hS dX3_byteAt_22
set_option maxRecDepth 100000 in
set_option maxHeartbeats 4000000 in
theorem w_X3_byteAt_e {res : Int32} (C : Cx p s m args meth c cX3_byteAt 2 (some .int) RX3 wsX3_byteAt) (G : Gx D cs ad s) {Ls : Nat → SL} {Hs : SL} {M : SL} {dr : Int64} {hs : Int64} {o : Int64} {od : UInt64} {T : SL} {x1 : Int32} {H : Heap} {locs : List Loc} {ls : Array Slot} (hP : va_P D vwCl (wA cs ad Ls Hs T M dr hs o od) H) (hS : va_S (Afr ad s.heap.size) s.heap H locs) (hl : lv_has ls 2 [(0, .ref (ad 3)), (1, .int x1)]) (h : f_X3_byteAt T x1 = some res) : W p l e rmX3_byteAt s m args below meth c H locs 0 0 (MQ below (va_Qi (fun r' (_ : Unit) => r' = res) (fun _ t => va_P D vwCl (wA cs ad Ls Hs T M dr hs o od) t.heap) (Afr ad s.heap.size)) args s 0 0 (Afr ad s.heap.size)) (F0 m 0 ls []) := by
  unfold f_X3_byteAt at h
  refine lv_iload_n C.1 C.2.1 dX3_byteAt_0 rfl (lv_at hl 1 rfl) ?_
  refine lv_if_lt (tgt := 12) C.1 C.2.1 dX3_byteAt_1 (by decide) (fun c1 => ?_) (fun c1 => ?_)
  · have h := if_t c1 h
    exact w_X3_byteAt_b12 C G hP hS (lv_sub hl [] rfl) h
  · have h := if_f c1 h
    refine lv_iload_n C.1 C.2.1 dX3_byteAt_4 rfl (lv_at hl 1 rfl) ?_
    refine lv_aload_n C.1 C.2.1 dX3_byteAt_5 rfl (lv_at hl 0 rfl) ?_
    obtain ⟨v2, ev2, h⟩ := lt_out h
    refine k_geti C G hP g_txt rfl 1 (by decide) n_X3_byteAt_X3 q_X3_byteAt_0 rfl ev2 dX3_byteAt_6 ?_
    refine lv_icmp_lt (tgt := 16) C.1 C.2.1 dX3_byteAt_9 (by decide) (fun c3 => ?_) (fun c3 => ?_)
    · have h := if_t c3 h
      refine lv_aload_n C.1 C.2.1 dX3_byteAt_16 rfl (lv_at hl 0 rfl) ?_
      refine k_getf C G hP g_txt rfl 0 (by decide) n_X3_byteAt_X3 q_X3_byteAt_1 (v := .ref (ad 4)) rfl dX3_byteAt_17 ?_
      refine lv_iload_n C.1 C.2.1 dX3_byteAt_20 rfl (lv_at hl 1 rfl) ?_
      obtain ⟨g4, h⟩ := gd_out h
      have g4 := chk_in g4
      obtain ⟨v5, ev5, h⟩ := lt_out h
      refine k_iald C G hP g_byt g4 (j := x1.toNatClampNeg) rfl ev5 dX3_byteAt_21 ?_
      cases h
      exact k_iret C hP hS dX3_byteAt_22
    · have h := if_f c3 h
      exact w_X3_byteAt_b12 C G hP hS (lv_sub hl [] rfl) h
set_option maxRecDepth 100000 in
set_option maxHeartbeats 4000000 in
theorem m_X3_byteAt (l : Launch) {D : va_G} {cs : Nat → ClassId} {ad : Nat → Nat} (hAd : adOK ad) (sz : Nat) {Ls : Nat → SL} {Hs : SL} {T : SL} {M : SL} {dr : Int64} {hs : Int64} {o : Int64} {od : UInt64} {x1 : Int32} {res : Int32} (h : f_X3_byteAt T x1 = some res) : Met l yX3_byteAt wsX3_byteAt rmX3_byteAt (PA D cs sz (wA cs ad Ls Hs T M dr hs o od) [.ref (ad 3), .int x1]) (va_Qi (fun r' (_ : Unit) => r' = res) (fun _ t => va_P D vwCl (wA cs ad Ls Hs T M dr hs o od) t.heap) (Afr ad sz)) 0 0 (Afr ad sz) :=
  k_met (by decide) rfl (Nat.le_of_ble_eq_true rfl) hAd (fun p e s m below meth c ls C G hP hsz hl hS => by
    subst hsz
    exact w_X3_byteAt_e C G  hP hS hl  h)
/-! X5 isIn -/
abbrev rmX5_isIn : Room := { frames := 0, cells := 0, slots := 0, locals := 0 }
set_option maxRecDepth 100000 in
set_option maxHeartbeats 4000000 in
theorem w_X5_isIn_b14 {res : Int32} (C : Cx p s m args meth c cX5_isIn 3 (some .boolean) RX5 wsX5_isIn) (G : Gx D cs ad s) {Ls : Nat → SL} {Hs : SL} {T : SL} {M : SL} {dr : Int64} {hs : Int64} {o : Int64} {od : UInt64} {H : Heap} {locs : List Loc} {ls : Array Slot} (hP : va_P D vwCl (wA cs ad Ls Hs T M dr hs o od) H) (hS : va_S (Afr ad s.heap.size) s.heap H locs) (hl : lv_has ls 3 []) (h : f_X5_isIn_b14 = some res) : W p l e rmX5_isIn s m args below meth c H locs 0 0 (MQ below (va_Qi (fun r' (_ : Unit) => r' = res) (fun _ t => va_P D vwCl (wA cs ad Ls Hs T M dr hs o od) t.heap) (Afr ad s.heap.size)) args s 0 0 (Afr ad s.heap.size)) (F0 m 14 ls []) := by
  unfold f_X5_isIn_b14 at h
  refine lv_iconst (v := 0) C.1 C.2.1 dX5_isIn_14 (by decide) ?_
  cases h
  exact k_zret C hP hS rfl dX5_isIn_15
set_option maxRecDepth 100000 in
set_option maxHeartbeats 4000000 in
theorem w_X5_isIn_e {res : Int32} (C : Cx p s m args meth c cX5_isIn 3 (some .boolean) RX5 wsX5_isIn) (G : Gx D cs ad s) {Ls : Nat → SL} {Hs : SL} {T : SL} {M : SL} {dr : Int64} {hs : Int64} {o : Int64} {od : UInt64} {x0 : Int32} {x1 : Int32} {x2 : Int32} {H : Heap} {locs : List Loc} {ls : Array Slot} (hP : va_P D vwCl (wA cs ad Ls Hs T M dr hs o od) H) (hS : va_S (Afr ad s.heap.size) s.heap H locs) (hl : lv_has ls 3 [(0, .int x0), (1, .int x1), (2, .int x2)]) (h : f_X5_isIn x0 x1 x2 = some res) : W p l e rmX5_isIn s m args below meth c H locs 0 0 (MQ below (va_Qi (fun r' (_ : Unit) => r' = res) (fun _ t => va_P D vwCl (wA cs ad Ls Hs T M dr hs o od) t.heap) (Afr ad s.heap.size)) args s 0 0 (Afr ad s.heap.size)) (F0 m 0 ls []) := by
  unfold f_X5_isIn at h
  refine lv_iload_n C.1 C.2.1 dX5_isIn_0 rfl (lv_at hl 0 rfl) ?_
  refine lv_iload_n C.1 C.2.1 dX5_isIn_1 rfl (lv_at hl 1 rfl) ?_
  refine lv_icmp_lt (tgt := 14) C.1 C.2.1 dX5_isIn_2 (by decide) (fun c1 => ?_) (fun c1 => ?_)
  · have h := if_t c1 h
    exact w_X5_isIn_b14 C G hP hS (lv_sub hl [] rfl) h
  · have h := if_f c1 h
    refine lv_iload_n C.1 C.2.1 dX5_isIn_5 rfl (lv_at hl 0 rfl) ?_
    refine lv_iload_n C.1 C.2.1 dX5_isIn_6 rfl (lv_at hl 2 rfl) ?_
    refine lv_icmp_gt (tgt := 14) C.1 C.2.1 dX5_isIn_7 (by decide) (fun c2 => ?_) (fun c2 => ?_)
    · have h := if_t c2 h
      exact w_X5_isIn_b14 C G hP hS (lv_sub hl [] rfl) h
    · have h := if_f c2 h
      refine lv_iconst (v := 1) C.1 C.2.1 dX5_isIn_10 (by decide) ?_
      refine lv_goto (tgt := 15) C.1 C.2.1 dX5_isIn_11 (by decide) ?_
      cases h
      exact k_zret C hP hS rfl dX5_isIn_15
set_option maxRecDepth 100000 in
set_option maxHeartbeats 4000000 in
theorem m_X5_isIn (l : Launch) {D : va_G} {cs : Nat → ClassId} {ad : Nat → Nat} (hAd : adOK ad) (sz : Nat) {Ls : Nat → SL} {Hs : SL} {T : SL} {M : SL} {dr : Int64} {hs : Int64} {o : Int64} {od : UInt64} {x0 : Int32} {x1 : Int32} {x2 : Int32} {res : Int32} (h : f_X5_isIn x0 x1 x2 = some res) : Met l yX5_isIn wsX5_isIn rmX5_isIn (PA D cs sz (wA cs ad Ls Hs T M dr hs o od) [.int x0, .int x1, .int x2]) (va_Qi (fun r' (_ : Unit) => r' = res) (fun _ t => va_P D vwCl (wA cs ad Ls Hs T M dr hs o od) t.heap) (Afr ad sz)) 0 0 (Afr ad sz) :=
  k_met (by decide) rfl (Nat.le_of_ble_eq_true rfl) hAd (fun p e s m below meth c ls C G hP hsz hl hS => by
    subst hsz
    exact w_X5_isIn_e C G  hP hS hl  h)
/-! X3 isDigit -/
abbrev rmX3_isDigit : Room := { frames := 1, cells := 0, slots := 0, locals := 22 }
theorem q_X3_isDigit_0 : Cond.static yX5_isIn ∈ wsX3_isDigit := List.mem_of_getElem? (i := 1) rfl
theorem q_X3_isDigit_1 : Cond.initialized RX5 ∈ wsX3_isDigit := List.mem_of_getElem? (i := 2) rfl
set_option maxRecDepth 100000 in
set_option maxHeartbeats 4000000 in
theorem w_X3_isDigit_e {res : Int32} (C : Cx p s m args meth c cX3_isDigit 1 (some .boolean) RX3 wsX3_isDigit) (G : Gx D cs ad s) {Ls : Nat → SL} {Hs : SL} {T : SL} {M : SL} {dr : Int64} {hs : Int64} {o : Int64} {od : UInt64} {x0 : Int32} {H : Heap} {locs : List Loc} {ls : Array Slot} (hP : va_P D vwCl (wA cs ad Ls Hs T M dr hs o od) H) (hS : va_S (Afr ad s.heap.size) s.heap H locs) (hl : lv_has ls 1 [(0, .int x0)]) (h : f_X3_isDigit x0 = some res) : W p l e rmX3_isDigit s m args below meth c H locs 0 0 (MQ below (va_Qi (fun r' (_ : Unit) => r' = res) (fun _ t => va_P D vwCl (wA cs ad Ls Hs T M dr hs o od) t.heap) (Afr ad s.heap.size)) args s 0 0 (Afr ad s.heap.size)) (F0 m 0 ls []) := by
  unfold f_X3_isDigit at h
  refine lv_iload_n C.1 C.2.1 dX3_isDigit_0 rfl (lv_at hl 0 rfl) ?_
  refine lv_bipush (v := 48) C.1 C.2.1 dX3_isDigit_1 (by decide) ?_
  refine lv_bipush (v := 57) C.1 C.2.1 dX3_isDigit_3 (by decide) ?_
  obtain ⟨r1, c2, h⟩ := bd_out h
  refine k_callSNi C G hP hS (m_X5_isIn l G.2.1 _  c2) ⟨va_cnB 3 C.2.2.2.2.2.1 gX3_isDigit_X5_isIn_n63 rfl rfl rfl (G.2.2.2 _ (List.mem_of_getElem? (i := 4) rfl)) (C.2.2.2.2.2.1 _ q_X3_isDigit_1) (by decide +kernel) ⟨Nat.le_of_ble_eq_true rfl, Nat.le_of_ble_eq_true rfl⟩, C.2.2.2.2.2.1 _ q_X3_isDigit_0, trivial⟩ (As := [.int x0, .int 48, .int 57]) rfl hl.1 rfl (Nat.le_of_ble_eq_true rfl) dX3_isDigit_5 ⟨Nat.le_of_ble_eq_true rfl, Nat.le_of_ble_eq_true rfl⟩ (fun H locs hP hS => ?_)
  obtain ⟨g3, h⟩ := gd_out h
  have g3 := isB_nar g3
  cases h
  exact k_zret C hP hS g3 dX3_isDigit_8
set_option maxRecDepth 100000 in
set_option maxHeartbeats 4000000 in
theorem m_X3_isDigit (l : Launch) {D : va_G} {cs : Nat → ClassId} {ad : Nat → Nat} (hAd : adOK ad) (sz : Nat) {Ls : Nat → SL} {Hs : SL} {T : SL} {M : SL} {dr : Int64} {hs : Int64} {o : Int64} {od : UInt64} {x0 : Int32} {res : Int32} (h : f_X3_isDigit x0 = some res) : Met l yX3_isDigit wsX3_isDigit rmX3_isDigit (PA D cs sz (wA cs ad Ls Hs T M dr hs o od) [.int x0]) (va_Qi (fun r' (_ : Unit) => r' = res) (fun _ t => va_P D vwCl (wA cs ad Ls Hs T M dr hs o od) t.heap) (Afr ad sz)) 0 0 (Afr ad sz) :=
  k_met (by decide) rfl (Nat.le_of_ble_eq_true rfl) hAd (fun p e s m below meth c ls C G hP hsz hl hS => by
    subst hsz
    exact w_X3_isDigit_e C G  hP hS hl  h)
/-! X3 readNumber -/
abbrev rmX3_readNumber : Room := { frames := 2, cells := 0, slots := 0, locals := 42 }
theorem q_X3_readNumber_0 : Cond.fieldLink RX3 22 "LineBuffers$LineText" "error" "I" ∈ wsX3_readNumber := List.mem_of_getElem? (i := 1) rfl
theorem q_X3_readNumber_1 : Cond.fieldLink RX3 19 "LineBuffers$LineText" "at" "I" ∈ wsX3_readNumber := List.mem_of_getElem? (i := 2) rfl
theorem q_X3_readNumber_2 : Cond.static yX5_isIn ∈ wsX3_readNumber := List.mem_of_getElem? (i := 13) rfl
theorem q_X3_readNumber_3 : Cond.initialized RX5 ∈ wsX3_readNumber := List.mem_of_getElem? (i := 14) rfl
theorem n_X3_readNumber_X3 : ∀ x ∈ u_ws RX3 TX3 4, x ∈ wsX3_readNumber := fun x h => List.mem_cons_of_mem _ (List.mem_append_right _ h)
set_option maxRecDepth 100000 in
set_option maxHeartbeats 4000000 in
theorem w_X3_readNumber_b104 {res : Int32 × SL} (C : Cx p s m args meth c cX3_readNumber 7 (some .int) RX3 wsX3_readNumber) (G : Gx D cs ad s) {Ls : Nat → SL} {Hs : SL} {M : SL} {dr : Int64} {hs : Int64} {o : Int64} {od : UInt64} {T : SL} {x5 : Int32} {H : Heap} {locs : List Loc} {ls : Array Slot} (hP : va_P D vwCl (wA cs ad Ls Hs T M dr hs o od) H) (hS : va_S (Afr ad s.heap.size) s.heap H locs) (hl : lv_has ls 7 [(0, .ref (ad 3)), (5, .int x5)]) (h : f_X3_readNumber_b104 T x5 = some res) : W p l e rmX3_readNumber s m args below meth c H locs 0 0 (MQ below (va_Qi (fun r' (_ : Unit) => r' = res.1) (fun _ t => va_P D vwCl (wA cs ad Ls Hs res.2 M dr hs o od) t.heap) (Afr ad s.heap.size)) args s 0 0 (Afr ad s.heap.size)) (F0 m 104 ls []) := by
  unfold f_X3_readNumber_b104 at h
  refine lv_aload_n C.1 C.2.1 dX3_readNumber_104 rfl (lv_at hl 0 rfl) ?_
  refine lv_aload_n C.1 C.2.1 dX3_readNumber_105 rfl (lv_at hl 0 rfl) ?_
  obtain ⟨v1, ev1, h⟩ := lt_out h
  refine k_geti C G hP g_txt rfl 2 (by decide) n_X3_readNumber_X3 q_X3_readNumber_1 rfl ev1 dX3_readNumber_106 ?_
  obtain ⟨T2, eT2, h⟩ := lt_out h
  refine k_puti C G hP hS g_txt rfl 3 (by decide) n_X3_readNumber_X3 q_X3_readNumber_0 tyX3_ok nmX3 rfl (tyX3_ok 3 (by decide)) (Nat.le_of_ble_eq_true rfl) g_txtS3 dX3_readNumber_109 (fun H locs hP hS => ?_)
  rw [← eT2] at hP
  refine lv_goto (tgt := 161) C.1 C.2.1 dX3_readNumber_112 (by decide) ?_
  refine lv_iload C.1 C.2.1 dX3_readNumber_161 (lv_at hl 1 rfl) ?_
  cases h
  exact k_iret C hP hS dX3_readNumber_163
set_option maxRecDepth 100000 in
set_option maxHeartbeats 4000000 in
theorem w_X3_readNumber_b77 {res : Int32 × SL} (C : Cx p s m args meth c cX3_readNumber 7 (some .int) RX3 wsX3_readNumber) (G : Gx D cs ad s) {Ls : Nat → SL} {Hs : SL} {M : SL} {dr : Int64} {hs : Int64} {o : Int64} {od : UInt64} {T : SL} {x1 : Int32} {x2 : Int32} {x3 : Int32} {x4 : Int32} {x5 : Int32} {H : Heap} {locs : List Loc} {ls : Array Slot} (hP : va_P D vwCl (wA cs ad Ls Hs T M dr hs o od) H) (hS : va_S (Afr ad s.heap.size) s.heap H locs) (hl : lv_has ls 7 [(0, .ref (ad 3)), (1, .int x1), (2, .int x2), (3, .int x3), (4, .int x4), (5, .int x5)]) (h : f_X3_readNumber_b77 T x1 x2 x3 x4 x5 = some res) : W p l e rmX3_readNumber s m args below meth c H locs 0 0 (MQ below (va_Qi (fun r' (_ : Unit) => r' = res.1) (fun _ t => va_P D vwCl (wA cs ad Ls Hs res.2 M dr hs o od) t.heap) (Afr ad s.heap.size)) args s 0 0 (Afr ad s.heap.size)) (F0 m 77 ls []) := by
  unfold f_X3_readNumber_b77 at h
  refine lv_aload_n C.1 C.2.1 dX3_readNumber_77 rfl (lv_at hl 0 rfl) ?_
  refine lv_aload_n C.1 C.2.1 dX3_readNumber_78 rfl (lv_at hl 0 rfl) ?_
  obtain ⟨v1, ev1, h⟩ := lt_out h
  refine k_geti C G hP g_txt rfl 2 (by decide) n_X3_readNumber_X3 q_X3_readNumber_1 rfl ev1 dX3_readNumber_79 ?_
  obtain ⟨r2, c3, h⟩ := bd_out h
  refine k_callVi C G hP hS (m_X3_byteAt l G.2.1 _  c3) g_txt rfl (cwV 1 C.2.2.2.2.2.1 gX3_readNumber_X3_byteAt rfl rfl rfl (by decide +kernel) ⟨Nat.le_of_ble_eq_true rfl, Nat.le_of_ble_eq_true rfl⟩) (As := [.int v1]) rfl hl.1 rfl (Nat.le_of_ble_eq_true rfl) dX3_readNumber_82 ⟨Nat.le_of_ble_eq_true rfl, Nat.le_of_ble_eq_true rfl⟩ (fun H locs hP hS => ?_)
  refine lv_istore (lv' := [(6, .int r2), (0, .ref (ad 3)), (1, .int x1), (2, .int x2), (3, .int x3), (4, .int x4), (5, .int x5)]) C.1 C.2.1 dX3_readNumber_85 hl (by decide) rfl (fun ls hl => ?_)
  refine lv_aload_n C.1 C.2.1 dX3_readNumber_87 rfl (lv_at hl 1 rfl) ?_
  obtain ⟨v4, ev4, h⟩ := lt_out h
  refine k_geti C G hP g_txt rfl 2 (by decide) n_X3_readNumber_X3 q_X3_readNumber_1 rfl ev4 dX3_readNumber_88 ?_
  refine lv_iload C.1 C.2.1 dX3_readNumber_91 (lv_at hl 5 rfl) ?_
  refine lv_icmp_eq (tgt := 104) C.1 C.2.1 dX3_readNumber_93 (by decide) (fun c5 => ?_) (fun c5 => ?_)
  · have h := if_t c5 h
    exact w_X3_readNumber_b104 C G hP hS (lv_sub hl [1, 6] rfl) h
  · have h := if_f c5 h
    refine lv_iload C.1 C.2.1 dX3_readNumber_96 (lv_at hl 0 rfl) ?_
    obtain ⟨r6, c7, h⟩ := bd_out h
    refine k_callSi C G hP hS (m_X3_isDigit l G.2.1 _  c7) (va_cwS 1 C.2.2.2.2.2.1 gX3_readNumber_X3_isDigit rfl rfl rfl (by decide +kernel) ⟨Nat.le_of_ble_eq_true rfl, Nat.le_of_ble_eq_true rfl⟩) (As := [.int r2]) rfl hl.1 rfl (Nat.le_of_ble_eq_true rfl) dX3_readNumber_98 ⟨Nat.le_of_ble_eq_true rfl, Nat.le_of_ble_eq_true rfl⟩ (fun H locs hP hS => ?_)
    refine lv_if_eq (tgt := 115) C.1 C.2.1 dX3_readNumber_101 (by decide) (fun c8 => ?_) (fun c8 => ?_)
    · have h := if_t c8 h
      refine lv_iload C.1 C.2.1 dX3_readNumber_115 (lv_at hl 6 rfl) ?_
      refine lv_iload_n C.1 C.2.1 dX3_readNumber_117 rfl (lv_at hl 2 rfl) ?_
      refine lv_iload_n C.1 C.2.1 dX3_readNumber_118 rfl (lv_at hl 3 rfl) ?_
      obtain ⟨r9, c10, h⟩ := bd_out h
      refine k_callSNi C G hP hS (m_X5_isIn l G.2.1 _  c10) ⟨va_cnB 3 C.2.2.2.2.2.1 gX3_readNumber_X5_isIn_n63 rfl rfl rfl (G.2.2.2 _ (List.mem_of_getElem? (i := 4) rfl)) (C.2.2.2.2.2.1 _ q_X3_readNumber_3) (by decide +kernel) ⟨Nat.le_of_ble_eq_true rfl, Nat.le_of_ble_eq_true rfl⟩, C.2.2.2.2.2.1 _ q_X3_readNumber_2, trivial⟩ (As := [.int x5, .int x1, .int x2]) rfl hl.1 rfl (Nat.le_of_ble_eq_true rfl) dX3_readNumber_119 ⟨Nat.le_of_ble_eq_true rfl, Nat.le_of_ble_eq_true rfl⟩ (fun H locs hP hS => ?_)
      refine lv_if_ne (tgt := 134) C.1 C.2.1 dX3_readNumber_122 (by decide) (fun c11 => ?_) (fun c11 => ?_)
      · have h := if_t c11 h
        refine lv_iload C.1 C.2.1 dX3_readNumber_134 (lv_at hl 0 rfl) ?_
        refine lv_iload_n C.1 C.2.1 dX3_readNumber_136 rfl (lv_at hl 4 rfl) ?_
        refine lv_icmp_eq (tgt := 151) C.1 C.2.1 dX3_readNumber_137 (by decide) (fun c12 => ?_) (fun c12 => ?_)
        · have h := if_t c12 h
          refine lv_aload_n C.1 C.2.1 dX3_readNumber_151 rfl (lv_at hl 1 rfl) ?_
          refine lv_dup C.1 C.2.1 dX3_readNumber_152 rfl ?_
          obtain ⟨v13, ev13, h⟩ := lt_out h
          refine k_geti C G hP g_txt rfl 2 (by decide) n_X3_readNumber_X3 q_X3_readNumber_1 rfl ev13 dX3_readNumber_153 ?_
          refine lv_iconst (v := 1) C.1 C.2.1 dX3_readNumber_156 (by decide) ?_
          obtain ⟨v14, ev14, h⟩ := lt_out h
          refine k_iadd C ev14 dX3_readNumber_157 ?_
          obtain ⟨T15, eT15, h⟩ := lt_out h
          refine k_puti C G hP hS g_txt rfl 2 (by decide) n_X3_readNumber_X3 q_X3_readNumber_1 tyX3_ok nmX3 rfl (tyX3_ok 2 (by decide)) (Nat.le_of_ble_eq_true rfl) g_txtS2 dX3_readNumber_158 (fun H locs hP hS => ?_)
          rw [← eT15] at hP
          refine lv_iload C.1 C.2.1 dX3_readNumber_161 (lv_at hl 6 rfl) ?_
          cases h
          exact k_iret C hP hS dX3_readNumber_163
        · have h := if_f c12 h
          refine lv_aload_n C.1 C.2.1 dX3_readNumber_140 rfl (lv_at hl 1 rfl) ?_
          refine lv_aload_n C.1 C.2.1 dX3_readNumber_141 rfl (lv_at hl 1 rfl) ?_
          obtain ⟨v16, ev16, h⟩ := lt_out h
          refine k_geti C G hP g_txt rfl 2 (by decide) n_X3_readNumber_X3 q_X3_readNumber_1 rfl ev16 dX3_readNumber_142 ?_
          obtain ⟨T17, eT17, h⟩ := lt_out h
          refine k_puti C G hP hS g_txt rfl 3 (by decide) n_X3_readNumber_X3 q_X3_readNumber_0 tyX3_ok nmX3 rfl (tyX3_ok 3 (by decide)) (Nat.le_of_ble_eq_true rfl) g_txtS3 dX3_readNumber_145 (fun H locs hP hS => ?_)
          rw [← eT17] at hP
          refine lv_goto (tgt := 161) C.1 C.2.1 dX3_readNumber_148 (by decide) ?_
          refine lv_iload C.1 C.2.1 dX3_readNumber_161 (lv_at hl 6 rfl) ?_
          cases h
          exact k_iret C hP hS dX3_readNumber_163
      · have h := if_n c11 h
        refine lv_aload_n C.1 C.2.1 dX3_readNumber_125 rfl (lv_at hl 1 rfl) ?_
        refine lv_iload C.1 C.2.1 dX3_readNumber_126 (lv_at hl 5 rfl) ?_
        obtain ⟨T18, eT18, h⟩ := lt_out h
        refine k_puti C G hP hS g_txt rfl 3 (by decide) n_X3_readNumber_X3 q_X3_readNumber_0 tyX3_ok nmX3 rfl (tyX3_ok 3 (by decide)) (Nat.le_of_ble_eq_true rfl) g_txtS3 dX3_readNumber_128 (fun H locs hP hS => ?_)
        rw [← eT18] at hP
        refine lv_goto (tgt := 161) C.1 C.2.1 dX3_readNumber_131 (by decide) ?_
        refine lv_iload C.1 C.2.1 dX3_readNumber_161 (lv_at hl 6 rfl) ?_
        cases h
        exact k_iret C hP hS dX3_readNumber_163
    · have h := if_f c8 h
      exact w_X3_readNumber_b104 C G hP hS (lv_sub hl [1, 6] rfl) h
set_option maxRecDepth 100000 in
set_option maxHeartbeats 4000000 in
theorem w_X3_readNumber_b22 {res : Int32 × SL} (C : Cx p s m args meth c cX3_readNumber 7 (some .int) RX3 wsX3_readNumber) (G : Gx D cs ad s) {Ls : Nat → SL} {Hs : SL} {M : SL} {dr : Int64} {hs : Int64} {o : Int64} {od : UInt64} {K22 : SL → Int32 → Int32 → Int32 → Int32 → Int32 → Int32 → Option (Int32 × SL)} (hK22 : ∀ {T : SL} {x1 : Int32} {x2 : Int32} {x3 : Int32} {x4 : Int32} {x5 : Int32} {x6 : Int32} {H : Heap} {locs : List Loc} {ls : Array Slot}, va_P D vwCl (wA cs ad Ls Hs T M dr hs o od) H → va_S (Afr ad s.heap.size) s.heap H locs → lv_has ls 7 [(0, .ref (ad 3)), (1, .int x1), (2, .int x2), (3, .int x3), (4, .int x4), (5, .int x5), (6, .int x6)] → K22 T x1 x2 x3 x4 x5 x6 = some res → W p l e rmX3_readNumber s m args below meth c H locs 0 0 (MQ below (va_Qi (fun r' (_ : Unit) => r' = res.1) (fun _ t => va_P D vwCl (wA cs ad Ls Hs res.2 M dr hs o od) t.heap) (Afr ad s.heap.size)) args s 0 0 (Afr ad s.heap.size)) (F0 m 22 ls [])) {T : SL} {x1 : Int32} {x2 : Int32} {x3 : Int32} {x4 : Int32} {x5 : Int32} {x6 : Int32} {H : Heap} {locs : List Loc} {ls : Array Slot} (hP : va_P D vwCl (wA cs ad Ls Hs T M dr hs o od) H) (hS : va_S (Afr ad s.heap.size) s.heap H locs) (hl : lv_has ls 7 [(0, .ref (ad 3)), (1, .int x1), (2, .int x2), (3, .int x3), (4, .int x4), (5, .int x5), (6, .int x6)]) (h : f_X3_readNumber_b22 K22 T x1 x2 x3 x4 x5 x6 = some res) : W p l e rmX3_readNumber s m args below meth c H locs 0 0 (MQ below (va_Qi (fun r' (_ : Unit) => r' = res.1) (fun _ t => va_P D vwCl (wA cs ad Ls Hs res.2 M dr hs o od) t.heap) (Afr ad s.heap.size)) args s 0 0 (Afr ad s.heap.size)) (F0 m 22 ls []) := by
  unfold f_X3_readNumber_b22 at h
  refine lv_iload C.1 C.2.1 dX3_readNumber_22 (lv_at hl 6 rfl) ?_
  refine lv_iconst (v := 2) C.1 C.2.1 dX3_readNumber_24 (by decide) ?_
  refine lv_icmp_ge (tgt := 77) C.1 C.2.1 dX3_readNumber_25 (by decide) (fun c1 => ?_) (fun c1 => ?_)
  · have h := if_t c1 h
    exact w_X3_readNumber_b77 C G hP hS (lv_sub hl [0, 1, 2, 3, 4, 5] rfl) h
  · have h := if_f c1 h
    refine lv_aload_n C.1 C.2.1 dX3_readNumber_28 rfl (lv_at hl 0 rfl) ?_
    refine lv_aload_n C.1 C.2.1 dX3_readNumber_29 rfl (lv_at hl 0 rfl) ?_
    obtain ⟨v2, ev2, h⟩ := lt_out h
    refine k_geti C G hP g_txt rfl 2 (by decide) n_X3_readNumber_X3 q_X3_readNumber_1 rfl ev2 dX3_readNumber_30 ?_
    obtain ⟨r3, c4, h⟩ := bd_out h
    refine k_callVi C G hP hS (m_X3_byteAt l G.2.1 _  c4) g_txt rfl (cwV 1 C.2.2.2.2.2.1 gX3_readNumber_X3_byteAt rfl rfl rfl (by decide +kernel) ⟨Nat.le_of_ble_eq_true rfl, Nat.le_of_ble_eq_true rfl⟩) (As := [.int v2]) rfl hl.1 rfl (Nat.le_of_ble_eq_true rfl) dX3_readNumber_33 ⟨Nat.le_of_ble_eq_true rfl, Nat.le_of_ble_eq_true rfl⟩ (fun H locs hP hS => ?_)
    obtain ⟨r5, c6, h⟩ := bd_out h
    refine k_callSi C G hP hS (m_X3_isDigit l G.2.1 _  c6) (va_cwS 1 C.2.2.2.2.2.1 gX3_readNumber_X3_isDigit rfl rfl rfl (by decide +kernel) ⟨Nat.le_of_ble_eq_true rfl, Nat.le_of_ble_eq_true rfl⟩) (As := [.int r3]) rfl hl.1 rfl (Nat.le_of_ble_eq_true rfl) dX3_readNumber_36 ⟨Nat.le_of_ble_eq_true rfl, Nat.le_of_ble_eq_true rfl⟩ (fun H locs hP hS => ?_)
    refine lv_if_eq (tgt := 77) C.1 C.2.1 dX3_readNumber_39 (by decide) (fun c7 => ?_) (fun c7 => ?_)
    · have h := if_t c7 h
      exact w_X3_readNumber_b77 C G hP hS (lv_sub hl [0, 1, 2, 3, 4, 5] rfl) h
    · have h := if_f c7 h
      refine lv_bipush (v := 10) C.1 C.2.1 dX3_readNumber_42 (by decide) ?_
      refine lv_iload C.1 C.2.1 dX3_readNumber_44 (lv_at hl 5 rfl) ?_
      obtain ⟨v8, ev8, h⟩ := lt_out h
      refine k_imul C ev8 dX3_readNumber_46 ?_
      refine lv_aload_n C.1 C.2.1 dX3_readNumber_47 rfl (lv_at hl 0 rfl) ?_
      refine lv_aload_n C.1 C.2.1 dX3_readNumber_48 rfl (lv_at hl 0 rfl) ?_
      obtain ⟨v9, ev9, h⟩ := lt_out h
      refine k_geti C G hP g_txt rfl 2 (by decide) n_X3_readNumber_X3 q_X3_readNumber_1 rfl ev9 dX3_readNumber_49 ?_
      obtain ⟨r10, c11, h⟩ := bd_out h
      refine k_callVi C G hP hS (m_X3_byteAt l G.2.1 _  c11) g_txt rfl (cwV 1 C.2.2.2.2.2.1 gX3_readNumber_X3_byteAt rfl rfl rfl (by decide +kernel) ⟨Nat.le_of_ble_eq_true rfl, Nat.le_of_ble_eq_true rfl⟩) (As := [.int v9]) rfl hl.1 rfl (Nat.le_of_ble_eq_true rfl) dX3_readNumber_52 ⟨Nat.le_of_ble_eq_true rfl, Nat.le_of_ble_eq_true rfl⟩ (fun H locs hP hS => ?_)
      obtain ⟨v12, ev12, h⟩ := lt_out h
      refine k_iadd C ev12 dX3_readNumber_55 ?_
      refine lv_bipush (v := 48) C.1 C.2.1 dX3_readNumber_56 (by decide) ?_
      obtain ⟨v13, ev13, h⟩ := lt_out h
      refine k_isub C ev13 dX3_readNumber_58 ?_
      refine lv_istore (lv' := [(5, .int v13), (0, .ref (ad 3)), (1, .int x1), (2, .int x2), (3, .int x3), (4, .int x4), (6, .int x6)]) C.1 C.2.1 dX3_readNumber_59 hl (by decide) rfl (fun ls hl => ?_)
      refine lv_aload_n C.1 C.2.1 dX3_readNumber_61 rfl (lv_at hl 1 rfl) ?_
      refine lv_dup C.1 C.2.1 dX3_readNumber_62 rfl ?_
      obtain ⟨v14, ev14, h⟩ := lt_out h
      refine k_geti C G hP g_txt rfl 2 (by decide) n_X3_readNumber_X3 q_X3_readNumber_1 rfl ev14 dX3_readNumber_63 ?_
      refine lv_iconst (v := 1) C.1 C.2.1 dX3_readNumber_66 (by decide) ?_
      obtain ⟨v15, ev15, h⟩ := lt_out h
      refine k_iadd C ev15 dX3_readNumber_67 ?_
      obtain ⟨T16, eT16, h⟩ := lt_out h
      refine k_puti C G hP hS g_txt rfl 2 (by decide) n_X3_readNumber_X3 q_X3_readNumber_1 tyX3_ok nmX3 rfl (tyX3_ok 2 (by decide)) (Nat.le_of_ble_eq_true rfl) g_txtS2 dX3_readNumber_68 (fun H locs hP hS => ?_)
      rw [← eT16] at hP
      obtain ⟨z17, ez17, h⟩ := lt_out h
      refine lv_iinc (v := z17) (lv' := [(6, .int z17), (5, .int v13), (0, .ref (ad 3)), (1, .int x1), (2, .int x2), (3, .int x3), (4, .int x4)]) C.1 C.2.1 dX3_readNumber_71 hl (k := 6) rfl (by rw [ez17]; rfl) (by decide) rfl (fun ls hl => ?_)
      refine lv_goto (tgt := 22) C.1 C.2.1 dX3_readNumber_74 (by decide) ?_
      exact hK22 hP hS (lv_sub hl [2, 3, 4, 5, 6, 1, 0] rfl)  h
set_option maxRecDepth 100000 in
set_option maxHeartbeats 4000000 in
theorem w_X3_readNumber_h22 {res : Int32 × SL} (C : Cx p s m args meth c cX3_readNumber 7 (some .int) RX3 wsX3_readNumber) (G : Gx D cs ad s) {Ls : Nat → SL} {Hs : SL} {M : SL} {dr : Int64} {hs : Int64} {o : Int64} {od : UInt64} : ∀ (n : Nat) {T : SL} {x1 : Int32} {x2 : Int32} {x3 : Int32} {x4 : Int32} {x5 : Int32} {x6 : Int32} {H : Heap} {locs : List Loc} {ls : Array Slot}, va_P D vwCl (wA cs ad Ls Hs T M dr hs o od) H → va_S (Afr ad s.heap.size) s.heap H locs → lv_has ls 7 [(0, .ref (ad 3)), (1, .int x1), (2, .int x2), (3, .int x3), (4, .int x4), (5, .int x5), (6, .int x6)] → f_X3_readNumber_h22 n T x1 x2 x3 x4 x5 x6 = some res → W p l e rmX3_readNumber s m args below meth c H locs 0 0 (MQ below (va_Qi (fun r' (_ : Unit) => r' = res.1) (fun _ t => va_P D vwCl (wA cs ad Ls Hs res.2 M dr hs o od) t.heap) (Afr ad s.heap.size)) args s 0 0 (Afr ad s.heap.size)) (F0 m 22 ls []) := by
  intro n
  induction n with
  | zero => intro T x1 x2 x3 x4 x5 x6 H locs ls hP hS hl  h; cases h
  | succ n ih => intro T x1 x2 x3 x4 x5 x6 H locs ls hP hS hl  h; exact w_X3_readNumber_b22 C G   ih hP hS hl  h
set_option maxRecDepth 100000 in
set_option maxHeartbeats 4000000 in
theorem w_X3_readNumber_e {res : Int32 × SL} (C : Cx p s m args meth c cX3_readNumber 7 (some .int) RX3 wsX3_readNumber) (G : Gx D cs ad s) {Ls : Nat → SL} {Hs : SL} {M : SL} {dr : Int64} {hs : Int64} {o : Int64} {od : UInt64} {T : SL} {x1 : Int32} {x2 : Int32} {x3 : Int32} {H : Heap} {locs : List Loc} {ls : Array Slot} (hP : va_P D vwCl (wA cs ad Ls Hs T M dr hs o od) H) (hS : va_S (Afr ad s.heap.size) s.heap H locs) (hl : lv_has ls 7 [(0, .ref (ad 3)), (1, .int x1), (2, .int x2), (3, .int x3)]) (h : f_X3_readNumber T x1 x2 x3 = some res) : W p l e rmX3_readNumber s m args below meth c H locs 0 0 (MQ below (va_Qi (fun r' (_ : Unit) => r' = res.1) (fun _ t => va_P D vwCl (wA cs ad Ls Hs res.2 M dr hs o od) t.heap) (Afr ad s.heap.size)) args s 0 0 (Afr ad s.heap.size)) (F0 m 0 ls []) := by
  unfold f_X3_readNumber at h
  refine lv_aload_n C.1 C.2.1 dX3_readNumber_0 rfl (lv_at hl 0 rfl) ?_
  obtain ⟨v1, ev1, h⟩ := lt_out h
  refine k_geti C G hP g_txt rfl 3 (by decide) n_X3_readNumber_X3 q_X3_readNumber_0 rfl ev1 dX3_readNumber_1 ?_
  refine lv_iconst (v := (-1)) C.1 C.2.1 dX3_readNumber_4 (by decide) ?_
  refine lv_icmp_eq (tgt := 10) C.1 C.2.1 dX3_readNumber_5 (by decide) (fun c2 => ?_) (fun c2 => ?_)
  · have h := if_t c2 h
    refine lv_aload_n C.1 C.2.1 dX3_readNumber_10 rfl (lv_at hl 0 rfl) ?_
    obtain ⟨v3, ev3, h⟩ := lt_out h
    refine k_geti C G hP g_txt rfl 2 (by decide) n_X3_readNumber_X3 q_X3_readNumber_1 rfl ev3 dX3_readNumber_11 ?_
    refine lv_istore (lv' := [(4, .int v3), (0, .ref (ad 3)), (1, .int x1), (2, .int x2), (3, .int x3)]) C.1 C.2.1 dX3_readNumber_14 hl (by decide) rfl (fun ls hl => ?_)
    refine lv_iconst (v := 0) C.1 C.2.1 dX3_readNumber_16 (by decide) ?_
    refine lv_istore (lv' := [(5, .int 0), (4, .int v3), (0, .ref (ad 3)), (1, .int x1), (2, .int x2), (3, .int x3)]) C.1 C.2.1 dX3_readNumber_17 hl (by decide) rfl (fun ls hl => ?_)
    refine lv_iconst (v := 0) C.1 C.2.1 dX3_readNumber_19 (by decide) ?_
    refine lv_istore (lv' := [(6, .int 0), (5, .int 0), (4, .int v3), (0, .ref (ad 3)), (1, .int x1), (2, .int x2), (3, .int x3)]) C.1 C.2.1 dX3_readNumber_20 hl (by decide) rfl (fun ls hl => ?_)
    exact w_X3_readNumber_h22 C G fuel hP hS (lv_sub hl [3, 4, 5, 6, 2, 1, 0] rfl) h
  · have h := if_f c2 h
    refine lv_iconst (v := (-1)) C.1 C.2.1 dX3_readNumber_8 (by decide) ?_
    cases h
    exact k_iret C hP hS dX3_readNumber_9
set_option maxRecDepth 100000 in
set_option maxHeartbeats 4000000 in
theorem m_X3_readNumber (l : Launch) {D : va_G} {cs : Nat → ClassId} {ad : Nat → Nat} (hAd : adOK ad) (sz : Nat) {Ls : Nat → SL} {Hs : SL} {T : SL} {M : SL} {dr : Int64} {hs : Int64} {o : Int64} {od : UInt64} {x1 : Int32} {x2 : Int32} {x3 : Int32} {res : Int32 × SL} (h : f_X3_readNumber T x1 x2 x3 = some res) : Met l yX3_readNumber wsX3_readNumber rmX3_readNumber (PA D cs sz (wA cs ad Ls Hs T M dr hs o od) [.ref (ad 3), .int x1, .int x2, .int x3]) (va_Qi (fun r' (_ : Unit) => r' = res.1) (fun _ t => va_P D vwCl (wA cs ad Ls Hs res.2 M dr hs o od) t.heap) (Afr ad sz)) 0 0 (Afr ad sz) :=
  k_met (by decide) rfl (Nat.le_of_ble_eq_true rfl) hAd (fun p e s m below meth c ls C G hP hsz hl hS => by
    subst hsz
    exact w_X3_readNumber_e C G  hP hS hl  h)
/-! X3 readMachine -/
abbrev rmX3_readMachine : Room := { frames := 3, cells := 0, slots := 0, locals := 68 }
theorem q_X3_readMachine_0 : Cond.fieldLink RX3 22 "LineBuffers$LineText" "error" "I" ∈ wsX3_readMachine := List.mem_of_getElem? (i := 1) rfl
theorem n_X3_readMachine_X3 : ∀ x ∈ u_ws RX3 TX3 4, x ∈ wsX3_readMachine := fun x h => List.mem_cons_of_mem _ (List.mem_append_left _ (List.mem_append_right _ h))
set_option maxRecDepth 100000 in
set_option maxHeartbeats 4000000 in
theorem w_X3_readMachine_e {res : SL × SL} (C : Cx p s m args meth c cX3_readMachine 5 none RX3 wsX3_readMachine) (G : Gx D cs ad s) {i : Nat} (hi : i < 6) {Ls : Nat → SL} {Hs : SL} {M : SL} {dr : Int64} {hs : Int64} {o : Int64} {od : UInt64} {L : SL} {T : SL} {H : Heap} {locs : List Loc} {ls : Array Slot} (hP : va_P D vwCl (wA cs ad (va_up Ls i L) Hs T M dr hs o od) H) (hS : va_S (Afr ad s.heap.size) s.heap H locs) (hl : lv_has ls 5 [(0, .ref (ad 3)), (1, .ref (ad (5 + 14 * i + 0)))]) (h : f_X3_readMachine L T = some res) : W p l e rmX3_readMachine s m args below meth c H locs 0 0 (MQ below (va_Qv (fun (_ : Unit) => True) (fun _ t => va_P D vwCl (wA cs ad (va_up Ls i res.1) Hs res.2 M dr hs o od) t.heap) (Afr ad s.heap.size)) args s 0 0 (Afr ad s.heap.size)) (F0 m 0 ls []) := by
  unfold f_X3_readMachine at h
  refine lv_aload_n C.1 C.2.1 dX3_readMachine_0 rfl (lv_at hl 0 rfl) ?_
  refine lv_iconst (v := 1) C.1 C.2.1 dX3_readMachine_1 (by decide) ?_
  refine lv_bipush (v := 20) C.1 C.2.1 dX3_readMachine_2 (by decide) ?_
  refine lv_bipush (v := 44) C.1 C.2.1 dX3_readMachine_4 (by decide) ?_
  obtain ⟨r1, T2, c3, h⟩ := bd2_out h
  refine k_callVi C G hP hS (m_X3_readNumber l G.2.1 _  c3) g_txt rfl (cwV 3 C.2.2.2.2.2.1 gX3_readMachine_X3_readNumber rfl rfl rfl (by decide +kernel) ⟨Nat.le_of_ble_eq_true rfl, Nat.le_of_ble_eq_true rfl⟩) (As := [.int 1, .int 20, .int 44]) rfl hl.1 rfl (Nat.le_of_ble_eq_true rfl) dX3_readMachine_6 ⟨Nat.le_of_ble_eq_true rfl, Nat.le_of_ble_eq_true rfl⟩ (fun H locs hP hS => ?_)
  refine lv_istore_n (lv' := [(2, .int r1), (0, .ref (ad 3)), (1, .ref (ad (5 + 14 * i + 0)))]) C.1 C.2.1 dX3_readMachine_9 rfl hl (by decide) rfl (fun ls hl => ?_)
  refine lv_aload_n C.1 C.2.1 dX3_readMachine_10 rfl (lv_at hl 1 rfl) ?_
  refine lv_iconst (v := 1) C.1 C.2.1 dX3_readMachine_11 (by decide) ?_
  refine lv_iload_n C.1 C.2.1 dX3_readMachine_12 rfl (lv_at hl 0 rfl) ?_
  refine lv_bipush (v := 44) C.1 C.2.1 dX3_readMachine_13 (by decide) ?_
  obtain ⟨r4, T5, c6, h⟩ := bd2_out h
  refine k_callVi C G hP hS (m_X3_readNumber l G.2.1 _  c6) g_txt rfl (cwV 3 C.2.2.2.2.2.1 gX3_readMachine_X3_readNumber rfl rfl rfl (by decide +kernel) ⟨Nat.le_of_ble_eq_true rfl, Nat.le_of_ble_eq_true rfl⟩) (As := [.int 1, .int r1, .int 44]) rfl hl.1 rfl (Nat.le_of_ble_eq_true rfl) dX3_readMachine_15 ⟨Nat.le_of_ble_eq_true rfl, Nat.le_of_ble_eq_true rfl⟩ (fun H locs hP hS => ?_)
  refine lv_istore_n (lv' := [(3, .int r4), (2, .int r1), (0, .ref (ad 3)), (1, .ref (ad (5 + 14 * i + 0)))]) C.1 C.2.1 dX3_readMachine_18 rfl hl (by decide) rfl (fun ls hl => ?_)
  refine lv_aload_n C.1 C.2.1 dX3_readMachine_19 rfl (lv_at hl 2 rfl) ?_
  refine lv_iconst (v := 0) C.1 C.2.1 dX3_readMachine_20 (by decide) ?_
  refine lv_bipush (v := 40) C.1 C.2.1 dX3_readMachine_21 (by decide) ?_
  refine lv_bipush (v := 59) C.1 C.2.1 dX3_readMachine_23 (by decide) ?_
  obtain ⟨r7, T8, c9, h⟩ := bd2_out h
  refine k_callVi C G hP hS (m_X3_readNumber l G.2.1 _  c9) g_txt rfl (cwV 3 C.2.2.2.2.2.1 gX3_readMachine_X3_readNumber rfl rfl rfl (by decide +kernel) ⟨Nat.le_of_ble_eq_true rfl, Nat.le_of_ble_eq_true rfl⟩) (As := [.int 0, .int 40, .int 59]) rfl hl.1 rfl (Nat.le_of_ble_eq_true rfl) dX3_readMachine_25 ⟨Nat.le_of_ble_eq_true rfl, Nat.le_of_ble_eq_true rfl⟩ (fun H locs hP hS => ?_)
  refine lv_istore (lv' := [(4, .int r7), (3, .int r4), (2, .int r1), (0, .ref (ad 3)), (1, .ref (ad (5 + 14 * i + 0)))]) C.1 C.2.1 dX3_readMachine_28 hl (by decide) rfl (fun ls hl => ?_)
  refine lv_aload_n C.1 C.2.1 dX3_readMachine_30 rfl (lv_at hl 3 rfl) ?_
  obtain ⟨v10, ev10, h⟩ := lt_out h
  refine k_geti C G hP g_txt rfl 3 (by decide) n_X3_readMachine_X3 q_X3_readMachine_0 rfl ev10 dX3_readMachine_31 ?_
  refine lv_iconst (v := (-1)) C.1 C.2.1 dX3_readMachine_34 (by decide) ?_
  refine lv_icmp_ne (tgt := 47) C.1 C.2.1 dX3_readMachine_35 (by decide) (fun c11 => ?_) (fun c11 => ?_)
  · have h := if_t c11 h
    cases h
    exact k_vret C hP hS dX3_readMachine_47
  · have h := if_n c11 h
    refine lv_aload_n C.1 C.2.1 dX3_readMachine_38 rfl (lv_at hl 4 rfl) ?_
    refine lv_iload_n C.1 C.2.1 dX3_readMachine_39 rfl (lv_at hl 2 rfl) ?_
    refine lv_iload_n C.1 C.2.1 dX3_readMachine_40 rfl (lv_at hl 1 rfl) ?_
    refine lv_iload C.1 C.2.1 dX3_readMachine_41 (lv_at hl 0 rfl) ?_
    obtain ⟨r12, L13, c14, h⟩ := bd2_out h
    refine k_callVi C G hP hS (m_X2_join l G.2.1 _ hi c14) (v_obj hi) rfl (cwV 3 C.2.2.2.2.2.1 gX3_readMachine_X2_join rfl rfl rfl (by decide +kernel) ⟨Nat.le_of_ble_eq_true rfl, Nat.le_of_ble_eq_true rfl⟩) (As := [.int r1, .int r4, .int r7]) rfl hl.1 rfl (Nat.le_of_ble_eq_true rfl) dX3_readMachine_43 ⟨Nat.le_of_ble_eq_true rfl, Nat.le_of_ble_eq_true rfl⟩ (fun H locs hP hS => ?_)
    refine lv_pop C.1 C.2.1 dX3_readMachine_46 rfl ?_
    cases h
    exact k_vret C hP hS dX3_readMachine_47
set_option maxRecDepth 100000 in
set_option maxHeartbeats 4000000 in
theorem m_X3_readMachine (l : Launch) {D : va_G} {cs : Nat → ClassId} {ad : Nat → Nat} (hAd : adOK ad) (sz : Nat) {i : Nat} (hi : i < 6) {Ls : Nat → SL} {Hs : SL} {T : SL} {M : SL} {dr : Int64} {hs : Int64} {o : Int64} {od : UInt64} {L : SL} {res : SL × SL} (h : f_X3_readMachine L T = some res) : Met l yX3_readMachine wsX3_readMachine rmX3_readMachine (PA D cs sz (wA cs ad (va_up Ls i L) Hs T M dr hs o od) [.ref (ad 3), .ref (ad (5 + 14 * i + 0))]) (va_Qv (fun (_ : Unit) => True) (fun _ t => va_P D vwCl (wA cs ad (va_up Ls i res.1) Hs res.2 M dr hs o od) t.heap) (Afr ad sz)) 0 0 (Afr ad sz) :=
  k_met (by decide) rfl (Nat.le_of_ble_eq_true rfl) hAd (fun p e s m below meth c ls C G hP hsz hl hS => by
    subst hsz
    exact w_X3_readMachine_e C G hi hP hS hl  h)
/-! X3 readMarks -/
abbrev rmX3_readMarks : Room := { frames := 3, cells := 0, slots := 0, locals := 68 }
theorem q_X3_readMarks_0 : Cond.fieldLink RX3 22 "LineBuffers$LineText" "error" "I" ∈ wsX3_readMarks := List.mem_of_getElem? (i := 1) rfl
theorem n_X3_readMarks_X2 : ∀ x ∈ u_ws RX2 TX2 4, x ∈ wsX3_readMarks := fun x h => List.mem_cons_of_mem _ (List.mem_append_left _ (List.mem_append_right _ h))
theorem n_X3_readMarks_X3 : ∀ x ∈ u_ws RX3 TX3 4, x ∈ wsX3_readMarks := fun x h => List.mem_cons_of_mem _ (List.mem_append_right _ h)
set_option maxRecDepth 100000 in
set_option maxHeartbeats 4000000 in
theorem w_X3_readMarks_e {res : SL × SL} (C : Cx p s m args meth c cX3_readMarks 5 none RX3 wsX3_readMarks) (G : Gx D cs ad s) {i : Nat} (hi : i < 6) {Ls : Nat → SL} {Hs : SL} {M : SL} {dr : Int64} {hs : Int64} {o : Int64} {od : UInt64} {L : SL} {T : SL} {H : Heap} {locs : List Loc} {ls : Array Slot} (hP : va_P D vwCl (wA cs ad (va_up Ls i L) Hs T M dr hs o od) H) (hS : va_S (Afr ad s.heap.size) s.heap H locs) (hl : lv_has ls 5 [(0, .ref (ad 3)), (1, .ref (ad (5 + 14 * i + 0)))]) (h : f_X3_readMarks L T = some res) : W p l e rmX3_readMarks s m args below meth c H locs 0 0 (MQ below (va_Qv (fun (_ : Unit) => True) (fun _ t => va_P D vwCl (wA cs ad (va_up Ls i res.1) Hs res.2 M dr hs o od) t.heap) (Afr ad s.heap.size)) args s 0 0 (Afr ad s.heap.size)) (F0 m 0 ls []) := by
  unfold f_X3_readMarks at h
  refine lv_aload_n C.1 C.2.1 dX3_readMarks_0 rfl (lv_at hl 0 rfl) ?_
  refine lv_iconst (v := 0) C.1 C.2.1 dX3_readMarks_1 (by decide) ?_
  refine lv_aload_n C.1 C.2.1 dX3_readMarks_2 rfl (lv_at hl 1 rfl) ?_
  obtain ⟨v1, ev1, h⟩ := lt_out h
  refine k_getiN C G hP (v_obj hi) rfl 2 (by decide) n_X3_readMarks_X2 (List.mem_of_getElem? (i := 5) rfl) rfl ev1 dX3_readMarks_3 ?_
  refine lv_iconst (v := 1) C.1 C.2.1 dX3_readMarks_6 (by decide) ?_
  obtain ⟨v2, ev2, h⟩ := lt_out h
  refine k_isub C ev2 dX3_readMarks_7 ?_
  refine lv_bipush (v := 44) C.1 C.2.1 dX3_readMarks_8 (by decide) ?_
  obtain ⟨r3, T4, c5, h⟩ := bd2_out h
  refine k_callVi C G hP hS (m_X3_readNumber l G.2.1 _  c5) g_txt rfl (cwV 3 C.2.2.2.2.2.1 gX3_readMarks_X3_readNumber rfl rfl rfl (by decide +kernel) ⟨Nat.le_of_ble_eq_true rfl, Nat.le_of_ble_eq_true rfl⟩) (As := [.int 0, .int v2, .int 44]) rfl hl.1 rfl (Nat.le_of_ble_eq_true rfl) dX3_readMarks_10 ⟨Nat.le_of_ble_eq_true rfl, Nat.le_of_ble_eq_true rfl⟩ (fun H locs hP hS => ?_)
  refine lv_istore_n (lv' := [(2, .int r3), (0, .ref (ad 3)), (1, .ref (ad (5 + 14 * i + 0)))]) C.1 C.2.1 dX3_readMarks_13 rfl hl (by decide) rfl (fun ls hl => ?_)
  refine lv_aload_n C.1 C.2.1 dX3_readMarks_14 rfl (lv_at hl 1 rfl) ?_
  refine lv_iconst (v := 0) C.1 C.2.1 dX3_readMarks_15 (by decide) ?_
  refine lv_bipush (v := 40) C.1 C.2.1 dX3_readMarks_16 (by decide) ?_
  refine lv_bipush (v := 44) C.1 C.2.1 dX3_readMarks_18 (by decide) ?_
  obtain ⟨r6, T7, c8, h⟩ := bd2_out h
  refine k_callVi C G hP hS (m_X3_readNumber l G.2.1 _  c8) g_txt rfl (cwV 3 C.2.2.2.2.2.1 gX3_readMarks_X3_readNumber rfl rfl rfl (by decide +kernel) ⟨Nat.le_of_ble_eq_true rfl, Nat.le_of_ble_eq_true rfl⟩) (As := [.int 0, .int 40, .int 44]) rfl hl.1 rfl (Nat.le_of_ble_eq_true rfl) dX3_readMarks_20 ⟨Nat.le_of_ble_eq_true rfl, Nat.le_of_ble_eq_true rfl⟩ (fun H locs hP hS => ?_)
  refine lv_istore_n (lv' := [(3, .int r6), (2, .int r3), (0, .ref (ad 3)), (1, .ref (ad (5 + 14 * i + 0)))]) C.1 C.2.1 dX3_readMarks_23 rfl hl (by decide) rfl (fun ls hl => ?_)
  refine lv_aload_n C.1 C.2.1 dX3_readMarks_24 rfl (lv_at hl 2 rfl) ?_
  refine lv_iload_n C.1 C.2.1 dX3_readMarks_25 rfl (lv_at hl 0 rfl) ?_
  refine lv_bipush (v := 40) C.1 C.2.1 dX3_readMarks_26 (by decide) ?_
  refine lv_bipush (v := 59) C.1 C.2.1 dX3_readMarks_28 (by decide) ?_
  obtain ⟨r9, T10, c11, h⟩ := bd2_out h
  refine k_callVi C G hP hS (m_X3_readNumber l G.2.1 _  c11) g_txt rfl (cwV 3 C.2.2.2.2.2.1 gX3_readMarks_X3_readNumber rfl rfl rfl (by decide +kernel) ⟨Nat.le_of_ble_eq_true rfl, Nat.le_of_ble_eq_true rfl⟩) (As := [.int r6, .int 40, .int 59]) rfl hl.1 rfl (Nat.le_of_ble_eq_true rfl) dX3_readMarks_30 ⟨Nat.le_of_ble_eq_true rfl, Nat.le_of_ble_eq_true rfl⟩ (fun H locs hP hS => ?_)
  refine lv_istore (lv' := [(4, .int r9), (3, .int r6), (2, .int r3), (0, .ref (ad 3)), (1, .ref (ad (5 + 14 * i + 0)))]) C.1 C.2.1 dX3_readMarks_33 hl (by decide) rfl (fun ls hl => ?_)
  refine lv_aload_n C.1 C.2.1 dX3_readMarks_35 rfl (lv_at hl 3 rfl) ?_
  obtain ⟨v12, ev12, h⟩ := lt_out h
  refine k_geti C G hP g_txt rfl 3 (by decide) n_X3_readMarks_X3 q_X3_readMarks_0 rfl ev12 dX3_readMarks_36 ?_
  refine lv_iconst (v := (-1)) C.1 C.2.1 dX3_readMarks_39 (by decide) ?_
  refine lv_icmp_ne (tgt := 51) C.1 C.2.1 dX3_readMarks_40 (by decide) (fun c13 => ?_) (fun c13 => ?_)
  · have h := if_t c13 h
    cases h
    exact k_vret C hP hS dX3_readMarks_51
  · have h := if_n c13 h
    refine lv_aload_n C.1 C.2.1 dX3_readMarks_43 rfl (lv_at hl 4 rfl) ?_
    refine lv_iload_n C.1 C.2.1 dX3_readMarks_44 rfl (lv_at hl 2 rfl) ?_
    refine lv_iload_n C.1 C.2.1 dX3_readMarks_45 rfl (lv_at hl 1 rfl) ?_
    refine lv_iload C.1 C.2.1 dX3_readMarks_46 (lv_at hl 0 rfl) ?_
    obtain ⟨L14, c15, h⟩ := bd_out h
    refine k_callVv C G hP hS (m_X2_mark l G.2.1 _ hi c15) (v_obj hi) rfl (cwV 3 C.2.2.2.2.2.1 gX3_readMarks_X2_mark rfl rfl rfl (by decide +kernel) ⟨Nat.le_of_ble_eq_true rfl, Nat.le_of_ble_eq_true rfl⟩) (As := [.int r3, .int r6, .int r9]) rfl hl.1 rfl (Nat.le_of_ble_eq_true rfl) dX3_readMarks_48 ⟨Nat.le_of_ble_eq_true rfl, Nat.le_of_ble_eq_true rfl⟩ (fun H locs hP hS => ?_)
    cases h
    exact k_vret C hP hS dX3_readMarks_51
set_option maxRecDepth 100000 in
set_option maxHeartbeats 4000000 in
theorem m_X3_readMarks (l : Launch) {D : va_G} {cs : Nat → ClassId} {ad : Nat → Nat} (hAd : adOK ad) (sz : Nat) {i : Nat} (hi : i < 6) {Ls : Nat → SL} {Hs : SL} {T : SL} {M : SL} {dr : Int64} {hs : Int64} {o : Int64} {od : UInt64} {L : SL} {res : SL × SL} (h : f_X3_readMarks L T = some res) : Met l yX3_readMarks wsX3_readMarks rmX3_readMarks (PA D cs sz (wA cs ad (va_up Ls i L) Hs T M dr hs o od) [.ref (ad 3), .ref (ad (5 + 14 * i + 0))]) (va_Qv (fun (_ : Unit) => True) (fun _ t => va_P D vwCl (wA cs ad (va_up Ls i res.1) Hs res.2 M dr hs o od) t.heap) (Afr ad sz)) 0 0 (Afr ad sz) :=
  k_met (by decide) rfl (Nat.le_of_ble_eq_true rfl) hAd (fun p e s m below meth c ls C G hP hsz hl hS => by
    subst hsz
    exact w_X3_readMarks_e C G hi hP hS hl  h)
/-! X3 readItem -/
abbrev rmX3_readItem : Room := { frames := 4, cells := 0, slots := 0, locals := 92 }
theorem q_X3_readItem_0 : Cond.fieldLink RX3 19 "LineBuffers$LineText" "at" "I" ∈ wsX3_readItem := List.mem_of_getElem? (i := 1) rfl
theorem q_X3_readItem_1 : Cond.fieldLink RX3 22 "LineBuffers$LineText" "error" "I" ∈ wsX3_readItem := List.mem_of_getElem? (i := 2) rfl
theorem n_X3_readItem_X3 : ∀ x ∈ u_ws RX3 TX3 4, x ∈ wsX3_readItem := fun x h => List.mem_cons_of_mem _ (List.mem_append_left _ (List.mem_append_right _ h))
theorem n_X3_readItem_X2 : ∀ x ∈ u_ws RX2 TX2 4, x ∈ wsX3_readItem := fun x h => List.mem_cons_of_mem _ (List.mem_append_right _ h)
set_option maxRecDepth 100000 in
set_option maxHeartbeats 4000000 in
theorem w_X3_readItem_b42 {res : SL × SL} (C : Cx p s m args meth c cX3_readItem 3 none RX3 wsX3_readItem) (G : Gx D cs ad s) {i : Nat} (hi : i < 6) {Ls : Nat → SL} {Hs : SL} {M : SL} {dr : Int64} {hs : Int64} {o : Int64} {od : UInt64} {L : SL} {T : SL} {x2 : Int32} {H : Heap} {locs : List Loc} {ls : Array Slot} (hP : va_P D vwCl (wA cs ad (va_up Ls i L) Hs T M dr hs o od) H) (hS : va_S (Afr ad s.heap.size) s.heap H locs) (hl : lv_has ls 3 [(0, .ref (ad 3)), (1, .ref (ad (5 + 14 * i + 0))), (2, .int x2)]) (h : f_X3_readItem_b42 L T x2 = some res) : W p l e rmX3_readItem s m args below meth c H locs 0 0 (MQ below (va_Qv (fun (_ : Unit) => True) (fun _ t => va_P D vwCl (wA cs ad (va_up Ls i res.1) Hs res.2 M dr hs o od) t.heap) (Afr ad s.heap.size)) args s 0 0 (Afr ad s.heap.size)) (F0 m 42 ls []) := by
  unfold f_X3_readItem_b42 at h
  refine lv_iload_n C.1 C.2.1 dX3_readItem_42 rfl (lv_at hl 2 rfl) ?_
  refine lv_bipush (v := 104) C.1 C.2.1 dX3_readItem_43 (by decide) ?_
  refine lv_icmp_ne (tgt := 66) C.1 C.2.1 dX3_readItem_45 (by decide) (fun c1 => ?_) (fun c1 => ?_)
  · have h := if_t c1 h
    refine lv_aload_n C.1 C.2.1 dX3_readItem_66 rfl (lv_at hl 0 rfl) ?_
    refine lv_aload_n C.1 C.2.1 dX3_readItem_67 rfl (lv_at hl 0 rfl) ?_
    obtain ⟨v2, ev2, h⟩ := lt_out h
    refine k_geti C G hP g_txt rfl 2 (by decide) n_X3_readItem_X3 q_X3_readItem_0 rfl ev2 dX3_readItem_68 ?_
    obtain ⟨T3, eT3, h⟩ := lt_out h
    refine k_puti C G hP hS g_txt rfl 3 (by decide) n_X3_readItem_X3 q_X3_readItem_1 tyX3_ok nmX3 rfl (tyX3_ok 3 (by decide)) (Nat.le_of_ble_eq_true rfl) g_txtS3 dX3_readItem_71 (fun H locs hP hS => ?_)
    rw [← eT3] at hP
    cases h
    exact k_vret C hP hS dX3_readItem_74
  · have h := if_n c1 h
    refine lv_aload_n C.1 C.2.1 dX3_readItem_48 rfl (lv_at hl 0 rfl) ?_
    refine lv_dup C.1 C.2.1 dX3_readItem_49 rfl ?_
    obtain ⟨v4, ev4, h⟩ := lt_out h
    refine k_geti C G hP g_txt rfl 2 (by decide) n_X3_readItem_X3 q_X3_readItem_0 rfl ev4 dX3_readItem_50 ?_
    refine lv_iconst (v := 1) C.1 C.2.1 dX3_readItem_53 (by decide) ?_
    obtain ⟨v5, ev5, h⟩ := lt_out h
    refine k_iadd C ev5 dX3_readItem_54 ?_
    obtain ⟨T6, eT6, h⟩ := lt_out h
    refine k_puti C G hP hS g_txt rfl 2 (by decide) n_X3_readItem_X3 q_X3_readItem_0 tyX3_ok nmX3 rfl (tyX3_ok 2 (by decide)) (Nat.le_of_ble_eq_true rfl) g_txtS2 dX3_readItem_55 (fun H locs hP hS => ?_)
    rw [← eT6] at hP
    refine lv_aload_n C.1 C.2.1 dX3_readItem_58 rfl (lv_at hl 0 rfl) ?_
    refine lv_aload_n C.1 C.2.1 dX3_readItem_59 rfl (lv_at hl 1 rfl) ?_
    obtain ⟨L7, T8, c9, h⟩ := bd2_out h
    refine k_callVv C G hP hS (m_X3_readMarks l G.2.1 _ hi c9) g_txt rfl (cwV 1 C.2.2.2.2.2.1 gX3_readItem_X3_readMarks rfl rfl rfl (by decide +kernel) ⟨Nat.le_of_ble_eq_true rfl, Nat.le_of_ble_eq_true rfl⟩) (As := [.ref (ad (5 + 14 * i + 0))]) rfl hl.1 rfl (Nat.le_of_ble_eq_true rfl) dX3_readItem_60 ⟨Nat.le_of_ble_eq_true rfl, Nat.le_of_ble_eq_true rfl⟩ (fun H locs hP hS => ?_)
    refine lv_goto (tgt := 74) C.1 C.2.1 dX3_readItem_63 (by decide) ?_
    cases h
    exact k_vret C hP hS dX3_readItem_74
set_option maxRecDepth 100000 in
set_option maxHeartbeats 4000000 in
theorem w_X3_readItem_e {res : SL × SL} (C : Cx p s m args meth c cX3_readItem 3 none RX3 wsX3_readItem) (G : Gx D cs ad s) {i : Nat} (hi : i < 6) {Ls : Nat → SL} {Hs : SL} {M : SL} {dr : Int64} {hs : Int64} {o : Int64} {od : UInt64} {L : SL} {T : SL} {H : Heap} {locs : List Loc} {ls : Array Slot} (hP : va_P D vwCl (wA cs ad (va_up Ls i L) Hs T M dr hs o od) H) (hS : va_S (Afr ad s.heap.size) s.heap H locs) (hl : lv_has ls 3 [(0, .ref (ad 3)), (1, .ref (ad (5 + 14 * i + 0)))]) (h : f_X3_readItem L T = some res) : W p l e rmX3_readItem s m args below meth c H locs 0 0 (MQ below (va_Qv (fun (_ : Unit) => True) (fun _ t => va_P D vwCl (wA cs ad (va_up Ls i res.1) Hs res.2 M dr hs o od) t.heap) (Afr ad s.heap.size)) args s 0 0 (Afr ad s.heap.size)) (F0 m 0 ls []) := by
  unfold f_X3_readItem at h
  refine lv_aload_n C.1 C.2.1 dX3_readItem_0 rfl (lv_at hl 0 rfl) ?_
  refine lv_aload_n C.1 C.2.1 dX3_readItem_1 rfl (lv_at hl 0 rfl) ?_
  obtain ⟨v1, ev1, h⟩ := lt_out h
  refine k_geti C G hP g_txt rfl 2 (by decide) n_X3_readItem_X3 q_X3_readItem_0 rfl ev1 dX3_readItem_2 ?_
  obtain ⟨r2, c3, h⟩ := bd_out h
  refine k_callVi C G hP hS (m_X3_byteAt l G.2.1 _  c3) g_txt rfl (cwV 1 C.2.2.2.2.2.1 gX3_readItem_X3_byteAt rfl rfl rfl (by decide +kernel) ⟨Nat.le_of_ble_eq_true rfl, Nat.le_of_ble_eq_true rfl⟩) (As := [.int v1]) rfl hl.1 rfl (Nat.le_of_ble_eq_true rfl) dX3_readItem_5 ⟨Nat.le_of_ble_eq_true rfl, Nat.le_of_ble_eq_true rfl⟩ (fun H locs hP hS => ?_)
  refine lv_istore_n (lv' := [(2, .int r2), (0, .ref (ad 3)), (1, .ref (ad (5 + 14 * i + 0)))]) C.1 C.2.1 dX3_readItem_8 rfl hl (by decide) rfl (fun ls hl => ?_)
  refine lv_iload_n C.1 C.2.1 dX3_readItem_9 rfl (lv_at hl 0 rfl) ?_
  refine lv_bipush (v := 109) C.1 C.2.1 dX3_readItem_10 (by decide) ?_
  refine lv_icmp_ne (tgt := 42) C.1 C.2.1 dX3_readItem_12 (by decide) (fun c4 => ?_) (fun c4 => ?_)
  · have h := if_t c4 h
    exact w_X3_readItem_b42 C G hi hP hS (lv_sub hl [1, 2, 0] rfl) h
  · have h := if_n c4 h
    refine lv_aload_n C.1 C.2.1 dX3_readItem_15 rfl (lv_at hl 2 rfl) ?_
    obtain ⟨v5, ev5, h⟩ := lt_out h
    refine k_getiN C G hP (v_obj hi) rfl 2 (by decide) n_X3_readItem_X2 (List.mem_of_getElem? (i := 5) rfl) rfl ev5 dX3_readItem_16 ?_
    refine lv_bipush (v := 8) C.1 C.2.1 dX3_readItem_19 (by decide) ?_
    refine lv_icmp_ge (tgt := 42) C.1 C.2.1 dX3_readItem_21 (by decide) (fun c6 => ?_) (fun c6 => ?_)
    · have h := if_t c6 h
      exact w_X3_readItem_b42 C G hi hP hS (lv_sub hl [1, 2, 0] rfl) h
    · have h := if_f c6 h
      refine lv_aload_n C.1 C.2.1 dX3_readItem_24 rfl (lv_at hl 1 rfl) ?_
      refine lv_dup C.1 C.2.1 dX3_readItem_25 rfl ?_
      obtain ⟨v7, ev7, h⟩ := lt_out h
      refine k_geti C G hP g_txt rfl 2 (by decide) n_X3_readItem_X3 q_X3_readItem_0 rfl ev7 dX3_readItem_26 ?_
      refine lv_iconst (v := 1) C.1 C.2.1 dX3_readItem_29 (by decide) ?_
      obtain ⟨v8, ev8, h⟩ := lt_out h
      refine k_iadd C ev8 dX3_readItem_30 ?_
      obtain ⟨T9, eT9, h⟩ := lt_out h
      refine k_puti C G hP hS g_txt rfl 2 (by decide) n_X3_readItem_X3 q_X3_readItem_0 tyX3_ok nmX3 rfl (tyX3_ok 2 (by decide)) (Nat.le_of_ble_eq_true rfl) g_txtS2 dX3_readItem_31 (fun H locs hP hS => ?_)
      rw [← eT9] at hP
      refine lv_aload_n C.1 C.2.1 dX3_readItem_34 rfl (lv_at hl 1 rfl) ?_
      refine lv_aload_n C.1 C.2.1 dX3_readItem_35 rfl (lv_at hl 2 rfl) ?_
      obtain ⟨L10, T11, c12, h⟩ := bd2_out h
      refine k_callVv C G hP hS (m_X3_readMachine l G.2.1 _ hi c12) g_txt rfl (cwV 1 C.2.2.2.2.2.1 gX3_readItem_X3_readMachine rfl rfl rfl (by decide +kernel) ⟨Nat.le_of_ble_eq_true rfl, Nat.le_of_ble_eq_true rfl⟩) (As := [.ref (ad (5 + 14 * i + 0))]) rfl hl.1 rfl (Nat.le_of_ble_eq_true rfl) dX3_readItem_36 ⟨Nat.le_of_ble_eq_true rfl, Nat.le_of_ble_eq_true rfl⟩ (fun H locs hP hS => ?_)
      refine lv_goto (tgt := 74) C.1 C.2.1 dX3_readItem_39 (by decide) ?_
      cases h
      exact k_vret C hP hS dX3_readItem_74
set_option maxRecDepth 100000 in
set_option maxHeartbeats 4000000 in
theorem m_X3_readItem (l : Launch) {D : va_G} {cs : Nat → ClassId} {ad : Nat → Nat} (hAd : adOK ad) (sz : Nat) {i : Nat} (hi : i < 6) {Ls : Nat → SL} {Hs : SL} {T : SL} {M : SL} {dr : Int64} {hs : Int64} {o : Int64} {od : UInt64} {L : SL} {res : SL × SL} (h : f_X3_readItem L T = some res) : Met l yX3_readItem wsX3_readItem rmX3_readItem (PA D cs sz (wA cs ad (va_up Ls i L) Hs T M dr hs o od) [.ref (ad 3), .ref (ad (5 + 14 * i + 0))]) (va_Qv (fun (_ : Unit) => True) (fun _ t => va_P D vwCl (wA cs ad (va_up Ls i res.1) Hs res.2 M dr hs o od) t.heap) (Afr ad sz)) 0 0 (Afr ad sz) :=
  k_met (by decide) rfl (Nat.le_of_ble_eq_true rfl) hAd (fun p e s m below meth c ls C G hP hsz hl hS => by
    subst hsz
    exact w_X3_readItem_e C G hi hP hS hl  h)
/-! X3 readInto -/
abbrev rmX3_readInto : Room := { frames := 5, cells := 0, slots := 0, locals := 114 }
theorem q_X3_readInto_0 : Cond.fieldLink RX3 19 "LineBuffers$LineText" "at" "I" ∈ wsX3_readInto := List.mem_of_getElem? (i := 1) rfl
theorem q_X3_readInto_1 : Cond.fieldLink RX3 22 "LineBuffers$LineText" "error" "I" ∈ wsX3_readInto := List.mem_of_getElem? (i := 2) rfl
theorem q_X3_readInto_2 : Cond.fieldLink RX3 15 "LineBuffers$LineText" "length" "I" ∈ wsX3_readInto := List.mem_of_getElem? (i := 3) rfl
theorem n_X3_readInto_X3 : ∀ x ∈ u_ws RX3 TX3 4, x ∈ wsX3_readInto := fun x h => List.mem_cons_of_mem _ (List.mem_append_left _ (List.mem_append_left _ (List.mem_append_right _ h)))
set_option maxRecDepth 100000 in
set_option maxHeartbeats 4000000 in
theorem w_X3_readInto_b16 {res : Int32 × SL × SL} (C : Cx p s m args meth c cX3_readInto 3 (some .int) RX3 wsX3_readInto) (G : Gx D cs ad s) {i : Nat} (hi : i < 6) {Ls : Nat → SL} {Hs : SL} {M : SL} {dr : Int64} {hs : Int64} {o : Int64} {od : UInt64} {K16 : SL → SL → Int32 → Option (Int32 × SL × SL)} (hK16 : ∀ {L : SL} {T : SL} {x2 : Int32} {H : Heap} {locs : List Loc} {ls : Array Slot}, va_P D vwCl (wA cs ad (va_up Ls i L) Hs T M dr hs o od) H → va_S (Afr ad s.heap.size) s.heap H locs → lv_has ls 3 [(0, .ref (ad 3)), (1, .ref (ad (5 + 14 * i + 0))), (2, .int x2)] → K16 L T x2 = some res → W p l e rmX3_readInto s m args below meth c H locs 0 0 (MQ below (va_Qi (fun r' (_ : Unit) => r' = res.1) (fun _ t => va_P D vwCl (wA cs ad (va_up Ls i res.2.1) Hs res.2.2 M dr hs o od) t.heap) (Afr ad s.heap.size)) args s 0 0 (Afr ad s.heap.size)) (F0 m 16 ls [])) {L : SL} {T : SL} {x2 : Int32} {H : Heap} {locs : List Loc} {ls : Array Slot} (hP : va_P D vwCl (wA cs ad (va_up Ls i L) Hs T M dr hs o od) H) (hS : va_S (Afr ad s.heap.size) s.heap H locs) (hl : lv_has ls 3 [(0, .ref (ad 3)), (1, .ref (ad (5 + 14 * i + 0))), (2, .int x2)]) (h : f_X3_readInto_b16 K16 L T x2 = some res) : W p l e rmX3_readInto s m args below meth c H locs 0 0 (MQ below (va_Qi (fun r' (_ : Unit) => r' = res.1) (fun _ t => va_P D vwCl (wA cs ad (va_up Ls i res.2.1) Hs res.2.2 M dr hs o od) t.heap) (Afr ad s.heap.size)) args s 0 0 (Afr ad s.heap.size)) (F0 m 16 ls []) := by
  unfold f_X3_readInto_b16 at h
  refine lv_iload_n C.1 C.2.1 dX3_readInto_16 rfl (lv_at hl 2 rfl) ?_
  refine lv_bipush (v := 120) C.1 C.2.1 dX3_readInto_17 (by decide) ?_
  refine lv_icmp_ge (tgt := 52) C.1 C.2.1 dX3_readInto_19 (by decide) (fun c1 => ?_) (fun c1 => ?_)
  · have h := if_t c1 h
    refine lv_aload_n C.1 C.2.1 dX3_readInto_52 rfl (lv_at hl 0 rfl) ?_
    obtain ⟨v2, ev2, h⟩ := lt_out h
    refine k_geti C G hP g_txt rfl 3 (by decide) n_X3_readInto_X3 q_X3_readInto_1 rfl ev2 dX3_readInto_53 ?_
    cases h
    exact k_iret C hP hS dX3_readInto_56
  · have h := if_f c1 h
    refine lv_aload_n C.1 C.2.1 dX3_readInto_22 rfl (lv_at hl 0 rfl) ?_
    obtain ⟨v3, ev3, h⟩ := lt_out h
    refine k_geti C G hP g_txt rfl 2 (by decide) n_X3_readInto_X3 q_X3_readInto_0 rfl ev3 dX3_readInto_23 ?_
    refine lv_aload_n C.1 C.2.1 dX3_readInto_26 rfl (lv_at hl 0 rfl) ?_
    obtain ⟨v4, ev4, h⟩ := lt_out h
    refine k_geti C G hP g_txt rfl 1 (by decide) n_X3_readInto_X3 q_X3_readInto_2 rfl ev4 dX3_readInto_27 ?_
    refine lv_icmp_ge (tgt := 52) C.1 C.2.1 dX3_readInto_30 (by decide) (fun c5 => ?_) (fun c5 => ?_)
    · have h := if_t c5 h
      refine lv_aload_n C.1 C.2.1 dX3_readInto_52 rfl (lv_at hl 0 rfl) ?_
      obtain ⟨v6, ev6, h⟩ := lt_out h
      refine k_geti C G hP g_txt rfl 3 (by decide) n_X3_readInto_X3 q_X3_readInto_1 rfl ev6 dX3_readInto_53 ?_
      cases h
      exact k_iret C hP hS dX3_readInto_56
    · have h := if_f c5 h
      refine lv_aload_n C.1 C.2.1 dX3_readInto_33 rfl (lv_at hl 0 rfl) ?_
      obtain ⟨v7, ev7, h⟩ := lt_out h
      refine k_geti C G hP g_txt rfl 3 (by decide) n_X3_readInto_X3 q_X3_readInto_1 rfl ev7 dX3_readInto_34 ?_
      refine lv_iconst (v := (-1)) C.1 C.2.1 dX3_readInto_37 (by decide) ?_
      refine lv_icmp_ne (tgt := 52) C.1 C.2.1 dX3_readInto_38 (by decide) (fun c8 => ?_) (fun c8 => ?_)
      · have h := if_t c8 h
        refine lv_aload_n C.1 C.2.1 dX3_readInto_52 rfl (lv_at hl 0 rfl) ?_
        obtain ⟨v9, ev9, h⟩ := lt_out h
        refine k_geti C G hP g_txt rfl 3 (by decide) n_X3_readInto_X3 q_X3_readInto_1 rfl ev9 dX3_readInto_53 ?_
        cases h
        exact k_iret C hP hS dX3_readInto_56
      · have h := if_n c8 h
        refine lv_aload_n C.1 C.2.1 dX3_readInto_41 rfl (lv_at hl 0 rfl) ?_
        refine lv_aload_n C.1 C.2.1 dX3_readInto_42 rfl (lv_at hl 1 rfl) ?_
        obtain ⟨L10, T11, c12, h⟩ := bd2_out h
        refine k_callVv C G hP hS (m_X3_readItem l G.2.1 _ hi c12) g_txt rfl (cwV 1 C.2.2.2.2.2.1 gX3_readInto_X3_readItem rfl rfl rfl (by decide +kernel) ⟨Nat.le_of_ble_eq_true rfl, Nat.le_of_ble_eq_true rfl⟩) (As := [.ref (ad (5 + 14 * i + 0))]) rfl hl.1 rfl (Nat.le_of_ble_eq_true rfl) dX3_readInto_43 ⟨Nat.le_of_ble_eq_true rfl, Nat.le_of_ble_eq_true rfl⟩ (fun H locs hP hS => ?_)
        obtain ⟨z13, ez13, h⟩ := lt_out h
        refine lv_iinc (v := z13) (lv' := [(2, .int z13), (0, .ref (ad 3)), (1, .ref (ad (5 + 14 * i + 0)))]) C.1 C.2.1 dX3_readInto_46 hl (k := 2) rfl (by rw [ez13]; rfl) (by decide) rfl (fun ls hl => ?_)
        refine lv_goto (tgt := 16) C.1 C.2.1 dX3_readInto_49 (by decide) ?_
        exact hK16 hP hS (lv_sub hl [1, 2, 0] rfl)  h
set_option maxRecDepth 100000 in
set_option maxHeartbeats 4000000 in
theorem w_X3_readInto_h16 {res : Int32 × SL × SL} (C : Cx p s m args meth c cX3_readInto 3 (some .int) RX3 wsX3_readInto) (G : Gx D cs ad s) {i : Nat} (hi : i < 6) {Ls : Nat → SL} {Hs : SL} {M : SL} {dr : Int64} {hs : Int64} {o : Int64} {od : UInt64} : ∀ (n : Nat) {L : SL} {T : SL} {x2 : Int32} {H : Heap} {locs : List Loc} {ls : Array Slot}, va_P D vwCl (wA cs ad (va_up Ls i L) Hs T M dr hs o od) H → va_S (Afr ad s.heap.size) s.heap H locs → lv_has ls 3 [(0, .ref (ad 3)), (1, .ref (ad (5 + 14 * i + 0))), (2, .int x2)] → f_X3_readInto_h16 n L T x2 = some res → W p l e rmX3_readInto s m args below meth c H locs 0 0 (MQ below (va_Qi (fun r' (_ : Unit) => r' = res.1) (fun _ t => va_P D vwCl (wA cs ad (va_up Ls i res.2.1) Hs res.2.2 M dr hs o od) t.heap) (Afr ad s.heap.size)) args s 0 0 (Afr ad s.heap.size)) (F0 m 16 ls []) := by
  intro n
  induction n with
  | zero => intro L T x2 H locs ls hP hS hl  h; cases h
  | succ n ih => intro L T x2 H locs ls hP hS hl  h; exact w_X3_readInto_b16 C G hi  ih hP hS hl  h
set_option maxRecDepth 100000 in
set_option maxHeartbeats 4000000 in
theorem w_X3_readInto_e {res : Int32 × SL × SL} (C : Cx p s m args meth c cX3_readInto 3 (some .int) RX3 wsX3_readInto) (G : Gx D cs ad s) {i : Nat} (hi : i < 6) {Ls : Nat → SL} {Hs : SL} {M : SL} {dr : Int64} {hs : Int64} {o : Int64} {od : UInt64} {L : SL} {T : SL} {H : Heap} {locs : List Loc} {ls : Array Slot} (hP : va_P D vwCl (wA cs ad (va_up Ls i L) Hs T M dr hs o od) H) (hS : va_S (Afr ad s.heap.size) s.heap H locs) (hl : lv_has ls 3 [(0, .ref (ad 3)), (1, .ref (ad (5 + 14 * i + 0)))]) (h : f_X3_readInto L T = some res) : W p l e rmX3_readInto s m args below meth c H locs 0 0 (MQ below (va_Qi (fun r' (_ : Unit) => r' = res.1) (fun _ t => va_P D vwCl (wA cs ad (va_up Ls i res.2.1) Hs res.2.2 M dr hs o od) t.heap) (Afr ad s.heap.size)) args s 0 0 (Afr ad s.heap.size)) (F0 m 0 ls []) := by
  unfold f_X3_readInto at h
  refine lv_aload_n C.1 C.2.1 dX3_readInto_0 rfl (lv_at hl 0 rfl) ?_
  refine lv_iconst (v := 0) C.1 C.2.1 dX3_readInto_1 (by decide) ?_
  obtain ⟨T1, eT1, h⟩ := lt_out h
  refine k_puti C G hP hS g_txt rfl 2 (by decide) n_X3_readInto_X3 q_X3_readInto_0 tyX3_ok nmX3 rfl (tyX3_ok 2 (by decide)) (Nat.le_of_ble_eq_true rfl) g_txtS2 dX3_readInto_2 (fun H locs hP hS => ?_)
  rw [← eT1] at hP
  refine lv_aload_n C.1 C.2.1 dX3_readInto_5 rfl (lv_at hl 0 rfl) ?_
  refine lv_iconst (v := (-1)) C.1 C.2.1 dX3_readInto_6 (by decide) ?_
  obtain ⟨T2, eT2, h⟩ := lt_out h
  refine k_puti C G hP hS g_txt rfl 3 (by decide) n_X3_readInto_X3 q_X3_readInto_1 tyX3_ok nmX3 rfl (tyX3_ok 3 (by decide)) (Nat.le_of_ble_eq_true rfl) g_txtS3 dX3_readInto_7 (fun H locs hP hS => ?_)
  rw [← eT2] at hP
  refine lv_aload_n C.1 C.2.1 dX3_readInto_10 rfl (lv_at hl 1 rfl) ?_
  obtain ⟨L3, c4, h⟩ := bd_out h
  refine k_callVv C G hP hS (m_X2_takeApart l G.2.1 _ hi c4) (v_obj hi) rfl (cwV 0 C.2.2.2.2.2.1 gX3_readInto_X2_takeApart rfl rfl rfl (by decide +kernel) ⟨Nat.le_of_ble_eq_true rfl, Nat.le_of_ble_eq_true rfl⟩) (As := []) rfl hl.1 rfl (Nat.le_of_ble_eq_true rfl) dX3_readInto_11 ⟨Nat.le_of_ble_eq_true rfl, Nat.le_of_ble_eq_true rfl⟩ (fun H locs hP hS => ?_)
  refine lv_iconst (v := 0) C.1 C.2.1 dX3_readInto_14 (by decide) ?_
  refine lv_istore_n (lv' := [(2, .int 0), (0, .ref (ad 3)), (1, .ref (ad (5 + 14 * i + 0)))]) C.1 C.2.1 dX3_readInto_15 rfl hl (by decide) rfl (fun ls hl => ?_)
  exact w_X3_readInto_h16 C G hi fuel hP hS (lv_sub hl [1, 2, 0] rfl) h
set_option maxRecDepth 100000 in
set_option maxHeartbeats 4000000 in
theorem m_X3_readInto (l : Launch) {D : va_G} {cs : Nat → ClassId} {ad : Nat → Nat} (hAd : adOK ad) (sz : Nat) {i : Nat} (hi : i < 6) {Ls : Nat → SL} {Hs : SL} {T : SL} {M : SL} {dr : Int64} {hs : Int64} {o : Int64} {od : UInt64} {L : SL} {res : Int32 × SL × SL} (h : f_X3_readInto L T = some res) : Met l yX3_readInto wsX3_readInto rmX3_readInto (PA D cs sz (wA cs ad (va_up Ls i L) Hs T M dr hs o od) [.ref (ad 3), .ref (ad (5 + 14 * i + 0))]) (va_Qi (fun r' (_ : Unit) => r' = res.1) (fun _ t => va_P D vwCl (wA cs ad (va_up Ls i res.2.1) Hs res.2.2 M dr hs o od) t.heap) (Afr ad sz)) 0 0 (Afr ad sz) :=
  k_met (by decide) rfl (Nat.le_of_ble_eq_true rfl) hAd (fun p e s m below meth c ls C G hP hsz hl hS => by
    subst hsz
    exact w_X3_readInto_e C G hi hP hS hl  h)
end GEN
end
section
theorem zz_tw1 : twL.all (fun w => match w with | .codeSync .. => true | _ => false) = true := by decide +kernel
theorem zz_tw2 : twL.all (fun w => match w with | .castable .. => true | .selects .. => true | .lays .. => true | .instantiable .. => true | .superclass .. => true | .initialized .. => true | .native .. => true | .instanceMethod .. => true | .code .. => true | .codeSync .. => true | _ => false) = true := by decide +kernel
theorem zz_tw3 : twL.length = 3 := by decide +kernel
end
