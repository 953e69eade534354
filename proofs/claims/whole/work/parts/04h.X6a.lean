theorem dX6_init_0 : decode cX6_init 0 = .ok (.aload_n 0, 1) := by decide +kernel
theorem dX6_init_1 : decode cX6_init 1 = .ok (.invokespecial 1, 3) := by decide +kernel
theorem dX6_init_4 : decode cX6_init 4 = .ok (.aload_n 0, 1) := by decide +kernel
theorem dX6_init_5 : decode cX6_init 5 = .ok (.sipush 251, 3) := by decide +kernel
theorem dX6_init_8 : decode cX6_init 8 = .ok (.newarray .int, 2) := by decide +kernel
theorem dX6_init_10 : decode cX6_init 10 = .ok (.putfield 7, 3) := by decide +kernel
theorem dX6_init_13 : decode cX6_init 13 = .ok (.aload_n 0, 1) := by decide +kernel
theorem dX6_init_14 : decode cX6_init 14 = .ok (.sipush 1004, 3) := by decide +kernel
theorem dX6_init_17 : decode cX6_init 17 = .ok (.newarray .int, 2) := by decide +kernel
theorem dX6_init_19 : decode cX6_init 19 = .ok (.putfield 13, 3) := by decide +kernel
theorem dX6_init_22 : decode cX6_init 22 = .ok (.aload_n 0, 1) := by decide +kernel
theorem dX6_init_23 : decode cX6_init 23 = .ok (.sipush 251, 3) := by decide +kernel
theorem dX6_init_26 : decode cX6_init 26 = .ok (.newarray .int, 2) := by decide +kernel
theorem dX6_init_28 : decode cX6_init 28 = .ok (.putfield 16, 3) := by decide +kernel
theorem dX6_init_31 : decode cX6_init 31 = .ok (.aload_n 0, 1) := by decide +kernel
theorem dX6_init_32 : decode cX6_init 32 = .ok (.bipush 120, 2) := by decide +kernel
theorem dX6_init_34 : decode cX6_init 34 = .ok (.newarray .int, 2) := by decide +kernel
theorem dX6_init_36 : decode cX6_init 36 = .ok (.putfield 19, 3) := by decide +kernel
theorem dX6_init_39 : decode cX6_init 39 = .ok (.aload_n 0, 1) := by decide +kernel
theorem dX6_init_40 : decode cX6_init 40 = .ok (.sipush 10001, 3) := by decide +kernel
theorem dX6_init_43 : decode cX6_init 43 = .ok (.newarray .int, 2) := by decide +kernel
theorem dX6_init_45 : decode cX6_init 45 = .ok (.putfield 22, 3) := by decide +kernel
theorem dX6_init_48 : decode cX6_init 48 = .ok (.return_, 1) := by decide +kernel
theorem dX6_thrown_0 : decode cX6_thrown 0 = .ok (.aload_n 0, 1) := by decide +kernel
theorem dX6_thrown_1 : decode cX6_thrown 1 = .ok (.getfield 25, 3) := by decide +kernel
theorem dX6_thrown_4 : decode cX6_thrown 4 = .ok (.ireturn, 1) := by decide +kernel
theorem dX6_refused_0 : decode cX6_refused 0 = .ok (.aload_n 0, 1) := by decide +kernel
theorem dX6_refused_1 : decode cX6_refused 1 = .ok (.iload_n 1, 1) := by decide +kernel
theorem dX6_refused_2 : decode cX6_refused 2 = .ok (.putfield 25, 3) := by decide +kernel
theorem dX6_refused_5 : decode cX6_refused 5 = .ok (.iload_n 1, 1) := by decide +kernel
theorem dX6_refused_6 : decode cX6_refused 6 = .ok (.ifCond .le 7, 3) := by decide +kernel
theorem dX6_refused_9 : decode cX6_refused 9 = .ok (.iconst 1, 1) := by decide +kernel
theorem dX6_refused_10 : decode cX6_refused 10 = .ok (.goto 4, 3) := by decide +kernel
theorem dX6_refused_13 : decode cX6_refused 13 = .ok (.iconst 0, 1) := by decide +kernel
theorem dX6_refused_14 : decode cX6_refused 14 = .ok (.ireturn, 1) := by decide +kernel
theorem dX6_within_0 : decode cX6_within 0 = .ok (.iload_n 0, 1) := by decide +kernel
theorem dX6_within_1 : decode cX6_within 1 = .ok (.iload_n 1, 1) := by decide +kernel
theorem dX6_within_2 : decode cX6_within 2 = .ok (.if_icmp .lt 12, 3) := by decide +kernel
theorem dX6_within_5 : decode cX6_within 5 = .ok (.iload_n 0, 1) := by decide +kernel
theorem dX6_within_6 : decode cX6_within 6 = .ok (.iload_n 2, 1) := by decide +kernel
theorem dX6_within_7 : decode cX6_within 7 = .ok (.if_icmp .gt 7, 3) := by decide +kernel
theorem dX6_within_10 : decode cX6_within 10 = .ok (.iconst 1, 1) := by decide +kernel
theorem dX6_within_11 : decode cX6_within 11 = .ok (.goto 4, 3) := by decide +kernel
theorem dX6_within_14 : decode cX6_within 14 = .ok (.iconst 0, 1) := by decide +kernel
theorem dX6_within_15 : decode cX6_within 15 = .ok (.ireturn, 1) := by decide +kernel
set_option maxRecDepth 20000 in
theorem ggX6_isMachine_X6_within : GoodIn wsX6_isMachine wsX6_within := goodIn_r _ [5] (by decide +kernel) (by decide +kernel)
set_option maxRecDepth 20000 in
theorem gX6_isMachine_X6_within : GoodIn wsX6_isMachine (va_wsS RX6 29 yX6_within wsX6_within) := goodIn_app (goodIn_of _ (by decide +kernel)) ggX6_isMachine_X6_within
theorem dX6_isMachine_0 : decode cX6_isMachine 0 = .ok (.iload_n 1, 1) := by decide +kernel
theorem dX6_isMachine_1 : decode cX6_isMachine 1 = .ok (.iconst 0, 1) := by decide +kernel
theorem dX6_isMachine_2 : decode cX6_isMachine 2 = .ok (.aload_n 0, 1) := by decide +kernel
theorem dX6_isMachine_3 : decode cX6_isMachine 3 = .ok (.getfield 7, 3) := by decide +kernel
theorem dX6_isMachine_6 : decode cX6_isMachine 6 = .ok (.iconst 0, 1) := by decide +kernel
theorem dX6_isMachine_7 : decode cX6_isMachine 7 = .ok (.iaload, 1) := by decide +kernel
theorem dX6_isMachine_8 : decode cX6_isMachine 8 = .ok (.iconst 1, 1) := by decide +kernel
theorem dX6_isMachine_9 : decode cX6_isMachine 9 = .ok (.isub, 1) := by decide +kernel
theorem dX6_isMachine_10 : decode cX6_isMachine 10 = .ok (.invokestatic 29, 3) := by decide +kernel
theorem dX6_isMachine_13 : decode cX6_isMachine 13 = .ok (.ireturn, 1) := by decide +kernel
theorem dX6_of_0 : decode cX6_of 0 = .ok (.iconst 3, 1) := by decide +kernel
theorem dX6_of_1 : decode cX6_of 1 = .ok (.bipush 16, 2) := by decide +kernel
theorem dX6_of_3 : decode cX6_of 3 = .ok (.iload_n 0, 1) := by decide +kernel
theorem dX6_of_4 : decode cX6_of 4 = .ok (.imul, 1) := by decide +kernel
theorem dX6_of_5 : decode cX6_of 5 = .ok (.iadd, 1) := by decide +kernel
theorem dX6_of_6 : decode cX6_of 6 = .ok (.ireturn, 1) := by decide +kernel
theorem dX6_saves_0 : decode cX6_saves 0 = .ok (.aload_n 0, 1) := by decide +kernel
theorem dX6_saves_1 : decode cX6_saves 1 = .ok (.getfield 33, 3) := by decide +kernel
theorem dX6_saves_4 : decode cX6_saves 4 = .ok (.iconst 4, 1) := by decide +kernel
theorem dX6_saves_5 : decode cX6_saves 5 = .ok (.if_icmp .ne 44, 3) := by decide +kernel
theorem dX6_saves_8 : decode cX6_saves 8 = .ok (.iconst 0, 1) := by decide +kernel
theorem dX6_saves_9 : decode cX6_saves 9 = .ok (.istore_n 1, 1) := by decide +kernel
theorem dX6_saves_10 : decode cX6_saves 10 = .ok (.iload_n 1, 1) := by decide +kernel
theorem dX6_saves_11 : decode cX6_saves 11 = .ok (.sipush 753, 3) := by decide +kernel
theorem dX6_saves_14 : decode cX6_saves 14 = .ok (.if_icmp .ge 25, 3) := by decide +kernel
theorem dX6_saves_17 : decode cX6_saves 17 = .ok (.aload_n 0, 1) := by decide +kernel
theorem dX6_saves_18 : decode cX6_saves 18 = .ok (.getfield 13, 3) := by decide +kernel
theorem dX6_saves_21 : decode cX6_saves 21 = .ok (.iload_n 1, 1) := by decide +kernel
theorem dX6_saves_22 : decode cX6_saves 22 = .ok (.aload_n 0, 1) := by decide +kernel
theorem dX6_saves_23 : decode cX6_saves 23 = .ok (.getfield 13, 3) := by decide +kernel
theorem dX6_saves_26 : decode cX6_saves 26 = .ok (.iload_n 1, 1) := by decide +kernel
theorem dX6_saves_27 : decode cX6_saves 27 = .ok (.sipush 251, 3) := by decide +kernel
theorem dX6_saves_30 : decode cX6_saves 30 = .ok (.iadd, 1) := by decide +kernel
theorem dX6_saves_31 : decode cX6_saves 31 = .ok (.iaload, 1) := by decide +kernel
theorem dX6_saves_32 : decode cX6_saves 32 = .ok (.iastore, 1) := by decide +kernel
theorem dX6_saves_33 : decode cX6_saves 33 = .ok (.iinc 1 1, 3) := by decide +kernel
theorem dX6_saves_36 : decode cX6_saves 36 = .ok (.goto (-26), 3) := by decide +kernel
theorem dX6_saves_39 : decode cX6_saves 39 = .ok (.aload_n 0, 1) := by decide +kernel
theorem dX6_saves_40 : decode cX6_saves 40 = .ok (.dup, 1) := by decide +kernel
theorem dX6_saves_41 : decode cX6_saves 41 = .ok (.getfield 33, 3) := by decide +kernel
theorem dX6_saves_44 : decode cX6_saves 44 = .ok (.iconst 1, 1) := by decide +kernel
theorem dX6_saves_45 : decode cX6_saves 45 = .ok (.isub, 1) := by decide +kernel
theorem dX6_saves_46 : decode cX6_saves 46 = .ok (.putfield 33, 3) := by decide +kernel
theorem dX6_saves_49 : decode cX6_saves 49 = .ok (.iconst 0, 1) := by decide +kernel
theorem dX6_saves_50 : decode cX6_saves 50 = .ok (.istore_n 1, 1) := by decide +kernel
theorem dX6_saves_51 : decode cX6_saves 51 = .ok (.iload_n 1, 1) := by decide +kernel
theorem dX6_saves_52 : decode cX6_saves 52 = .ok (.sipush 251, 3) := by decide +kernel
theorem dX6_saves_55 : decode cX6_saves 55 = .ok (.if_icmp .ge 30, 3) := by decide +kernel
theorem dX6_saves_58 : decode cX6_saves 58 = .ok (.aload_n 0, 1) := by decide +kernel
theorem dX6_saves_59 : decode cX6_saves 59 = .ok (.getfield 13, 3) := by decide +kernel
theorem dX6_saves_62 : decode cX6_saves 62 = .ok (.sipush 251, 3) := by decide +kernel
theorem dX6_saves_65 : decode cX6_saves 65 = .ok (.aload_n 0, 1) := by decide +kernel
theorem dX6_saves_66 : decode cX6_saves 66 = .ok (.getfield 33, 3) := by decide +kernel
theorem dX6_saves_69 : decode cX6_saves 69 = .ok (.imul, 1) := by decide +kernel
theorem dX6_saves_70 : decode cX6_saves 70 = .ok (.iload_n 1, 1) := by decide +kernel
theorem dX6_saves_71 : decode cX6_saves 71 = .ok (.iadd, 1) := by decide +kernel
theorem dX6_saves_72 : decode cX6_saves 72 = .ok (.aload_n 0, 1) := by decide +kernel
theorem dX6_saves_73 : decode cX6_saves 73 = .ok (.getfield 7, 3) := by decide +kernel
theorem dX6_saves_76 : decode cX6_saves 76 = .ok (.iload_n 1, 1) := by decide +kernel
theorem dX6_saves_77 : decode cX6_saves 77 = .ok (.iaload, 1) := by decide +kernel
theorem dX6_saves_78 : decode cX6_saves 78 = .ok (.iastore, 1) := by decide +kernel
theorem dX6_saves_79 : decode cX6_saves 79 = .ok (.iinc 1 1, 3) := by decide +kernel
theorem dX6_saves_82 : decode cX6_saves 82 = .ok (.goto (-31), 3) := by decide +kernel
theorem dX6_saves_85 : decode cX6_saves 85 = .ok (.aload_n 0, 1) := by decide +kernel
theorem dX6_saves_86 : decode cX6_saves 86 = .ok (.dup, 1) := by decide +kernel
theorem dX6_saves_87 : decode cX6_saves 87 = .ok (.getfield 33, 3) := by decide +kernel
theorem dX6_saves_90 : decode cX6_saves 90 = .ok (.iconst 1, 1) := by decide +kernel
theorem dX6_saves_91 : decode cX6_saves 91 = .ok (.iadd, 1) := by decide +kernel
theorem dX6_saves_92 : decode cX6_saves 92 = .ok (.putfield 33, 3) := by decide +kernel
theorem dX6_saves_95 : decode cX6_saves 95 = .ok (.return_, 1) := by decide +kernel
set_option maxRecDepth 20000 in
theorem ggX6_undo_X6_refused : GoodIn wsX6_undo wsX6_refused := goodIn_r _ [8, 9, 10, 11, 12, 13, 14, 15, 16, 17, 18, 19, 20, 21] (by decide +kernel) (by decide +kernel)
set_option maxRecDepth 20000 in
theorem gX6_undo_X6_refused : GoodIn wsX6_undo (wsV RX6 36 RX6 yX6_refused wsX6_refused) := goodIn_app (goodIn_of _ (by decide +kernel)) ggX6_undo_X6_refused
theorem dX6_undo_0 : decode cX6_undo 0 = .ok (.aload_n 0, 1) := by decide +kernel
theorem dX6_undo_1 : decode cX6_undo 1 = .ok (.aload_n 0, 1) := by decide +kernel
theorem dX6_undo_2 : decode cX6_undo 2 = .ok (.getfield 33, 3) := by decide +kernel
theorem dX6_undo_5 : decode cX6_undo 5 = .ok (.ifCond .ne 7, 3) := by decide +kernel
theorem dX6_undo_8 : decode cX6_undo 8 = .ok (.iconst 1, 1) := by decide +kernel
theorem dX6_undo_9 : decode cX6_undo 9 = .ok (.goto 4, 3) := by decide +kernel
theorem dX6_undo_12 : decode cX6_undo 12 = .ok (.iconst 0, 1) := by decide +kernel
theorem dX6_undo_13 : decode cX6_undo 13 = .ok (.invokevirtual 36, 3) := by decide +kernel
theorem dX6_undo_16 : decode cX6_undo 16 = .ok (.ifCond .eq 5, 3) := by decide +kernel
theorem dX6_undo_19 : decode cX6_undo 19 = .ok (.iconst 0, 1) := by decide +kernel
theorem dX6_undo_20 : decode cX6_undo 20 = .ok (.ireturn, 1) := by decide +kernel
theorem dX6_undo_21 : decode cX6_undo 21 = .ok (.aload_n 0, 1) := by decide +kernel
theorem dX6_undo_22 : decode cX6_undo 22 = .ok (.dup, 1) := by decide +kernel
theorem dX6_undo_23 : decode cX6_undo 23 = .ok (.getfield 33, 3) := by decide +kernel
theorem dX6_undo_26 : decode cX6_undo 26 = .ok (.iconst 1, 1) := by decide +kernel
theorem dX6_undo_27 : decode cX6_undo 27 = .ok (.isub, 1) := by decide +kernel
theorem dX6_undo_28 : decode cX6_undo 28 = .ok (.putfield 33, 3) := by decide +kernel
theorem dX6_undo_31 : decode cX6_undo 31 = .ok (.iconst 0, 1) := by decide +kernel
theorem dX6_undo_32 : decode cX6_undo 32 = .ok (.istore_n 1, 1) := by decide +kernel
theorem dX6_undo_33 : decode cX6_undo 33 = .ok (.iload_n 1, 1) := by decide +kernel
theorem dX6_undo_34 : decode cX6_undo 34 = .ok (.sipush 251, 3) := by decide +kernel
theorem dX6_undo_37 : decode cX6_undo 37 = .ok (.if_icmp .ge 30, 3) := by decide +kernel
theorem dX6_undo_40 : decode cX6_undo 40 = .ok (.aload_n 0, 1) := by decide +kernel
theorem dX6_undo_41 : decode cX6_undo 41 = .ok (.getfield 7, 3) := by decide +kernel
theorem dX6_undo_44 : decode cX6_undo 44 = .ok (.iload_n 1, 1) := by decide +kernel
theorem dX6_undo_45 : decode cX6_undo 45 = .ok (.aload_n 0, 1) := by decide +kernel
theorem dX6_undo_46 : decode cX6_undo 46 = .ok (.getfield 13, 3) := by decide +kernel
theorem dX6_undo_49 : decode cX6_undo 49 = .ok (.sipush 251, 3) := by decide +kernel
theorem dX6_undo_52 : decode cX6_undo 52 = .ok (.aload_n 0, 1) := by decide +kernel
theorem dX6_undo_53 : decode cX6_undo 53 = .ok (.getfield 33, 3) := by decide +kernel
theorem dX6_undo_56 : decode cX6_undo 56 = .ok (.imul, 1) := by decide +kernel
theorem dX6_undo_57 : decode cX6_undo 57 = .ok (.iload_n 1, 1) := by decide +kernel
theorem dX6_undo_58 : decode cX6_undo 58 = .ok (.iadd, 1) := by decide +kernel
theorem dX6_undo_59 : decode cX6_undo 59 = .ok (.iaload, 1) := by decide +kernel
theorem dX6_undo_60 : decode cX6_undo 60 = .ok (.iastore, 1) := by decide +kernel
theorem dX6_undo_61 : decode cX6_undo 61 = .ok (.iinc 1 1, 3) := by decide +kernel
theorem dX6_undo_64 : decode cX6_undo 64 = .ok (.goto (-31), 3) := by decide +kernel
theorem dX6_undo_67 : decode cX6_undo 67 = .ok (.aload_n 0, 1) := by decide +kernel
theorem dX6_undo_68 : decode cX6_undo 68 = .ok (.getfield 33, 3) := by decide +kernel
theorem dX6_undo_71 : decode cX6_undo 71 = .ok (.ireturn, 1) := by decide +kernel
theorem dX6_keeps_0 : decode cX6_keeps 0 = .ok (.iconst 0, 1) := by decide +kernel
theorem dX6_keeps_1 : decode cX6_keeps 1 = .ok (.istore_n 1, 1) := by decide +kernel
theorem dX6_keeps_2 : decode cX6_keeps 2 = .ok (.iload_n 1, 1) := by decide +kernel
theorem dX6_keeps_3 : decode cX6_keeps 3 = .ok (.sipush 251, 3) := by decide +kernel
theorem dX6_keeps_6 : decode cX6_keeps 6 = .ok (.if_icmp .ge 21, 3) := by decide +kernel
theorem dX6_keeps_9 : decode cX6_keeps 9 = .ok (.aload_n 0, 1) := by decide +kernel
theorem dX6_keeps_10 : decode cX6_keeps 10 = .ok (.getfield 16, 3) := by decide +kernel
theorem dX6_keeps_13 : decode cX6_keeps 13 = .ok (.iload_n 1, 1) := by decide +kernel
theorem dX6_keeps_14 : decode cX6_keeps 14 = .ok (.aload_n 0, 1) := by decide +kernel
theorem dX6_keeps_15 : decode cX6_keeps 15 = .ok (.getfield 7, 3) := by decide +kernel
theorem dX6_keeps_18 : decode cX6_keeps 18 = .ok (.iload_n 1, 1) := by decide +kernel
theorem dX6_keeps_19 : decode cX6_keeps 19 = .ok (.iaload, 1) := by decide +kernel
theorem dX6_keeps_20 : decode cX6_keeps 20 = .ok (.iastore, 1) := by decide +kernel
theorem dX6_keeps_21 : decode cX6_keeps 21 = .ok (.iinc 1 1, 3) := by decide +kernel
theorem dX6_keeps_24 : decode cX6_keeps 24 = .ok (.goto (-22), 3) := by decide +kernel
theorem dX6_keeps_27 : decode cX6_keeps 27 = .ok (.return_, 1) := by decide +kernel
theorem dX6_takesBack_0 : decode cX6_takesBack 0 = .ok (.iconst 0, 1) := by decide +kernel
theorem dX6_takesBack_1 : decode cX6_takesBack 1 = .ok (.istore_n 1, 1) := by decide +kernel
theorem dX6_takesBack_2 : decode cX6_takesBack 2 = .ok (.iload_n 1, 1) := by decide +kernel
theorem dX6_takesBack_3 : decode cX6_takesBack 3 = .ok (.sipush 251, 3) := by decide +kernel
theorem dX6_takesBack_6 : decode cX6_takesBack 6 = .ok (.if_icmp .ge 21, 3) := by decide +kernel
theorem dX6_takesBack_9 : decode cX6_takesBack 9 = .ok (.aload_n 0, 1) := by decide +kernel
theorem dX6_takesBack_10 : decode cX6_takesBack 10 = .ok (.getfield 7, 3) := by decide +kernel
theorem dX6_takesBack_13 : decode cX6_takesBack 13 = .ok (.iload_n 1, 1) := by decide +kernel
theorem dX6_takesBack_14 : decode cX6_takesBack 14 = .ok (.aload_n 0, 1) := by decide +kernel
theorem dX6_takesBack_15 : decode cX6_takesBack 15 = .ok (.getfield 16, 3) := by decide +kernel
theorem dX6_takesBack_18 : decode cX6_takesBack 18 = .ok (.iload_n 1, 1) := by decide +kernel
theorem dX6_takesBack_19 : decode cX6_takesBack 19 = .ok (.iaload, 1) := by decide +kernel
theorem dX6_takesBack_20 : decode cX6_takesBack 20 = .ok (.iastore, 1) := by decide +kernel
theorem dX6_takesBack_21 : decode cX6_takesBack 21 = .ok (.iinc 1 1, 3) := by decide +kernel
theorem dX6_takesBack_24 : decode cX6_takesBack 24 = .ok (.goto (-22), 3) := by decide +kernel
theorem dX6_takesBack_27 : decode cX6_takesBack 27 = .ok (.return_, 1) := by decide +kernel
set_option maxRecDepth 20000 in
theorem ggX6_areCycles_X6_within : GoodIn wsX6_areCycles wsX6_within := goodIn_r _ [4] (by decide +kernel) (by decide +kernel)
set_option maxRecDepth 20000 in
theorem gX6_areCycles_X6_within : GoodIn wsX6_areCycles (va_wsS RX6 29 yX6_within wsX6_within) := goodIn_app (goodIn_of _ (by decide +kernel)) ggX6_areCycles_X6_within
theorem dX6_areCycles_0 : decode cX6_areCycles 0 = .ok (.iload_n 0, 1) := by decide +kernel
theorem dX6_areCycles_1 : decode cX6_areCycles 1 = .ok (.iconst 1, 1) := by decide +kernel
theorem dX6_areCycles_2 : decode cX6_areCycles 2 = .ok (.bipush 20, 2) := by decide +kernel
theorem dX6_areCycles_4 : decode cX6_areCycles 4 = .ok (.invokestatic 29, 3) := by decide +kernel
theorem dX6_areCycles_7 : decode cX6_areCycles 7 = .ok (.ifCond .eq 16, 3) := by decide +kernel
theorem dX6_areCycles_10 : decode cX6_areCycles 10 = .ok (.iload_n 1, 1) := by decide +kernel
theorem dX6_areCycles_11 : decode cX6_areCycles 11 = .ok (.iconst 1, 1) := by decide +kernel
theorem dX6_areCycles_12 : decode cX6_areCycles 12 = .ok (.iload_n 0, 1) := by decide +kernel
theorem dX6_areCycles_13 : decode cX6_areCycles 13 = .ok (.invokestatic 29, 3) := by decide +kernel
theorem dX6_areCycles_16 : decode cX6_areCycles 16 = .ok (.ifCond .eq 7, 3) := by decide +kernel
theorem dX6_areCycles_19 : decode cX6_areCycles 19 = .ok (.iconst 1, 1) := by decide +kernel
theorem dX6_areCycles_20 : decode cX6_areCycles 20 = .ok (.goto 4, 3) := by decide +kernel
theorem dX6_areCycles_23 : decode cX6_areCycles 23 = .ok (.iconst 0, 1) := by decide +kernel
theorem dX6_areCycles_24 : decode cX6_areCycles 24 = .ok (.ireturn, 1) := by decide +kernel
set_option maxRecDepth 20000 in
theorem ggX6_isCapacity_X6_within : GoodIn wsX6_isCapacity wsX6_within := goodIn_r _ [4] (by decide +kernel) (by decide +kernel)
set_option maxRecDepth 20000 in
theorem gX6_isCapacity_X6_within : GoodIn wsX6_isCapacity (va_wsS RX6 29 yX6_within wsX6_within) := goodIn_app (goodIn_of _ (by decide +kernel)) ggX6_isCapacity_X6_within
theorem dX6_isCapacity_0 : decode cX6_isCapacity 0 = .ok (.iload_n 0, 1) := by decide +kernel
theorem dX6_isCapacity_1 : decode cX6_isCapacity 1 = .ok (.iconst 0, 1) := by decide +kernel
theorem dX6_isCapacity_2 : decode cX6_isCapacity 2 = .ok (.bipush 40, 2) := by decide +kernel
theorem dX6_isCapacity_4 : decode cX6_isCapacity 4 = .ok (.invokestatic 29, 3) := by decide +kernel
theorem dX6_isCapacity_7 : decode cX6_isCapacity 7 = .ok (.ireturn, 1) := by decide +kernel
set_option maxRecDepth 20000 in
theorem ggX6_adds_X6_of : GoodIn wsX6_adds wsX6_of := goodIn_r _ [5] (by decide +kernel) (by decide +kernel)
set_option maxRecDepth 20000 in
theorem gX6_adds_X6_of : GoodIn wsX6_adds (va_wsS RX6 40 yX6_of wsX6_of) := goodIn_app (goodIn_of _ (by decide +kernel)) ggX6_adds_X6_of
theorem dX6_adds_0 : decode cX6_adds 0 = .ok (.aload_n 0, 1) := by decide +kernel
theorem dX6_adds_1 : decode cX6_adds 1 = .ok (.getfield 7, 3) := by decide +kernel
theorem dX6_adds_4 : decode cX6_adds 4 = .ok (.iconst 0, 1) := by decide +kernel
theorem dX6_adds_5 : decode cX6_adds 5 = .ok (.iaload, 1) := by decide +kernel
theorem dX6_adds_6 : decode cX6_adds 6 = .ok (.invokestatic 40, 3) := by decide +kernel
theorem dX6_adds_9 : decode cX6_adds 9 = .ok (.istore 4, 2) := by decide +kernel
theorem dX6_adds_11 : decode cX6_adds 11 = .ok (.iconst 0, 1) := by decide +kernel
theorem dX6_adds_12 : decode cX6_adds 12 = .ok (.istore 5, 2) := by decide +kernel
theorem dX6_adds_14 : decode cX6_adds 14 = .ok (.iload 5, 2) := by decide +kernel
theorem dX6_adds_16 : decode cX6_adds 16 = .ok (.bipush 16, 2) := by decide +kernel
theorem dX6_adds_18 : decode cX6_adds 18 = .ok (.if_icmp .ge 20, 3) := by decide +kernel
theorem dX6_adds_21 : decode cX6_adds 21 = .ok (.aload_n 0, 1) := by decide +kernel
theorem dX6_adds_22 : decode cX6_adds 22 = .ok (.getfield 7, 3) := by decide +kernel
theorem dX6_adds_25 : decode cX6_adds 25 = .ok (.iload 4, 2) := by decide +kernel
theorem dX6_adds_27 : decode cX6_adds 27 = .ok (.iload 5, 2) := by decide +kernel
theorem dX6_adds_29 : decode cX6_adds 29 = .ok (.iadd, 1) := by decide +kernel
theorem dX6_adds_30 : decode cX6_adds 30 = .ok (.iconst 0, 1) := by decide +kernel
theorem dX6_adds_31 : decode cX6_adds 31 = .ok (.iastore, 1) := by decide +kernel
theorem dX6_adds_32 : decode cX6_adds 32 = .ok (.iinc 5 1, 3) := by decide +kernel
theorem dX6_adds_35 : decode cX6_adds 35 = .ok (.goto (-21), 3) := by decide +kernel
theorem dX6_adds_38 : decode cX6_adds 38 = .ok (.aload_n 0, 1) := by decide +kernel
theorem dX6_adds_39 : decode cX6_adds 39 = .ok (.getfield 7, 3) := by decide +kernel
theorem dX6_adds_42 : decode cX6_adds 42 = .ok (.iload 4, 2) := by decide +kernel
theorem dX6_adds_44 : decode cX6_adds 44 = .ok (.iconst 0, 1) := by decide +kernel
theorem dX6_adds_45 : decode cX6_adds 45 = .ok (.iadd, 1) := by decide +kernel
theorem dX6_adds_46 : decode cX6_adds 46 = .ok (.iload_n 1, 1) := by decide +kernel
theorem dX6_adds_47 : decode cX6_adds 47 = .ok (.iastore, 1) := by decide +kernel
theorem dX6_adds_48 : decode cX6_adds 48 = .ok (.aload_n 0, 1) := by decide +kernel
theorem dX6_adds_49 : decode cX6_adds 49 = .ok (.getfield 7, 3) := by decide +kernel
theorem dX6_adds_52 : decode cX6_adds 52 = .ok (.iload 4, 2) := by decide +kernel
theorem dX6_adds_54 : decode cX6_adds 54 = .ok (.iconst 1, 1) := by decide +kernel
theorem dX6_adds_55 : decode cX6_adds 55 = .ok (.iadd, 1) := by decide +kernel
theorem dX6_adds_56 : decode cX6_adds 56 = .ok (.iload_n 2, 1) := by decide +kernel
theorem dX6_adds_57 : decode cX6_adds 57 = .ok (.iastore, 1) := by decide +kernel
theorem dX6_adds_58 : decode cX6_adds 58 = .ok (.aload_n 0, 1) := by decide +kernel
theorem dX6_adds_59 : decode cX6_adds 59 = .ok (.getfield 7, 3) := by decide +kernel
theorem dX6_adds_62 : decode cX6_adds 62 = .ok (.iload 4, 2) := by decide +kernel
theorem dX6_adds_64 : decode cX6_adds 64 = .ok (.iconst 3, 1) := by decide +kernel
theorem dX6_adds_65 : decode cX6_adds 65 = .ok (.iadd, 1) := by decide +kernel
theorem dX6_adds_66 : decode cX6_adds 66 = .ok (.bipush 40, 2) := by decide +kernel
theorem dX6_adds_68 : decode cX6_adds 68 = .ok (.iastore, 1) := by decide +kernel
theorem dX6_adds_69 : decode cX6_adds 69 = .ok (.aload_n 0, 1) := by decide +kernel
theorem dX6_adds_70 : decode cX6_adds 70 = .ok (.getfield 7, 3) := by decide +kernel
theorem dX6_adds_73 : decode cX6_adds 73 = .ok (.iload 4, 2) := by decide +kernel
theorem dX6_adds_75 : decode cX6_adds 75 = .ok (.iconst 4, 1) := by decide +kernel
theorem dX6_adds_76 : decode cX6_adds 76 = .ok (.iadd, 1) := by decide +kernel
theorem dX6_adds_77 : decode cX6_adds 77 = .ok (.iload_n 3, 1) := by decide +kernel
theorem dX6_adds_78 : decode cX6_adds 78 = .ok (.iastore, 1) := by decide +kernel
theorem dX6_adds_79 : decode cX6_adds 79 = .ok (.aload_n 0, 1) := by decide +kernel
theorem dX6_adds_80 : decode cX6_adds 80 = .ok (.getfield 7, 3) := by decide +kernel
theorem dX6_adds_83 : decode cX6_adds 83 = .ok (.iload 4, 2) := by decide +kernel
theorem dX6_adds_85 : decode cX6_adds 85 = .ok (.bipush 6, 2) := by decide +kernel
theorem dX6_adds_87 : decode cX6_adds 87 = .ok (.iadd, 1) := by decide +kernel
theorem dX6_adds_88 : decode cX6_adds 88 = .ok (.iconst (-1), 1) := by decide +kernel
theorem dX6_adds_89 : decode cX6_adds 89 = .ok (.iastore, 1) := by decide +kernel
theorem dX6_adds_90 : decode cX6_adds 90 = .ok (.aload_n 0, 1) := by decide +kernel
theorem dX6_adds_91 : decode cX6_adds 91 = .ok (.getfield 7, 3) := by decide +kernel
theorem dX6_adds_94 : decode cX6_adds 94 = .ok (.iload 4, 2) := by decide +kernel
theorem dX6_adds_96 : decode cX6_adds 96 = .ok (.bipush 7, 2) := by decide +kernel
theorem dX6_adds_98 : decode cX6_adds 98 = .ok (.iadd, 1) := by decide +kernel
theorem dX6_adds_99 : decode cX6_adds 99 = .ok (.iconst 1, 1) := by decide +kernel
theorem dX6_adds_100 : decode cX6_adds 100 = .ok (.iastore, 1) := by decide +kernel
theorem dX6_adds_101 : decode cX6_adds 101 = .ok (.aload_n 0, 1) := by decide +kernel
theorem dX6_adds_102 : decode cX6_adds 102 = .ok (.getfield 7, 3) := by decide +kernel
theorem dX6_adds_105 : decode cX6_adds 105 = .ok (.iconst 0, 1) := by decide +kernel
theorem dX6_adds_106 : decode cX6_adds 106 = .ok (.dup2, 1) := by decide +kernel
theorem dX6_adds_107 : decode cX6_adds 107 = .ok (.iaload, 1) := by decide +kernel
theorem dX6_adds_108 : decode cX6_adds 108 = .ok (.iconst 1, 1) := by decide +kernel
theorem dX6_adds_109 : decode cX6_adds 109 = .ok (.iadd, 1) := by decide +kernel
theorem dX6_adds_110 : decode cX6_adds 110 = .ok (.iastore, 1) := by decide +kernel
theorem dX6_adds_111 : decode cX6_adds 111 = .ok (.return_, 1) := by decide +kernel
set_option maxRecDepth 20000 in
theorem ggX6_addMachine_X6_areCycles : GoodIn wsX6_addMachine wsX6_areCycles := goodIn_r _ [5, 6, 7, 4, 8] (by decide +kernel) (by decide +kernel)
set_option maxRecDepth 20000 in
theorem gX6_addMachine_X6_areCycles : GoodIn wsX6_addMachine (va_wsS RX6 44 yX6_areCycles wsX6_areCycles) := goodIn_app (goodIn_of _ (by decide +kernel)) ggX6_addMachine_X6_areCycles
set_option maxRecDepth 20000 in
theorem ggX6_addMachine_X6_isCapacity : GoodIn wsX6_addMachine wsX6_isCapacity := goodIn_r _ [11, 6, 7, 4, 8] (by decide +kernel) (by decide +kernel)
set_option maxRecDepth 20000 in
theorem gX6_addMachine_X6_isCapacity : GoodIn wsX6_addMachine (va_wsS RX6 48 yX6_isCapacity wsX6_isCapacity) := goodIn_app (goodIn_of _ (by decide +kernel)) ggX6_addMachine_X6_isCapacity
set_option maxRecDepth 20000 in
theorem ggX6_addMachine_X6_refused : GoodIn wsX6_addMachine wsX6_refused := goodIn_r _ [15, 16, 30, 31, 32, 33, 34, 35, 36, 37, 38, 39, 40, 41] (by decide +kernel) (by decide +kernel)
set_option maxRecDepth 20000 in
theorem gX6_addMachine_X6_refused : GoodIn wsX6_addMachine (wsV RX6 36 RX6 yX6_refused wsX6_refused) := goodIn_app (goodIn_of _ (by decide +kernel)) ggX6_addMachine_X6_refused
set_option maxRecDepth 20000 in
theorem ggX6_addMachine_X6_saves : GoodIn wsX6_addMachine wsX6_saves := goodIn_r _ [20, 21, 22, 1, 30, 31, 32, 33, 34, 35, 36, 37, 38, 39, 40, 41] (by decide +kernel) (by decide +kernel)
set_option maxRecDepth 20000 in
theorem gX6_addMachine_X6_saves : GoodIn wsX6_addMachine (wsV RX6 51 RX6 yX6_saves wsX6_saves) := goodIn_app (goodIn_of _ (by decide +kernel)) ggX6_addMachine_X6_saves
set_option maxRecDepth 20000 in
theorem ggX6_addMachine_X6_adds : GoodIn wsX6_addMachine wsX6_adds := goodIn_r _ [26, 1, 27, 28, 4, 29, 30, 31, 32, 33, 34, 35, 36, 37, 38, 39, 40, 41] (by decide +kernel) (by decide +kernel)
set_option maxRecDepth 20000 in
theorem gX6_addMachine_X6_adds : GoodIn wsX6_addMachine (wsV RX6 54 RX6 yX6_adds wsX6_adds) := goodIn_app (goodIn_of _ (by decide +kernel)) ggX6_addMachine_X6_adds
theorem dX6_addMachine_0 : decode cX6_addMachine 0 = .ok (.aload_n 0, 1) := by decide +kernel
theorem dX6_addMachine_1 : decode cX6_addMachine 1 = .ok (.iload_n 1, 1) := by decide +kernel
theorem dX6_addMachine_2 : decode cX6_addMachine 2 = .ok (.iload_n 2, 1) := by decide +kernel
theorem dX6_addMachine_3 : decode cX6_addMachine 3 = .ok (.invokestatic 44, 3) := by decide +kernel
theorem dX6_addMachine_6 : decode cX6_addMachine 6 = .ok (.ifCond .eq 10, 3) := by decide +kernel
theorem dX6_addMachine_9 : decode cX6_addMachine 9 = .ok (.iload_n 3, 1) := by decide +kernel
theorem dX6_addMachine_10 : decode cX6_addMachine 10 = .ok (.invokestatic 48, 3) := by decide +kernel
theorem dX6_addMachine_13 : decode cX6_addMachine 13 = .ok (.ifCond .ne 7, 3) := by decide +kernel
theorem dX6_addMachine_16 : decode cX6_addMachine 16 = .ok (.iconst 1, 1) := by decide +kernel
theorem dX6_addMachine_17 : decode cX6_addMachine 17 = .ok (.goto 28, 3) := by decide +kernel
theorem dX6_addMachine_20 : decode cX6_addMachine 20 = .ok (.aload_n 0, 1) := by decide +kernel
theorem dX6_addMachine_21 : decode cX6_addMachine 21 = .ok (.getfield 7, 3) := by decide +kernel
theorem dX6_addMachine_24 : decode cX6_addMachine 24 = .ok (.iconst 0, 1) := by decide +kernel
theorem dX6_addMachine_25 : decode cX6_addMachine 25 = .ok (.iaload, 1) := by decide +kernel
theorem dX6_addMachine_26 : decode cX6_addMachine 26 = .ok (.bipush 8, 2) := by decide +kernel
theorem dX6_addMachine_28 : decode cX6_addMachine 28 = .ok (.if_icmp .eq 12, 3) := by decide +kernel
theorem dX6_addMachine_31 : decode cX6_addMachine 31 = .ok (.aload_n 0, 1) := by decide +kernel
theorem dX6_addMachine_32 : decode cX6_addMachine 32 = .ok (.getfield 7, 3) := by decide +kernel
theorem dX6_addMachine_35 : decode cX6_addMachine 35 = .ok (.iconst 1, 1) := by decide +kernel
theorem dX6_addMachine_36 : decode cX6_addMachine 36 = .ok (.iaload, 1) := by decide +kernel
theorem dX6_addMachine_37 : decode cX6_addMachine 37 = .ok (.ifCond .le 7, 3) := by decide +kernel
theorem dX6_addMachine_40 : decode cX6_addMachine 40 = .ok (.iconst 2, 1) := by decide +kernel
theorem dX6_addMachine_41 : decode cX6_addMachine 41 = .ok (.goto 4, 3) := by decide +kernel
theorem dX6_addMachine_44 : decode cX6_addMachine 44 = .ok (.iconst 0, 1) := by decide +kernel
theorem dX6_addMachine_45 : decode cX6_addMachine 45 = .ok (.invokevirtual 36, 3) := by decide +kernel
theorem dX6_addMachine_48 : decode cX6_addMachine 48 = .ok (.ifCond .eq 5, 3) := by decide +kernel
theorem dX6_addMachine_51 : decode cX6_addMachine 51 = .ok (.iconst 0, 1) := by decide +kernel
theorem dX6_addMachine_52 : decode cX6_addMachine 52 = .ok (.ireturn, 1) := by decide +kernel
theorem dX6_addMachine_53 : decode cX6_addMachine 53 = .ok (.aload_n 0, 1) := by decide +kernel
theorem dX6_addMachine_54 : decode cX6_addMachine 54 = .ok (.invokevirtual 51, 3) := by decide +kernel
theorem dX6_addMachine_57 : decode cX6_addMachine 57 = .ok (.aload_n 0, 1) := by decide +kernel
theorem dX6_addMachine_58 : decode cX6_addMachine 58 = .ok (.iload_n 1, 1) := by decide +kernel
theorem dX6_addMachine_59 : decode cX6_addMachine 59 = .ok (.iload_n 2, 1) := by decide +kernel
theorem dX6_addMachine_60 : decode cX6_addMachine 60 = .ok (.iload_n 3, 1) := by decide +kernel
theorem dX6_addMachine_61 : decode cX6_addMachine 61 = .ok (.invokevirtual 54, 3) := by decide +kernel
theorem dX6_addMachine_64 : decode cX6_addMachine 64 = .ok (.aload_n 0, 1) := by decide +kernel
theorem dX6_addMachine_65 : decode cX6_addMachine 65 = .ok (.getfield 7, 3) := by decide +kernel
theorem dX6_addMachine_68 : decode cX6_addMachine 68 = .ok (.iconst 0, 1) := by decide +kernel
theorem dX6_addMachine_69 : decode cX6_addMachine 69 = .ok (.iaload, 1) := by decide +kernel
theorem dX6_addMachine_70 : decode cX6_addMachine 70 = .ok (.iconst 1, 1) := by decide +kernel
theorem dX6_addMachine_71 : decode cX6_addMachine 71 = .ok (.isub, 1) := by decide +kernel
theorem dX6_addMachine_72 : decode cX6_addMachine 72 = .ok (.ireturn, 1) := by decide +kernel
set_option maxRecDepth 20000 in
theorem ggX6_areMarks_X6_within : GoodIn wsX6_areMarks wsX6_within := goodIn_r _ [4] (by decide +kernel) (by decide +kernel)
set_option maxRecDepth 20000 in
theorem gX6_areMarks_X6_within : GoodIn wsX6_areMarks (va_wsS RX6 29 yX6_within wsX6_within) := goodIn_app (goodIn_of _ (by decide +kernel)) ggX6_areMarks_X6_within
theorem dX6_areMarks_0 : decode cX6_areMarks 0 = .ok (.iload_n 1, 1) := by decide +kernel
theorem dX6_areMarks_1 : decode cX6_areMarks 1 = .ok (.iconst 0, 1) := by decide +kernel
theorem dX6_areMarks_2 : decode cX6_areMarks 2 = .ok (.bipush 40, 2) := by decide +kernel
theorem dX6_areMarks_4 : decode cX6_areMarks 4 = .ok (.invokestatic 29, 3) := by decide +kernel
theorem dX6_areMarks_7 : decode cX6_areMarks 7 = .ok (.ifCond .eq 16, 3) := by decide +kernel
theorem dX6_areMarks_10 : decode cX6_areMarks 10 = .ok (.iload_n 0, 1) := by decide +kernel
theorem dX6_areMarks_11 : decode cX6_areMarks 11 = .ok (.iconst 0, 1) := by decide +kernel
theorem dX6_areMarks_12 : decode cX6_areMarks 12 = .ok (.iload_n 1, 1) := by decide +kernel
theorem dX6_areMarks_13 : decode cX6_areMarks 13 = .ok (.invokestatic 29, 3) := by decide +kernel
theorem dX6_areMarks_16 : decode cX6_areMarks 16 = .ok (.ifCond .eq 7, 3) := by decide +kernel
theorem dX6_areMarks_19 : decode cX6_areMarks 19 = .ok (.iconst 1, 1) := by decide +kernel
theorem dX6_areMarks_20 : decode cX6_areMarks 20 = .ok (.goto 4, 3) := by decide +kernel
theorem dX6_areMarks_23 : decode cX6_areMarks 23 = .ok (.iconst 0, 1) := by decide +kernel
theorem dX6_areMarks_24 : decode cX6_areMarks 24 = .ok (.ireturn, 1) := by decide +kernel
set_option maxRecDepth 20000 in
theorem ggX6_setMachine_X6_isMachine : GoodIn wsX6_setMachine wsX6_isMachine := goodIn_r _ [6, 1, 7, 8, 5, 9, 30, 31, 32, 33, 34, 35, 36, 37, 38, 39, 40, 41] (by decide +kernel) (by decide +kernel)
set_option maxRecDepth 20000 in
theorem gX6_setMachine_X6_isMachine : GoodIn wsX6_setMachine (wsV RX6 58 RX6 yX6_isMachine wsX6_isMachine) := goodIn_app (goodIn_of _ (by decide +kernel)) ggX6_setMachine_X6_isMachine
set_option maxRecDepth 20000 in
theorem ggX6_setMachine_X6_areCycles : GoodIn wsX6_setMachine wsX6_areCycles := goodIn_r _ [12, 7, 8, 5, 9] (by decide +kernel) (by decide +kernel)
set_option maxRecDepth 20000 in
theorem gX6_setMachine_X6_areCycles : GoodIn wsX6_setMachine (va_wsS RX6 44 yX6_areCycles wsX6_areCycles) := goodIn_app (goodIn_of _ (by decide +kernel)) ggX6_setMachine_X6_areCycles
set_option maxRecDepth 20000 in
theorem ggX6_setMachine_X6_areMarks : GoodIn wsX6_setMachine wsX6_areMarks := goodIn_r _ [15, 7, 8, 5, 9] (by decide +kernel) (by decide +kernel)
set_option maxRecDepth 20000 in
theorem gX6_setMachine_X6_areMarks : GoodIn wsX6_setMachine (va_wsS RX6 61 yX6_areMarks wsX6_areMarks) := goodIn_app (goodIn_of _ (by decide +kernel)) ggX6_setMachine_X6_areMarks
set_option maxRecDepth 20000 in
theorem ggX6_setMachine_X6_refused : GoodIn wsX6_setMachine wsX6_refused := goodIn_r _ [19, 20, 30, 31, 32, 33, 34, 35, 36, 37, 38, 39, 40, 41] (by decide +kernel) (by decide +kernel)
set_option maxRecDepth 20000 in
theorem gX6_setMachine_X6_refused : GoodIn wsX6_setMachine (wsV RX6 36 RX6 yX6_refused wsX6_refused) := goodIn_app (goodIn_of _ (by decide +kernel)) ggX6_setMachine_X6_refused
set_option maxRecDepth 20000 in
theorem ggX6_setMachine_X6_saves : GoodIn wsX6_setMachine wsX6_saves := goodIn_r _ [24, 25, 26, 1, 30, 31, 32, 33, 34, 35, 36, 37, 38, 39, 40, 41] (by decide +kernel) (by decide +kernel)
set_option maxRecDepth 20000 in
theorem gX6_setMachine_X6_saves : GoodIn wsX6_setMachine (wsV RX6 51 RX6 yX6_saves wsX6_saves) := goodIn_app (goodIn_of _ (by decide +kernel)) ggX6_setMachine_X6_saves
set_option maxRecDepth 20000 in
theorem ggX6_setMachine_X6_of : GoodIn wsX6_setMachine wsX6_of := goodIn_r _ [29] (by decide +kernel) (by decide +kernel)
set_option maxRecDepth 20000 in
theorem gX6_setMachine_X6_of : GoodIn wsX6_setMachine (va_wsS RX6 40 yX6_of wsX6_of) := goodIn_app (goodIn_of _ (by decide +kernel)) ggX6_setMachine_X6_of
theorem dX6_setMachine_0 : decode cX6_setMachine 0 = .ok (.aload_n 0, 1) := by decide +kernel
theorem dX6_setMachine_1 : decode cX6_setMachine 1 = .ok (.aload_n 0, 1) := by decide +kernel
theorem dX6_setMachine_2 : decode cX6_setMachine 2 = .ok (.iload_n 1, 1) := by decide +kernel
theorem dX6_setMachine_3 : decode cX6_setMachine 3 = .ok (.invokevirtual 58, 3) := by decide +kernel
theorem dX6_setMachine_6 : decode cX6_setMachine 6 = .ok (.ifCond .ne 7, 3) := by decide +kernel
theorem dX6_setMachine_9 : decode cX6_setMachine 9 = .ok (.iconst 1, 1) := by decide +kernel
theorem dX6_setMachine_10 : decode cX6_setMachine 10 = .ok (.goto 26, 3) := by decide +kernel
theorem dX6_setMachine_13 : decode cX6_setMachine 13 = .ok (.iload_n 2, 1) := by decide +kernel
theorem dX6_setMachine_14 : decode cX6_setMachine 14 = .ok (.iload_n 3, 1) := by decide +kernel
theorem dX6_setMachine_15 : decode cX6_setMachine 15 = .ok (.invokestatic 44, 3) := by decide +kernel
theorem dX6_setMachine_18 : decode cX6_setMachine 18 = .ok (.ifCond .eq 17, 3) := by decide +kernel
theorem dX6_setMachine_21 : decode cX6_setMachine 21 = .ok (.iload 4, 2) := by decide +kernel
theorem dX6_setMachine_23 : decode cX6_setMachine 23 = .ok (.iload 5, 2) := by decide +kernel
theorem dX6_setMachine_25 : decode cX6_setMachine 25 = .ok (.invokestatic 61, 3) := by decide +kernel
theorem dX6_setMachine_28 : decode cX6_setMachine 28 = .ok (.ifCond .eq 7, 3) := by decide +kernel
theorem dX6_setMachine_31 : decode cX6_setMachine 31 = .ok (.iconst 0, 1) := by decide +kernel
theorem dX6_setMachine_32 : decode cX6_setMachine 32 = .ok (.goto 4, 3) := by decide +kernel
theorem dX6_setMachine_35 : decode cX6_setMachine 35 = .ok (.iconst 2, 1) := by decide +kernel
theorem dX6_setMachine_36 : decode cX6_setMachine 36 = .ok (.invokevirtual 36, 3) := by decide +kernel
theorem dX6_setMachine_39 : decode cX6_setMachine 39 = .ok (.ifCond .eq 5, 3) := by decide +kernel
theorem dX6_setMachine_42 : decode cX6_setMachine 42 = .ok (.iconst 0, 1) := by decide +kernel
theorem dX6_setMachine_43 : decode cX6_setMachine 43 = .ok (.ireturn, 1) := by decide +kernel
theorem dX6_setMachine_44 : decode cX6_setMachine 44 = .ok (.aload_n 0, 1) := by decide +kernel
theorem dX6_setMachine_45 : decode cX6_setMachine 45 = .ok (.invokevirtual 51, 3) := by decide +kernel
theorem dX6_setMachine_48 : decode cX6_setMachine 48 = .ok (.iload_n 1, 1) := by decide +kernel
theorem dX6_setMachine_49 : decode cX6_setMachine 49 = .ok (.invokestatic 40, 3) := by decide +kernel
theorem dX6_setMachine_52 : decode cX6_setMachine 52 = .ok (.istore 6, 2) := by decide +kernel
theorem dX6_setMachine_54 : decode cX6_setMachine 54 = .ok (.aload_n 0, 1) := by decide +kernel
theorem dX6_setMachine_55 : decode cX6_setMachine 55 = .ok (.getfield 7, 3) := by decide +kernel
theorem dX6_setMachine_58 : decode cX6_setMachine 58 = .ok (.iload 6, 2) := by decide +kernel
theorem dX6_setMachine_60 : decode cX6_setMachine 60 = .ok (.iconst 1, 1) := by decide +kernel
theorem dX6_setMachine_61 : decode cX6_setMachine 61 = .ok (.iadd, 1) := by decide +kernel
theorem dX6_setMachine_62 : decode cX6_setMachine 62 = .ok (.iaload, 1) := by decide +kernel
theorem dX6_setMachine_63 : decode cX6_setMachine 63 = .ok (.istore 7, 2) := by decide +kernel
theorem dX6_setMachine_65 : decode cX6_setMachine 65 = .ok (.aload_n 0, 1) := by decide +kernel
theorem dX6_setMachine_66 : decode cX6_setMachine 66 = .ok (.getfield 7, 3) := by decide +kernel
theorem dX6_setMachine_69 : decode cX6_setMachine 69 = .ok (.iload 6, 2) := by decide +kernel
theorem dX6_setMachine_71 : decode cX6_setMachine 71 = .ok (.iconst 0, 1) := by decide +kernel
theorem dX6_setMachine_72 : decode cX6_setMachine 72 = .ok (.iadd, 1) := by decide +kernel
theorem dX6_setMachine_73 : decode cX6_setMachine 73 = .ok (.iload_n 2, 1) := by decide +kernel
theorem dX6_setMachine_74 : decode cX6_setMachine 74 = .ok (.iastore, 1) := by decide +kernel
theorem dX6_setMachine_75 : decode cX6_setMachine 75 = .ok (.aload_n 0, 1) := by decide +kernel
theorem dX6_setMachine_76 : decode cX6_setMachine 76 = .ok (.getfield 7, 3) := by decide +kernel
theorem dX6_setMachine_79 : decode cX6_setMachine 79 = .ok (.iload 6, 2) := by decide +kernel
theorem dX6_setMachine_81 : decode cX6_setMachine 81 = .ok (.iconst 1, 1) := by decide +kernel
theorem dX6_setMachine_82 : decode cX6_setMachine 82 = .ok (.iadd, 1) := by decide +kernel
theorem dX6_setMachine_83 : decode cX6_setMachine 83 = .ok (.iload_n 3, 1) := by decide +kernel
theorem dX6_setMachine_84 : decode cX6_setMachine 84 = .ok (.iastore, 1) := by decide +kernel
theorem dX6_setMachine_85 : decode cX6_setMachine 85 = .ok (.aload_n 0, 1) := by decide +kernel
theorem dX6_setMachine_86 : decode cX6_setMachine 86 = .ok (.getfield 7, 3) := by decide +kernel
theorem dX6_setMachine_89 : decode cX6_setMachine 89 = .ok (.iload 6, 2) := by decide +kernel
theorem dX6_setMachine_91 : decode cX6_setMachine 91 = .ok (.iconst 2, 1) := by decide +kernel
theorem dX6_setMachine_92 : decode cX6_setMachine 92 = .ok (.iadd, 1) := by decide +kernel
theorem dX6_setMachine_93 : decode cX6_setMachine 93 = .ok (.iload 4, 2) := by decide +kernel
theorem dX6_setMachine_95 : decode cX6_setMachine 95 = .ok (.iastore, 1) := by decide +kernel
theorem dX6_setMachine_96 : decode cX6_setMachine 96 = .ok (.aload_n 0, 1) := by decide +kernel
theorem dX6_setMachine_97 : decode cX6_setMachine 97 = .ok (.getfield 7, 3) := by decide +kernel
theorem dX6_setMachine_100 : decode cX6_setMachine 100 = .ok (.iload 6, 2) := by decide +kernel
theorem dX6_setMachine_102 : decode cX6_setMachine 102 = .ok (.iconst 3, 1) := by decide +kernel
theorem dX6_setMachine_103 : decode cX6_setMachine 103 = .ok (.iadd, 1) := by decide +kernel
theorem dX6_setMachine_104 : decode cX6_setMachine 104 = .ok (.iload 5, 2) := by decide +kernel
theorem dX6_setMachine_106 : decode cX6_setMachine 106 = .ok (.iastore, 1) := by decide +kernel
theorem dX6_setMachine_107 : decode cX6_setMachine 107 = .ok (.iload 7, 2) := by decide +kernel
theorem dX6_setMachine_109 : decode cX6_setMachine 109 = .ok (.ireturn, 1) := by decide +kernel
set_option maxRecDepth 20000 in
theorem ggX6_setCapacity_X6_isMachine : GoodIn wsX6_setCapacity wsX6_isMachine := goodIn_r _ [6, 1, 7, 8, 5, 9, 27, 28, 29, 30, 31, 32, 33, 34, 35, 36, 37, 38] (by decide +kernel) (by decide +kernel)
set_option maxRecDepth 20000 in
theorem gX6_setCapacity_X6_isMachine : GoodIn wsX6_setCapacity (wsV RX6 58 RX6 yX6_isMachine wsX6_isMachine) := goodIn_app (goodIn_of _ (by decide +kernel)) ggX6_setCapacity_X6_isMachine
set_option maxRecDepth 20000 in
theorem ggX6_setCapacity_X6_isCapacity : GoodIn wsX6_setCapacity wsX6_isCapacity := goodIn_r _ [12, 7, 8, 5, 9] (by decide +kernel) (by decide +kernel)
set_option maxRecDepth 20000 in
theorem gX6_setCapacity_X6_isCapacity : GoodIn wsX6_setCapacity (va_wsS RX6 48 yX6_isCapacity wsX6_isCapacity) := goodIn_app (goodIn_of _ (by decide +kernel)) ggX6_setCapacity_X6_isCapacity
set_option maxRecDepth 20000 in
theorem ggX6_setCapacity_X6_refused : GoodIn wsX6_setCapacity wsX6_refused := goodIn_r _ [16, 17, 27, 28, 29, 30, 31, 32, 33, 34, 35, 36, 37, 38] (by decide +kernel) (by decide +kernel)
set_option maxRecDepth 20000 in
theorem gX6_setCapacity_X6_refused : GoodIn wsX6_setCapacity (wsV RX6 36 RX6 yX6_refused wsX6_refused) := goodIn_app (goodIn_of _ (by decide +kernel)) ggX6_setCapacity_X6_refused
set_option maxRecDepth 20000 in
theorem ggX6_setCapacity_X6_saves : GoodIn wsX6_setCapacity wsX6_saves := goodIn_r _ [21, 22, 23, 1, 27, 28, 29, 30, 31, 32, 33, 34, 35, 36, 37, 38] (by decide +kernel) (by decide +kernel)
set_option maxRecDepth 20000 in
theorem gX6_setCapacity_X6_saves : GoodIn wsX6_setCapacity (wsV RX6 51 RX6 yX6_saves wsX6_saves) := goodIn_app (goodIn_of _ (by decide +kernel)) ggX6_setCapacity_X6_saves
set_option maxRecDepth 20000 in
theorem ggX6_setCapacity_X6_of : GoodIn wsX6_setCapacity wsX6_of := goodIn_r _ [26] (by decide +kernel) (by decide +kernel)
set_option maxRecDepth 20000 in
theorem gX6_setCapacity_X6_of : GoodIn wsX6_setCapacity (va_wsS RX6 40 yX6_of wsX6_of) := goodIn_app (goodIn_of _ (by decide +kernel)) ggX6_setCapacity_X6_of
theorem dX6_setCapacity_0 : decode cX6_setCapacity 0 = .ok (.aload_n 0, 1) := by decide +kernel
theorem dX6_setCapacity_1 : decode cX6_setCapacity 1 = .ok (.aload_n 0, 1) := by decide +kernel
theorem dX6_setCapacity_2 : decode cX6_setCapacity 2 = .ok (.iload_n 1, 1) := by decide +kernel
theorem dX6_setCapacity_3 : decode cX6_setCapacity 3 = .ok (.invokevirtual 58, 3) := by decide +kernel
theorem dX6_setCapacity_6 : decode cX6_setCapacity 6 = .ok (.ifCond .ne 7, 3) := by decide +kernel
theorem dX6_setCapacity_9 : decode cX6_setCapacity 9 = .ok (.iconst 1, 1) := by decide +kernel
theorem dX6_setCapacity_10 : decode cX6_setCapacity 10 = .ok (.goto 15, 3) := by decide +kernel
theorem dX6_setCapacity_13 : decode cX6_setCapacity 13 = .ok (.iload_n 2, 1) := by decide +kernel
theorem dX6_setCapacity_14 : decode cX6_setCapacity 14 = .ok (.invokestatic 48, 3) := by decide +kernel
theorem dX6_setCapacity_17 : decode cX6_setCapacity 17 = .ok (.ifCond .eq 7, 3) := by decide +kernel
theorem dX6_setCapacity_20 : decode cX6_setCapacity 20 = .ok (.iconst 0, 1) := by decide +kernel
theorem dX6_setCapacity_21 : decode cX6_setCapacity 21 = .ok (.goto 4, 3) := by decide +kernel
theorem dX6_setCapacity_24 : decode cX6_setCapacity 24 = .ok (.iconst 2, 1) := by decide +kernel
theorem dX6_setCapacity_25 : decode cX6_setCapacity 25 = .ok (.invokevirtual 36, 3) := by decide +kernel
theorem dX6_setCapacity_28 : decode cX6_setCapacity 28 = .ok (.ifCond .eq 5, 3) := by decide +kernel
theorem dX6_setCapacity_31 : decode cX6_setCapacity 31 = .ok (.iconst 0, 1) := by decide +kernel
theorem dX6_setCapacity_32 : decode cX6_setCapacity 32 = .ok (.ireturn, 1) := by decide +kernel
theorem dX6_setCapacity_33 : decode cX6_setCapacity 33 = .ok (.aload_n 0, 1) := by decide +kernel
theorem dX6_setCapacity_34 : decode cX6_setCapacity 34 = .ok (.invokevirtual 51, 3) := by decide +kernel
theorem dX6_setCapacity_37 : decode cX6_setCapacity 37 = .ok (.aload_n 0, 1) := by decide +kernel
theorem dX6_setCapacity_38 : decode cX6_setCapacity 38 = .ok (.getfield 7, 3) := by decide +kernel
theorem dX6_setCapacity_41 : decode cX6_setCapacity 41 = .ok (.iload_n 1, 1) := by decide +kernel
theorem dX6_setCapacity_42 : decode cX6_setCapacity 42 = .ok (.invokestatic 40, 3) := by decide +kernel
theorem dX6_setCapacity_45 : decode cX6_setCapacity 45 = .ok (.iconst 4, 1) := by decide +kernel
theorem dX6_setCapacity_46 : decode cX6_setCapacity 46 = .ok (.iadd, 1) := by decide +kernel
theorem dX6_setCapacity_47 : decode cX6_setCapacity 47 = .ok (.iaload, 1) := by decide +kernel
theorem dX6_setCapacity_48 : decode cX6_setCapacity 48 = .ok (.istore_n 3, 1) := by decide +kernel
theorem dX6_setCapacity_49 : decode cX6_setCapacity 49 = .ok (.aload_n 0, 1) := by decide +kernel
theorem dX6_setCapacity_50 : decode cX6_setCapacity 50 = .ok (.getfield 7, 3) := by decide +kernel
theorem dX6_setCapacity_53 : decode cX6_setCapacity 53 = .ok (.iload_n 1, 1) := by decide +kernel
theorem dX6_setCapacity_54 : decode cX6_setCapacity 54 = .ok (.invokestatic 40, 3) := by decide +kernel
theorem dX6_setCapacity_57 : decode cX6_setCapacity 57 = .ok (.iconst 4, 1) := by decide +kernel
theorem dX6_setCapacity_58 : decode cX6_setCapacity 58 = .ok (.iadd, 1) := by decide +kernel
theorem dX6_setCapacity_59 : decode cX6_setCapacity 59 = .ok (.iload_n 2, 1) := by decide +kernel
theorem dX6_setCapacity_60 : decode cX6_setCapacity 60 = .ok (.iastore, 1) := by decide +kernel
theorem dX6_setCapacity_61 : decode cX6_setCapacity 61 = .ok (.iload_n 3, 1) := by decide +kernel
theorem dX6_setCapacity_62 : decode cX6_setCapacity 62 = .ok (.ireturn, 1) := by decide +kernel
theorem dX6_plans_0 : decode cX6_plans 0 = .ok (.sipush 131, 3) := by decide +kernel
theorem dX6_plans_3 : decode cX6_plans 3 = .ok (.iconst 3, 1) := by decide +kernel
theorem dX6_plans_4 : decode cX6_plans 4 = .ok (.aload_n 0, 1) := by decide +kernel
theorem dX6_plans_5 : decode cX6_plans 5 = .ok (.getfield 7, 3) := by decide +kernel
theorem dX6_plans_8 : decode cX6_plans 8 = .ok (.iconst 2, 1) := by decide +kernel
theorem dX6_plans_9 : decode cX6_plans 9 = .ok (.iaload, 1) := by decide +kernel
theorem dX6_plans_10 : decode cX6_plans 10 = .ok (.imul, 1) := by decide +kernel
theorem dX6_plans_11 : decode cX6_plans 11 = .ok (.iadd, 1) := by decide +kernel
theorem dX6_plans_12 : decode cX6_plans 12 = .ok (.istore 4, 2) := by decide +kernel
theorem dX6_plans_14 : decode cX6_plans 14 = .ok (.aload_n 0, 1) := by decide +kernel
theorem dX6_plans_15 : decode cX6_plans 15 = .ok (.getfield 7, 3) := by decide +kernel
theorem dX6_plans_18 : decode cX6_plans 18 = .ok (.iload 4, 2) := by decide +kernel
theorem dX6_plans_20 : decode cX6_plans 20 = .ok (.iload_n 1, 1) := by decide +kernel
theorem dX6_plans_21 : decode cX6_plans 21 = .ok (.iastore, 1) := by decide +kernel
theorem dX6_plans_22 : decode cX6_plans 22 = .ok (.aload_n 0, 1) := by decide +kernel
theorem dX6_plans_23 : decode cX6_plans 23 = .ok (.getfield 7, 3) := by decide +kernel
theorem dX6_plans_26 : decode cX6_plans 26 = .ok (.iload 4, 2) := by decide +kernel
theorem dX6_plans_28 : decode cX6_plans 28 = .ok (.iconst 1, 1) := by decide +kernel
theorem dX6_plans_29 : decode cX6_plans 29 = .ok (.iadd, 1) := by decide +kernel
theorem dX6_plans_30 : decode cX6_plans 30 = .ok (.iload_n 2, 1) := by decide +kernel
theorem dX6_plans_31 : decode cX6_plans 31 = .ok (.iastore, 1) := by decide +kernel
theorem dX6_plans_32 : decode cX6_plans 32 = .ok (.aload_n 0, 1) := by decide +kernel
theorem dX6_plans_33 : decode cX6_plans 33 = .ok (.getfield 7, 3) := by decide +kernel
theorem dX6_plans_36 : decode cX6_plans 36 = .ok (.iload 4, 2) := by decide +kernel
theorem dX6_plans_38 : decode cX6_plans 38 = .ok (.iconst 2, 1) := by decide +kernel
theorem dX6_plans_39 : decode cX6_plans 39 = .ok (.iadd, 1) := by decide +kernel
theorem dX6_plans_40 : decode cX6_plans 40 = .ok (.iload_n 3, 1) := by decide +kernel
theorem dX6_plans_41 : decode cX6_plans 41 = .ok (.iastore, 1) := by decide +kernel
theorem dX6_plans_42 : decode cX6_plans 42 = .ok (.aload_n 0, 1) := by decide +kernel
theorem dX6_plans_43 : decode cX6_plans 43 = .ok (.getfield 7, 3) := by decide +kernel
theorem dX6_plans_46 : decode cX6_plans 46 = .ok (.iconst 2, 1) := by decide +kernel
theorem dX6_plans_47 : decode cX6_plans 47 = .ok (.dup2, 1) := by decide +kernel
theorem dX6_plans_48 : decode cX6_plans 48 = .ok (.iaload, 1) := by decide +kernel
theorem dX6_plans_49 : decode cX6_plans 49 = .ok (.iconst 1, 1) := by decide +kernel
theorem dX6_plans_50 : decode cX6_plans 50 = .ok (.iadd, 1) := by decide +kernel
theorem dX6_plans_51 : decode cX6_plans 51 = .ok (.iastore, 1) := by decide +kernel
theorem dX6_plans_52 : decode cX6_plans 52 = .ok (.return_, 1) := by decide +kernel
set_option maxRecDepth 20000 in
theorem ggX6_addStop_X6_within : GoodIn wsX6_addStop wsX6_within := goodIn_r _ [5] (by decide +kernel) (by decide +kernel)
set_option maxRecDepth 20000 in
theorem gX6_addStop_X6_within : GoodIn wsX6_addStop (va_wsS RX6 29 yX6_within wsX6_within) := goodIn_app (goodIn_of _ (by decide +kernel)) ggX6_addStop_X6_within
set_option maxRecDepth 20000 in
theorem ggX6_addStop_X6_isMachine : GoodIn wsX6_addStop wsX6_isMachine := goodIn_r _ [9, 1, 2, 3, 4, 5, 25, 26, 27, 28, 29, 30, 31, 32, 33, 34, 35, 36] (by decide +kernel) (by decide +kernel)
set_option maxRecDepth 20000 in
theorem gX6_addStop_X6_isMachine : GoodIn wsX6_addStop (wsV RX6 58 RX6 yX6_isMachine wsX6_isMachine) := goodIn_app (goodIn_of _ (by decide +kernel)) ggX6_addStop_X6_isMachine
set_option maxRecDepth 20000 in
theorem ggX6_addStop_X6_refused : GoodIn wsX6_addStop wsX6_refused := goodIn_r _ [13, 14, 25, 26, 27, 28, 29, 30, 31, 32, 33, 34, 35, 36] (by decide +kernel) (by decide +kernel)
set_option maxRecDepth 20000 in
theorem gX6_addStop_X6_refused : GoodIn wsX6_addStop (wsV RX6 36 RX6 yX6_refused wsX6_refused) := goodIn_app (goodIn_of _ (by decide +kernel)) ggX6_addStop_X6_refused
set_option maxRecDepth 20000 in
theorem ggX6_addStop_X6_saves : GoodIn wsX6_addStop wsX6_saves := goodIn_r _ [18, 19, 20, 1, 25, 26, 27, 28, 29, 30, 31, 32, 33, 34, 35, 36] (by decide +kernel) (by decide +kernel)
set_option maxRecDepth 20000 in
theorem gX6_addStop_X6_saves : GoodIn wsX6_addStop (wsV RX6 51 RX6 yX6_saves wsX6_saves) := goodIn_app (goodIn_of _ (by decide +kernel)) ggX6_addStop_X6_saves
set_option maxRecDepth 20000 in
theorem ggX6_addStop_X6_plans : GoodIn wsX6_addStop wsX6_plans := goodIn_r _ [24, 1, 25, 26, 27, 28, 29, 30, 31, 32, 33, 34, 35, 36] (by decide +kernel) (by decide +kernel)
set_option maxRecDepth 20000 in
theorem gX6_addStop_X6_plans : GoodIn wsX6_addStop (wsV RX6 64 RX6 yX6_plans wsX6_plans) := goodIn_app (goodIn_of _ (by decide +kernel)) ggX6_addStop_X6_plans
theorem dX6_addStop_0 : decode cX6_addStop 0 = .ok (.iload_n 2, 1) := by decide +kernel
theorem dX6_addStop_1 : decode cX6_addStop 1 = .ok (.aload_n 0, 1) := by decide +kernel
theorem dX6_addStop_2 : decode cX6_addStop 2 = .ok (.getfield 7, 3) := by decide +kernel
theorem dX6_addStop_5 : decode cX6_addStop 5 = .ok (.iconst 1, 1) := by decide +kernel
theorem dX6_addStop_6 : decode cX6_addStop 6 = .ok (.iaload, 1) := by decide +kernel
theorem dX6_addStop_7 : decode cX6_addStop 7 = .ok (.iconst 1, 1) := by decide +kernel
theorem dX6_addStop_8 : decode cX6_addStop 8 = .ok (.iadd, 1) := by decide +kernel
theorem dX6_addStop_9 : decode cX6_addStop 9 = .ok (.sipush 10000, 3) := by decide +kernel
theorem dX6_addStop_12 : decode cX6_addStop 12 = .ok (.invokestatic 29, 3) := by decide +kernel
theorem dX6_addStop_15 : decode cX6_addStop 15 = .ok (.ifCond .eq 18, 3) := by decide +kernel
theorem dX6_addStop_18 : decode cX6_addStop 18 = .ok (.iload_n 3, 1) := by decide +kernel
theorem dX6_addStop_19 : decode cX6_addStop 19 = .ok (.iconst 1, 1) := by decide +kernel
theorem dX6_addStop_20 : decode cX6_addStop 20 = .ok (.sipush 200, 3) := by decide +kernel
theorem dX6_addStop_23 : decode cX6_addStop 23 = .ok (.invokestatic 29, 3) := by decide +kernel
theorem dX6_addStop_26 : decode cX6_addStop 26 = .ok (.ifCond .eq 7, 3) := by decide +kernel
theorem dX6_addStop_29 : decode cX6_addStop 29 = .ok (.iconst 1, 1) := by decide +kernel
theorem dX6_addStop_30 : decode cX6_addStop 30 = .ok (.goto 4, 3) := by decide +kernel
theorem dX6_addStop_33 : decode cX6_addStop 33 = .ok (.iconst 0, 1) := by decide +kernel
theorem dX6_addStop_34 : decode cX6_addStop 34 = .ok (.istore 4, 2) := by decide +kernel
theorem dX6_addStop_36 : decode cX6_addStop 36 = .ok (.aload_n 0, 1) := by decide +kernel
theorem dX6_addStop_37 : decode cX6_addStop 37 = .ok (.aload_n 0, 1) := by decide +kernel
theorem dX6_addStop_38 : decode cX6_addStop 38 = .ok (.iload_n 1, 1) := by decide +kernel
theorem dX6_addStop_39 : decode cX6_addStop 39 = .ok (.invokevirtual 58, 3) := by decide +kernel
theorem dX6_addStop_42 : decode cX6_addStop 42 = .ok (.ifCond .ne 7, 3) := by decide +kernel
theorem dX6_addStop_45 : decode cX6_addStop 45 = .ok (.iconst 1, 1) := by decide +kernel
theorem dX6_addStop_46 : decode cX6_addStop 46 = .ok (.goto 28, 3) := by decide +kernel
theorem dX6_addStop_49 : decode cX6_addStop 49 = .ok (.iload 4, 2) := by decide +kernel
theorem dX6_addStop_51 : decode cX6_addStop 51 = .ok (.ifCond .ne 7, 3) := by decide +kernel
theorem dX6_addStop_54 : decode cX6_addStop 54 = .ok (.iconst 2, 1) := by decide +kernel
theorem dX6_addStop_55 : decode cX6_addStop 55 = .ok (.goto 19, 3) := by decide +kernel
theorem dX6_addStop_58 : decode cX6_addStop 58 = .ok (.aload_n 0, 1) := by decide +kernel
theorem dX6_addStop_59 : decode cX6_addStop 59 = .ok (.getfield 7, 3) := by decide +kernel
theorem dX6_addStop_62 : decode cX6_addStop 62 = .ok (.iconst 2, 1) := by decide +kernel
theorem dX6_addStop_63 : decode cX6_addStop 63 = .ok (.iaload, 1) := by decide +kernel
theorem dX6_addStop_64 : decode cX6_addStop 64 = .ok (.bipush 40, 2) := by decide +kernel
theorem dX6_addStop_66 : decode cX6_addStop 66 = .ok (.if_icmp .ne 7, 3) := by decide +kernel
theorem dX6_addStop_69 : decode cX6_addStop 69 = .ok (.iconst 3, 1) := by decide +kernel
theorem dX6_addStop_70 : decode cX6_addStop 70 = .ok (.goto 4, 3) := by decide +kernel
theorem dX6_addStop_73 : decode cX6_addStop 73 = .ok (.iconst 0, 1) := by decide +kernel
theorem dX6_addStop_74 : decode cX6_addStop 74 = .ok (.invokevirtual 36, 3) := by decide +kernel
theorem dX6_addStop_77 : decode cX6_addStop 77 = .ok (.ifCond .eq 5, 3) := by decide +kernel
theorem dX6_addStop_80 : decode cX6_addStop 80 = .ok (.iconst 0, 1) := by decide +kernel
theorem dX6_addStop_81 : decode cX6_addStop 81 = .ok (.ireturn, 1) := by decide +kernel
theorem dX6_addStop_82 : decode cX6_addStop 82 = .ok (.aload_n 0, 1) := by decide +kernel
theorem dX6_addStop_83 : decode cX6_addStop 83 = .ok (.invokevirtual 51, 3) := by decide +kernel
theorem dX6_addStop_86 : decode cX6_addStop 86 = .ok (.aload_n 0, 1) := by decide +kernel
theorem dX6_addStop_87 : decode cX6_addStop 87 = .ok (.iload_n 1, 1) := by decide +kernel
theorem dX6_addStop_88 : decode cX6_addStop 88 = .ok (.iload_n 2, 1) := by decide +kernel
theorem dX6_addStop_89 : decode cX6_addStop 89 = .ok (.iload_n 3, 1) := by decide +kernel
theorem dX6_addStop_90 : decode cX6_addStop 90 = .ok (.invokevirtual 64, 3) := by decide +kernel
theorem dX6_addStop_93 : decode cX6_addStop 93 = .ok (.aload_n 0, 1) := by decide +kernel
theorem dX6_addStop_94 : decode cX6_addStop 94 = .ok (.getfield 7, 3) := by decide +kernel
theorem dX6_addStop_97 : decode cX6_addStop 97 = .ok (.iconst 2, 1) := by decide +kernel
theorem dX6_addStop_98 : decode cX6_addStop 98 = .ok (.iaload, 1) := by decide +kernel
theorem dX6_addStop_99 : decode cX6_addStop 99 = .ok (.ireturn, 1) := by decide +kernel
theorem dX6_draws_0 : decode cX6_draws 0 = .ok (.aload_n 0, 1) := by decide +kernel
theorem dX6_draws_1 : decode cX6_draws 1 = .ok (.ldc2_w 67, 3) := by decide +kernel
theorem dX6_draws_4 : decode cX6_draws 4 = .ok (.aload_n 0, 1) := by decide +kernel
theorem dX6_draws_5 : decode cX6_draws 5 = .ok (.getfield 69, 3) := by decide +kernel
theorem dX6_draws_8 : decode cX6_draws 8 = .ok (.lmul, 1) := by decide +kernel
theorem dX6_draws_9 : decode cX6_draws 9 = .ok (.ldc2_w 73, 3) := by decide +kernel
theorem dX6_draws_12 : decode cX6_draws 12 = .ok (.ladd, 1) := by decide +kernel
theorem dX6_draws_13 : decode cX6_draws 13 = .ok (.ldc2_w 75, 3) := by decide +kernel
theorem dX6_draws_16 : decode cX6_draws 16 = .ok (.lrem, 1) := by decide +kernel
theorem dX6_draws_17 : decode cX6_draws 17 = .ok (.putfield 69, 3) := by decide +kernel
theorem dX6_draws_20 : decode cX6_draws 20 = .ok (.aload_n 0, 1) := by decide +kernel
theorem dX6_draws_21 : decode cX6_draws 21 = .ok (.getfield 69, 3) := by decide +kernel
theorem dX6_draws_24 : decode cX6_draws 24 = .ok (.ldc2_w 77, 3) := by decide +kernel
theorem dX6_draws_27 : decode cX6_draws 27 = .ok (.ldiv, 1) := by decide +kernel
theorem dX6_draws_28 : decode cX6_draws 28 = .ok (.l2i, 1) := by decide +kernel
theorem dX6_draws_29 : decode cX6_draws 29 = .ok (.ireturn, 1) := by decide +kernel
set_option maxRecDepth 20000 in
theorem ggX6_addRandomStops_X6_within : GoodIn wsX6_addRandomStops wsX6_within := goodIn_r _ [7] (by decide +kernel) (by decide +kernel)
set_option maxRecDepth 20000 in
theorem gX6_addRandomStops_X6_within : GoodIn wsX6_addRandomStops (va_wsS RX6 29 yX6_within wsX6_within) := goodIn_app (goodIn_of _ (by decide +kernel)) ggX6_addRandomStops_X6_within
set_option maxRecDepth 20000 in
theorem ggX6_addRandomStops_X6_isMachine : GoodIn wsX6_addRandomStops wsX6_isMachine := goodIn_r _ [11, 2, 4, 5, 6, 7, 35, 36, 37, 38, 39, 40, 41, 42, 43, 44, 45, 46] (by decide +kernel) (by decide +kernel)
set_option maxRecDepth 20000 in
theorem gX6_addRandomStops_X6_isMachine : GoodIn wsX6_addRandomStops (wsV RX6 58 RX6 yX6_isMachine wsX6_isMachine) := goodIn_app (goodIn_of _ (by decide +kernel)) ggX6_addRandomStops_X6_isMachine
set_option maxRecDepth 20000 in
theorem ggX6_addRandomStops_X6_refused : GoodIn wsX6_addRandomStops wsX6_refused := goodIn_r _ [15, 16, 35, 36, 37, 38, 39, 40, 41, 42, 43, 44, 45, 46] (by decide +kernel) (by decide +kernel)
set_option maxRecDepth 20000 in
theorem gX6_addRandomStops_X6_refused : GoodIn wsX6_addRandomStops (wsV RX6 36 RX6 yX6_refused wsX6_refused) := goodIn_app (goodIn_of _ (by decide +kernel)) ggX6_addRandomStops_X6_refused
set_option maxRecDepth 20000 in
theorem ggX6_addRandomStops_X6_saves : GoodIn wsX6_addRandomStops wsX6_saves := goodIn_r _ [20, 21, 22, 2, 35, 36, 37, 38, 39, 40, 41, 42, 43, 44, 45, 46] (by decide +kernel) (by decide +kernel)
set_option maxRecDepth 20000 in
theorem gX6_addRandomStops_X6_saves : GoodIn wsX6_addRandomStops (wsV RX6 51 RX6 yX6_saves wsX6_saves) := goodIn_app (goodIn_of _ (by decide +kernel)) ggX6_addRandomStops_X6_saves
set_option maxRecDepth 20000 in
theorem ggX6_addRandomStops_X6_draws : GoodIn wsX6_addRandomStops wsX6_draws := goodIn_r _ [26, 27, 3, 28, 29, 30, 35, 36, 37, 38, 39, 40, 41, 42, 43, 44, 45, 46] (by decide +kernel) (by decide +kernel)
set_option maxRecDepth 20000 in
theorem gX6_addRandomStops_X6_draws : GoodIn wsX6_addRandomStops (wsV RX6 80 RX6 yX6_draws wsX6_draws) := goodIn_app (goodIn_of _ (by decide +kernel)) ggX6_addRandomStops_X6_draws
set_option maxRecDepth 20000 in
theorem ggX6_addRandomStops_X6_plans : GoodIn wsX6_addRandomStops wsX6_plans := goodIn_r _ [34, 2, 35, 36, 37, 38, 39, 40, 41, 42, 43, 44, 45, 46] (by decide +kernel) (by decide +kernel)
set_option maxRecDepth 20000 in
theorem gX6_addRandomStops_X6_plans : GoodIn wsX6_addRandomStops (wsV RX6 64 RX6 yX6_plans wsX6_plans) := goodIn_app (goodIn_of _ (by decide +kernel)) ggX6_addRandomStops_X6_plans
theorem dX6_addRandomStops_0 : decode cX6_addRandomStops 0 = .ok (.iload_n 2, 1) := by decide +kernel
theorem dX6_addRandomStops_1 : decode cX6_addRandomStops 1 = .ok (.iconst 0, 1) := by decide +kernel
theorem dX6_addRandomStops_2 : decode cX6_addRandomStops 2 = .ok (.ldc 79, 2) := by decide +kernel
theorem dX6_addRandomStops_4 : decode cX6_addRandomStops 4 = .ok (.invokestatic 29, 3) := by decide +kernel
theorem dX6_addRandomStops_7 : decode cX6_addRandomStops 7 = .ok (.ifCond .eq 40, 3) := by decide +kernel
theorem dX6_addRandomStops_10 : decode cX6_addRandomStops 10 = .ok (.iload_n 3, 1) := by decide +kernel
theorem dX6_addRandomStops_11 : decode cX6_addRandomStops 11 = .ok (.iconst 1, 1) := by decide +kernel
theorem dX6_addRandomStops_12 : decode cX6_addRandomStops 12 = .ok (.sipush 500, 3) := by decide +kernel
theorem dX6_addRandomStops_15 : decode cX6_addRandomStops 15 = .ok (.invokestatic 29, 3) := by decide +kernel
theorem dX6_addRandomStops_18 : decode cX6_addRandomStops 18 = .ok (.ifCond .eq 29, 3) := by decide +kernel
theorem dX6_addRandomStops_21 : decode cX6_addRandomStops 21 = .ok (.iload 4, 2) := by decide +kernel
theorem dX6_addRandomStops_23 : decode cX6_addRandomStops 23 = .ok (.iconst 1, 1) := by decide +kernel
theorem dX6_addRandomStops_24 : decode cX6_addRandomStops 24 = .ok (.bipush 100, 2) := by decide +kernel
theorem dX6_addRandomStops_26 : decode cX6_addRandomStops 26 = .ok (.invokestatic 29, 3) := by decide +kernel
theorem dX6_addRandomStops_29 : decode cX6_addRandomStops 29 = .ok (.ifCond .eq 18, 3) := by decide +kernel
theorem dX6_addRandomStops_32 : decode cX6_addRandomStops 32 = .ok (.iload 5, 2) := by decide +kernel
theorem dX6_addRandomStops_34 : decode cX6_addRandomStops 34 = .ok (.iconst 1, 1) := by decide +kernel
theorem dX6_addRandomStops_35 : decode cX6_addRandomStops 35 = .ok (.bipush 40, 2) := by decide +kernel
theorem dX6_addRandomStops_37 : decode cX6_addRandomStops 37 = .ok (.invokestatic 29, 3) := by decide +kernel
theorem dX6_addRandomStops_40 : decode cX6_addRandomStops 40 = .ok (.ifCond .eq 7, 3) := by decide +kernel
theorem dX6_addRandomStops_43 : decode cX6_addRandomStops 43 = .ok (.iconst 1, 1) := by decide +kernel
theorem dX6_addRandomStops_44 : decode cX6_addRandomStops 44 = .ok (.goto 4, 3) := by decide +kernel
theorem dX6_addRandomStops_47 : decode cX6_addRandomStops 47 = .ok (.iconst 0, 1) := by decide +kernel
theorem dX6_addRandomStops_48 : decode cX6_addRandomStops 48 = .ok (.istore 6, 2) := by decide +kernel
theorem dX6_addRandomStops_50 : decode cX6_addRandomStops 50 = .ok (.aload_n 0, 1) := by decide +kernel
theorem dX6_addRandomStops_51 : decode cX6_addRandomStops 51 = .ok (.aload_n 0, 1) := by decide +kernel
