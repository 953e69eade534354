set_option maxRecDepth 20000 in
theorem ggX5_init_X2_init : GoodIn wsX5_init wsX2_init := goodIn_r _ [18, 19, 2, 3, 20, 21, 22, 23, 24, 25, 26, 27, 28, 29, 30, 31, 32, 43, 44, 45, 46, 58, 59, 60, 61, 62] (by decide +kernel) (by decide +kernel)
set_option maxRecDepth 20000 in
theorem gX5_init_X2_init_n9 : GoodIn wsX5_init (wsX2_init) := ggX5_init_X2_init
set_option maxRecDepth 20000 in
theorem ggX5_init_X1_init : GoodIn wsX5_init wsX1_init := goodIn_r _ [35, 36, 2, 3, 37, 38, 5, 6, 17, 18, 19, 20, 21, 22, 23, 24, 25, 26, 27, 28, 29, 30, 31, 32, 51, 52, 53, 43, 44, 45, 46, 58, 59, 60, 61, 62] (by decide +kernel) (by decide +kernel)
set_option maxRecDepth 20000 in
theorem gX5_init_X1_init : GoodIn wsX5_init (wsX1_init) := ggX5_init_X1_init
set_option maxRecDepth 20000 in
theorem ggX5_init_X3_init : GoodIn wsX5_init wsX3_init := goodIn_r _ [40, 41, 2, 3, 21, 42, 54, 55, 56, 57] (by decide +kernel) (by decide +kernel)
set_option maxRecDepth 20000 in
theorem gX5_init_X3_init_n28 : GoodIn wsX5_init (wsX3_init) := ggX5_init_X3_init
theorem dX5_init_0 : decode cX5_init 0 = .ok (.aload_n 0, 1) := by decide +kernel
theorem dX5_init_1 : decode cX5_init 1 = .ok (.invokespecial 1, 3) := by decide +kernel
theorem dX5_init_4 : decode cX5_init 4 = .ok (.aload_n 0, 1) := by decide +kernel
theorem dX5_init_5 : decode cX5_init 5 = .ok (.new 7, 3) := by decide +kernel
theorem dX5_init_8 : decode cX5_init 8 = .ok (.dup, 1) := by decide +kernel
theorem dX5_init_9 : decode cX5_init 9 = .ok (.invokespecial 9, 3) := by decide +kernel
theorem dX5_init_12 : decode cX5_init 12 = .ok (.putfield 10, 3) := by decide +kernel
theorem dX5_init_15 : decode cX5_init 15 = .ok (.aload_n 0, 1) := by decide +kernel
theorem dX5_init_16 : decode cX5_init 16 = .ok (.new 7, 3) := by decide +kernel
theorem dX5_init_19 : decode cX5_init 19 = .ok (.dup, 1) := by decide +kernel
theorem dX5_init_20 : decode cX5_init 20 = .ok (.invokespecial 9, 3) := by decide +kernel
theorem dX5_init_23 : decode cX5_init 23 = .ok (.putfield 16, 3) := by decide +kernel
theorem dX5_init_26 : decode cX5_init 26 = .ok (.aload_n 0, 1) := by decide +kernel
theorem dX5_init_27 : decode cX5_init 27 = .ok (.new 19, 3) := by decide +kernel
theorem dX5_init_30 : decode cX5_init 30 = .ok (.dup, 1) := by decide +kernel
theorem dX5_init_31 : decode cX5_init 31 = .ok (.invokespecial 21, 3) := by decide +kernel
theorem dX5_init_34 : decode cX5_init 34 = .ok (.putfield 22, 3) := by decide +kernel
theorem dX5_init_37 : decode cX5_init 37 = .ok (.aload_n 0, 1) := by decide +kernel
theorem dX5_init_38 : decode cX5_init 38 = .ok (.new 26, 3) := by decide +kernel
theorem dX5_init_41 : decode cX5_init 41 = .ok (.dup, 1) := by decide +kernel
theorem dX5_init_42 : decode cX5_init 42 = .ok (.invokespecial 28, 3) := by decide +kernel
theorem dX5_init_45 : decode cX5_init 45 = .ok (.putfield 29, 3) := by decide +kernel
theorem dX5_init_48 : decode cX5_init 48 = .ok (.return_, 1) := by decide +kernel
set_option maxRecDepth 20000 in
theorem ggX5_addMachine_X5_areCycles : GoodIn wsX5_addMachine wsX5_areCycles := goodIn_r _ [10, 11, 12, 9, 13] (by decide +kernel) (by decide +kernel)
set_option maxRecDepth 20000 in
theorem gX5_addMachine_X5_areCycles : GoodIn wsX5_addMachine (va_wsS RX5 33 yX5_areCycles wsX5_areCycles) := goodIn_app (goodIn_of _ (by decide +kernel)) ggX5_addMachine_X5_areCycles
set_option maxRecDepth 20000 in
theorem ggX5_addMachine_X5_isIn : GoodIn wsX5_addMachine wsX5_isIn := goodIn_r _ [13] (by decide +kernel) (by decide +kernel)
set_option maxRecDepth 20000 in
theorem gX5_addMachine_X5_isIn : GoodIn wsX5_addMachine (va_wsS RX5 37 yX5_isIn wsX5_isIn) := goodIn_app (goodIn_of _ (by decide +kernel)) ggX5_addMachine_X5_isIn
set_option maxRecDepth 20000 in
theorem ggX5_addMachine_X1_keep : GoodIn wsX5_addMachine wsX1_keep := goodIn_r _ [18, 19, 20, 21, 22, 23, 24, 25, 26, 27, 28, 29, 30, 31, 32, 33, 34, 35, 36, 37, 38, 39, 40, 41, 42, 58, 59, 60, 54, 55, 56, 57, 61, 62, 63, 64, 65] (by decide +kernel) (by decide +kernel)
set_option maxRecDepth 20000 in
theorem gX5_addMachine_X1_keep : GoodIn wsX5_addMachine (wsV RX5 60 RX1 yX1_keep wsX1_keep) := goodIn_app (goodIn_of _ (by decide +kernel)) ggX5_addMachine_X1_keep
set_option maxRecDepth 20000 in
theorem ggX5_addMachine_X2_join : GoodIn wsX5_addMachine wsX2_join := goodIn_r _ [46, 26, 27, 47, 48, 24, 49, 54, 55, 56, 57] (by decide +kernel) (by decide +kernel)
set_option maxRecDepth 20000 in
theorem gX5_addMachine_X2_join : GoodIn wsX5_addMachine (wsV RX5 64 RX2 yX2_join wsX2_join) := goodIn_app (goodIn_of _ (by decide +kernel)) ggX5_addMachine_X2_join
theorem dX5_addMachine_0 : decode cX5_addMachine 0 = .ok (.iload_n 1, 1) := by decide +kernel
theorem dX5_addMachine_1 : decode cX5_addMachine 1 = .ok (.iload_n 2, 1) := by decide +kernel
theorem dX5_addMachine_2 : decode cX5_addMachine 2 = .ok (.invokestatic 33, 3) := by decide +kernel
theorem dX5_addMachine_5 : decode cX5_addMachine 5 = .ok (.ifCond .eq 13, 3) := by decide +kernel
theorem dX5_addMachine_8 : decode cX5_addMachine 8 = .ok (.iload_n 3, 1) := by decide +kernel
theorem dX5_addMachine_9 : decode cX5_addMachine 9 = .ok (.iconst 0, 1) := by decide +kernel
theorem dX5_addMachine_10 : decode cX5_addMachine 10 = .ok (.bipush 40, 2) := by decide +kernel
theorem dX5_addMachine_12 : decode cX5_addMachine 12 = .ok (.invokestatic 37, 3) := by decide +kernel
theorem dX5_addMachine_15 : decode cX5_addMachine 15 = .ok (.ifCond .ne 13, 3) := by decide +kernel
theorem dX5_addMachine_18 : decode cX5_addMachine 18 = .ok (.new 41, 3) := by decide +kernel
theorem dX5_addMachine_21 : decode cX5_addMachine 21 = .ok (.dup, 1) := by decide +kernel
theorem dX5_addMachine_22 : decode cX5_addMachine 22 = .ok (.ldc 43, 2) := by decide +kernel
theorem dX5_addMachine_24 : decode cX5_addMachine 24 = .ok (.invokespecial 45, 3) := by decide +kernel
theorem dX5_addMachine_27 : decode cX5_addMachine 27 = .ok (.athrow, 1) := by decide +kernel
theorem dX5_addMachine_28 : decode cX5_addMachine 28 = .ok (.aload_n 0, 1) := by decide +kernel
theorem dX5_addMachine_29 : decode cX5_addMachine 29 = .ok (.getfield 10, 3) := by decide +kernel
theorem dX5_addMachine_32 : decode cX5_addMachine 32 = .ok (.getfield 48, 3) := by decide +kernel
theorem dX5_addMachine_35 : decode cX5_addMachine 35 = .ok (.bipush 8, 2) := by decide +kernel
theorem dX5_addMachine_37 : decode cX5_addMachine 37 = .ok (.if_icmp .ge 13, 3) := by decide +kernel
theorem dX5_addMachine_40 : decode cX5_addMachine 40 = .ok (.aload_n 0, 1) := by decide +kernel
theorem dX5_addMachine_41 : decode cX5_addMachine 41 = .ok (.getfield 10, 3) := by decide +kernel
theorem dX5_addMachine_44 : decode cX5_addMachine 44 = .ok (.getfield 52, 3) := by decide +kernel
theorem dX5_addMachine_47 : decode cX5_addMachine 47 = .ok (.ifCond .eq 13, 3) := by decide +kernel
theorem dX5_addMachine_50 : decode cX5_addMachine 50 = .ok (.new 55, 3) := by decide +kernel
theorem dX5_addMachine_53 : decode cX5_addMachine 53 = .ok (.dup, 1) := by decide +kernel
theorem dX5_addMachine_54 : decode cX5_addMachine 54 = .ok (.ldc 57, 2) := by decide +kernel
theorem dX5_addMachine_56 : decode cX5_addMachine 56 = .ok (.invokespecial 59, 3) := by decide +kernel
theorem dX5_addMachine_59 : decode cX5_addMachine 59 = .ok (.athrow, 1) := by decide +kernel
theorem dX5_addMachine_60 : decode cX5_addMachine 60 = .ok (.aload_n 0, 1) := by decide +kernel
theorem dX5_addMachine_61 : decode cX5_addMachine 61 = .ok (.getfield 22, 3) := by decide +kernel
theorem dX5_addMachine_64 : decode cX5_addMachine 64 = .ok (.aload_n 0, 1) := by decide +kernel
theorem dX5_addMachine_65 : decode cX5_addMachine 65 = .ok (.getfield 10, 3) := by decide +kernel
theorem dX5_addMachine_68 : decode cX5_addMachine 68 = .ok (.invokevirtual 60, 3) := by decide +kernel
theorem dX5_addMachine_71 : decode cX5_addMachine 71 = .ok (.aload_n 0, 1) := by decide +kernel
theorem dX5_addMachine_72 : decode cX5_addMachine 72 = .ok (.getfield 10, 3) := by decide +kernel
theorem dX5_addMachine_75 : decode cX5_addMachine 75 = .ok (.iload_n 1, 1) := by decide +kernel
theorem dX5_addMachine_76 : decode cX5_addMachine 76 = .ok (.iload_n 2, 1) := by decide +kernel
theorem dX5_addMachine_77 : decode cX5_addMachine 77 = .ok (.iload_n 3, 1) := by decide +kernel
theorem dX5_addMachine_78 : decode cX5_addMachine 78 = .ok (.invokevirtual 64, 3) := by decide +kernel
theorem dX5_addMachine_81 : decode cX5_addMachine 81 = .ok (.ireturn, 1) := by decide +kernel
set_option maxRecDepth 20000 in
theorem ggX5_setMachine_X5_needMachine : GoodIn wsX5_setMachine wsX5_needMachine := goodIn_ca (goodIn_r _ [9, 10, 11, 4, 51, 52, 53, 54, 55, 56, 57, 58] (by decide +kernel) (by decide +kernel)) (goodIn_sub (fun _ h => List.mem_cons_of_mem _ (List.mem_append_right _ h)) (by decide +kernel))
set_option maxRecDepth 20000 in
theorem gX5_setMachine_X5_needMachine : GoodIn wsX5_setMachine (wsV RX5 68 RX5 yX5_needMachine wsX5_needMachine) := goodIn_app (goodIn_of _ (by decide +kernel)) ggX5_setMachine_X5_needMachine
set_option maxRecDepth 20000 in
theorem ggX5_setMachine_X5_areCycles : GoodIn wsX5_setMachine wsX5_areCycles := goodIn_r _ [14, 15, 16, 8, 17] (by decide +kernel) (by decide +kernel)
set_option maxRecDepth 20000 in
theorem gX5_setMachine_X5_areCycles : GoodIn wsX5_setMachine (va_wsS RX5 33 yX5_areCycles wsX5_areCycles) := goodIn_app (goodIn_of _ (by decide +kernel)) ggX5_setMachine_X5_areCycles
set_option maxRecDepth 20000 in
theorem ggX5_setMachine_X5_isIn : GoodIn wsX5_setMachine wsX5_isIn := goodIn_r _ [17] (by decide +kernel) (by decide +kernel)
set_option maxRecDepth 20000 in
theorem gX5_setMachine_X5_isIn : GoodIn wsX5_setMachine (va_wsS RX5 37 yX5_isIn wsX5_isIn) := goodIn_app (goodIn_of _ (by decide +kernel)) ggX5_setMachine_X5_isIn
set_option maxRecDepth 20000 in
theorem ggX5_setMachine_X1_keep : GoodIn wsX5_setMachine wsX1_keep := goodIn_r _ [22, 23, 24, 25, 26, 27, 28, 29, 30, 31, 32, 33, 34, 35, 36, 37, 38, 39, 40, 41, 42, 43, 44, 45, 46, 59, 60, 61, 55, 56, 57, 58, 62, 63, 64, 65, 66] (by decide +kernel) (by decide +kernel)
set_option maxRecDepth 20000 in
theorem gX5_setMachine_X1_keep : GoodIn wsX5_setMachine (wsV RX5 60 RX1 yX1_keep wsX1_keep) := goodIn_app (goodIn_of _ (by decide +kernel)) ggX5_setMachine_X1_keep
set_option maxRecDepth 20000 in
theorem ggX5_setMachine_X2_mark : GoodIn wsX5_setMachine wsX2_mark := goodIn_r _ [50, 30, 31, 55, 56, 57, 58] (by decide +kernel) (by decide +kernel)
set_option maxRecDepth 20000 in
theorem gX5_setMachine_X2_mark : GoodIn wsX5_setMachine (wsV RX5 78 RX2 yX2_mark wsX2_mark) := goodIn_app (goodIn_of _ (by decide +kernel)) ggX5_setMachine_X2_mark
theorem dX5_setMachine_0 : decode cX5_setMachine 0 = .ok (.aload_n 0, 1) := by decide +kernel
theorem dX5_setMachine_1 : decode cX5_setMachine 1 = .ok (.iload_n 1, 1) := by decide +kernel
theorem dX5_setMachine_2 : decode cX5_setMachine 2 = .ok (.invokevirtual 68, 3) := by decide +kernel
theorem dX5_setMachine_5 : decode cX5_setMachine 5 = .ok (.iload_n 2, 1) := by decide +kernel
theorem dX5_setMachine_6 : decode cX5_setMachine 6 = .ok (.iload_n 3, 1) := by decide +kernel
theorem dX5_setMachine_7 : decode cX5_setMachine 7 = .ok (.invokestatic 33, 3) := by decide +kernel
theorem dX5_setMachine_10 : decode cX5_setMachine 10 = .ok (.ifCond .eq 25, 3) := by decide +kernel
theorem dX5_setMachine_13 : decode cX5_setMachine 13 = .ok (.iload 5, 2) := by decide +kernel
theorem dX5_setMachine_15 : decode cX5_setMachine 15 = .ok (.iconst 0, 1) := by decide +kernel
theorem dX5_setMachine_16 : decode cX5_setMachine 16 = .ok (.bipush 40, 2) := by decide +kernel
theorem dX5_setMachine_18 : decode cX5_setMachine 18 = .ok (.invokestatic 37, 3) := by decide +kernel
theorem dX5_setMachine_21 : decode cX5_setMachine 21 = .ok (.ifCond .eq 14, 3) := by decide +kernel
theorem dX5_setMachine_24 : decode cX5_setMachine 24 = .ok (.iload 4, 2) := by decide +kernel
theorem dX5_setMachine_26 : decode cX5_setMachine 26 = .ok (.iconst 0, 1) := by decide +kernel
theorem dX5_setMachine_27 : decode cX5_setMachine 27 = .ok (.iload 5, 2) := by decide +kernel
theorem dX5_setMachine_29 : decode cX5_setMachine 29 = .ok (.invokestatic 37, 3) := by decide +kernel
theorem dX5_setMachine_32 : decode cX5_setMachine 32 = .ok (.ifCond .ne 13, 3) := by decide +kernel
theorem dX5_setMachine_35 : decode cX5_setMachine 35 = .ok (.new 41, 3) := by decide +kernel
theorem dX5_setMachine_38 : decode cX5_setMachine 38 = .ok (.dup, 1) := by decide +kernel
theorem dX5_setMachine_39 : decode cX5_setMachine 39 = .ok (.ldc 72, 2) := by decide +kernel
theorem dX5_setMachine_41 : decode cX5_setMachine 41 = .ok (.invokespecial 45, 3) := by decide +kernel
theorem dX5_setMachine_44 : decode cX5_setMachine 44 = .ok (.athrow, 1) := by decide +kernel
theorem dX5_setMachine_45 : decode cX5_setMachine 45 = .ok (.aload_n 0, 1) := by decide +kernel
theorem dX5_setMachine_46 : decode cX5_setMachine 46 = .ok (.getfield 22, 3) := by decide +kernel
theorem dX5_setMachine_49 : decode cX5_setMachine 49 = .ok (.aload_n 0, 1) := by decide +kernel
theorem dX5_setMachine_50 : decode cX5_setMachine 50 = .ok (.getfield 10, 3) := by decide +kernel
theorem dX5_setMachine_53 : decode cX5_setMachine 53 = .ok (.invokevirtual 60, 3) := by decide +kernel
theorem dX5_setMachine_56 : decode cX5_setMachine 56 = .ok (.aload_n 0, 1) := by decide +kernel
theorem dX5_setMachine_57 : decode cX5_setMachine 57 = .ok (.getfield 10, 3) := by decide +kernel
theorem dX5_setMachine_60 : decode cX5_setMachine 60 = .ok (.getfield 74, 3) := by decide +kernel
theorem dX5_setMachine_63 : decode cX5_setMachine 63 = .ok (.iload_n 1, 1) := by decide +kernel
theorem dX5_setMachine_64 : decode cX5_setMachine 64 = .ok (.aaload, 1) := by decide +kernel
theorem dX5_setMachine_65 : decode cX5_setMachine 65 = .ok (.iconst 1, 1) := by decide +kernel
theorem dX5_setMachine_66 : decode cX5_setMachine 66 = .ok (.iaload, 1) := by decide +kernel
theorem dX5_setMachine_67 : decode cX5_setMachine 67 = .ok (.istore 6, 2) := by decide +kernel
theorem dX5_setMachine_69 : decode cX5_setMachine 69 = .ok (.aload_n 0, 1) := by decide +kernel
theorem dX5_setMachine_70 : decode cX5_setMachine 70 = .ok (.getfield 10, 3) := by decide +kernel
theorem dX5_setMachine_73 : decode cX5_setMachine 73 = .ok (.getfield 74, 3) := by decide +kernel
theorem dX5_setMachine_76 : decode cX5_setMachine 76 = .ok (.iload_n 1, 1) := by decide +kernel
theorem dX5_setMachine_77 : decode cX5_setMachine 77 = .ok (.aaload, 1) := by decide +kernel
theorem dX5_setMachine_78 : decode cX5_setMachine 78 = .ok (.iconst 0, 1) := by decide +kernel
theorem dX5_setMachine_79 : decode cX5_setMachine 79 = .ok (.iload_n 2, 1) := by decide +kernel
theorem dX5_setMachine_80 : decode cX5_setMachine 80 = .ok (.iastore, 1) := by decide +kernel
theorem dX5_setMachine_81 : decode cX5_setMachine 81 = .ok (.aload_n 0, 1) := by decide +kernel
theorem dX5_setMachine_82 : decode cX5_setMachine 82 = .ok (.getfield 10, 3) := by decide +kernel
theorem dX5_setMachine_85 : decode cX5_setMachine 85 = .ok (.getfield 74, 3) := by decide +kernel
theorem dX5_setMachine_88 : decode cX5_setMachine 88 = .ok (.iload_n 1, 1) := by decide +kernel
theorem dX5_setMachine_89 : decode cX5_setMachine 89 = .ok (.aaload, 1) := by decide +kernel
theorem dX5_setMachine_90 : decode cX5_setMachine 90 = .ok (.iconst 1, 1) := by decide +kernel
theorem dX5_setMachine_91 : decode cX5_setMachine 91 = .ok (.iload_n 3, 1) := by decide +kernel
theorem dX5_setMachine_92 : decode cX5_setMachine 92 = .ok (.iastore, 1) := by decide +kernel
theorem dX5_setMachine_93 : decode cX5_setMachine 93 = .ok (.aload_n 0, 1) := by decide +kernel
theorem dX5_setMachine_94 : decode cX5_setMachine 94 = .ok (.getfield 10, 3) := by decide +kernel
theorem dX5_setMachine_97 : decode cX5_setMachine 97 = .ok (.iload_n 1, 1) := by decide +kernel
theorem dX5_setMachine_98 : decode cX5_setMachine 98 = .ok (.iload 4, 2) := by decide +kernel
theorem dX5_setMachine_100 : decode cX5_setMachine 100 = .ok (.iload 5, 2) := by decide +kernel
theorem dX5_setMachine_102 : decode cX5_setMachine 102 = .ok (.invokevirtual 78, 3) := by decide +kernel
theorem dX5_setMachine_105 : decode cX5_setMachine 105 = .ok (.iload 6, 2) := by decide +kernel
theorem dX5_setMachine_107 : decode cX5_setMachine 107 = .ok (.ireturn, 1) := by decide +kernel
set_option maxRecDepth 20000 in
theorem ggX5_setCapacity_X5_needMachine : GoodIn wsX5_setCapacity wsX5_needMachine := goodIn_ca (goodIn_r _ [9, 10, 11, 4, 44, 45, 46, 47, 48, 49, 50, 51] (by decide +kernel) (by decide +kernel)) (goodIn_sub (fun _ h => List.mem_cons_of_mem _ (List.mem_append_right _ h)) (by decide +kernel))
set_option maxRecDepth 20000 in
theorem gX5_setCapacity_X5_needMachine : GoodIn wsX5_setCapacity (wsV RX5 68 RX5 yX5_needMachine wsX5_needMachine) := goodIn_app (goodIn_of _ (by decide +kernel)) ggX5_setCapacity_X5_needMachine
set_option maxRecDepth 20000 in
theorem ggX5_setCapacity_X5_isIn : GoodIn wsX5_setCapacity wsX5_isIn := goodIn_r _ [14] (by decide +kernel) (by decide +kernel)
set_option maxRecDepth 20000 in
theorem gX5_setCapacity_X5_isIn : GoodIn wsX5_setCapacity (va_wsS RX5 37 yX5_isIn wsX5_isIn) := goodIn_app (goodIn_of _ (by decide +kernel)) ggX5_setCapacity_X5_isIn
set_option maxRecDepth 20000 in
theorem ggX5_setCapacity_X1_keep : GoodIn wsX5_setCapacity wsX1_keep := goodIn_r _ [19, 20, 21, 22, 23, 24, 25, 26, 27, 28, 29, 30, 31, 32, 33, 34, 35, 36, 37, 38, 39, 40, 41, 42, 43, 52, 53, 54, 48, 49, 50, 51, 55, 56, 57, 58, 59] (by decide +kernel) (by decide +kernel)
set_option maxRecDepth 20000 in
theorem gX5_setCapacity_X1_keep : GoodIn wsX5_setCapacity (wsV RX5 60 RX1 yX1_keep wsX1_keep) := goodIn_app (goodIn_of _ (by decide +kernel)) ggX5_setCapacity_X1_keep
theorem dX5_setCapacity_0 : decode cX5_setCapacity 0 = .ok (.aload_n 0, 1) := by decide +kernel
theorem dX5_setCapacity_1 : decode cX5_setCapacity 1 = .ok (.iload_n 1, 1) := by decide +kernel
theorem dX5_setCapacity_2 : decode cX5_setCapacity 2 = .ok (.invokevirtual 68, 3) := by decide +kernel
theorem dX5_setCapacity_5 : decode cX5_setCapacity 5 = .ok (.iload_n 2, 1) := by decide +kernel
theorem dX5_setCapacity_6 : decode cX5_setCapacity 6 = .ok (.iconst 0, 1) := by decide +kernel
theorem dX5_setCapacity_7 : decode cX5_setCapacity 7 = .ok (.bipush 40, 2) := by decide +kernel
theorem dX5_setCapacity_9 : decode cX5_setCapacity 9 = .ok (.invokestatic 37, 3) := by decide +kernel
theorem dX5_setCapacity_12 : decode cX5_setCapacity 12 = .ok (.ifCond .ne 13, 3) := by decide +kernel
theorem dX5_setCapacity_15 : decode cX5_setCapacity 15 = .ok (.new 41, 3) := by decide +kernel
theorem dX5_setCapacity_18 : decode cX5_setCapacity 18 = .ok (.dup, 1) := by decide +kernel
theorem dX5_setCapacity_19 : decode cX5_setCapacity 19 = .ok (.ldc 82, 2) := by decide +kernel
theorem dX5_setCapacity_21 : decode cX5_setCapacity 21 = .ok (.invokespecial 45, 3) := by decide +kernel
theorem dX5_setCapacity_24 : decode cX5_setCapacity 24 = .ok (.athrow, 1) := by decide +kernel
theorem dX5_setCapacity_25 : decode cX5_setCapacity 25 = .ok (.aload_n 0, 1) := by decide +kernel
theorem dX5_setCapacity_26 : decode cX5_setCapacity 26 = .ok (.getfield 22, 3) := by decide +kernel
theorem dX5_setCapacity_29 : decode cX5_setCapacity 29 = .ok (.aload_n 0, 1) := by decide +kernel
theorem dX5_setCapacity_30 : decode cX5_setCapacity 30 = .ok (.getfield 10, 3) := by decide +kernel
theorem dX5_setCapacity_33 : decode cX5_setCapacity 33 = .ok (.invokevirtual 60, 3) := by decide +kernel
theorem dX5_setCapacity_36 : decode cX5_setCapacity 36 = .ok (.aload_n 0, 1) := by decide +kernel
theorem dX5_setCapacity_37 : decode cX5_setCapacity 37 = .ok (.getfield 10, 3) := by decide +kernel
theorem dX5_setCapacity_40 : decode cX5_setCapacity 40 = .ok (.getfield 74, 3) := by decide +kernel
theorem dX5_setCapacity_43 : decode cX5_setCapacity 43 = .ok (.iload_n 1, 1) := by decide +kernel
theorem dX5_setCapacity_44 : decode cX5_setCapacity 44 = .ok (.aaload, 1) := by decide +kernel
theorem dX5_setCapacity_45 : decode cX5_setCapacity 45 = .ok (.iconst 4, 1) := by decide +kernel
theorem dX5_setCapacity_46 : decode cX5_setCapacity 46 = .ok (.iaload, 1) := by decide +kernel
theorem dX5_setCapacity_47 : decode cX5_setCapacity 47 = .ok (.istore_n 3, 1) := by decide +kernel
theorem dX5_setCapacity_48 : decode cX5_setCapacity 48 = .ok (.aload_n 0, 1) := by decide +kernel
theorem dX5_setCapacity_49 : decode cX5_setCapacity 49 = .ok (.getfield 10, 3) := by decide +kernel
theorem dX5_setCapacity_52 : decode cX5_setCapacity 52 = .ok (.getfield 74, 3) := by decide +kernel
theorem dX5_setCapacity_55 : decode cX5_setCapacity 55 = .ok (.iload_n 1, 1) := by decide +kernel
theorem dX5_setCapacity_56 : decode cX5_setCapacity 56 = .ok (.aaload, 1) := by decide +kernel
theorem dX5_setCapacity_57 : decode cX5_setCapacity 57 = .ok (.iconst 4, 1) := by decide +kernel
theorem dX5_setCapacity_58 : decode cX5_setCapacity 58 = .ok (.iload_n 2, 1) := by decide +kernel
theorem dX5_setCapacity_59 : decode cX5_setCapacity 59 = .ok (.iastore, 1) := by decide +kernel
theorem dX5_setCapacity_60 : decode cX5_setCapacity 60 = .ok (.iload_n 3, 1) := by decide +kernel
theorem dX5_setCapacity_61 : decode cX5_setCapacity 61 = .ok (.ireturn, 1) := by decide +kernel
set_option maxRecDepth 20000 in
theorem ggX5_addStop_X5_needMachine : GoodIn wsX5_addStop wsX5_needMachine := goodIn_ca (goodIn_r _ [11, 12, 13, 5, 50, 51, 52, 53, 54, 55, 56, 57] (by decide +kernel) (by decide +kernel)) (goodIn_sub (fun _ h => List.mem_cons_of_mem _ (List.mem_append_right _ h)) (by decide +kernel))
set_option maxRecDepth 20000 in
theorem gX5_addStop_X5_needMachine : GoodIn wsX5_addStop (wsV RX5 68 RX5 yX5_needMachine wsX5_needMachine) := goodIn_app (goodIn_of _ (by decide +kernel)) ggX5_addStop_X5_needMachine
set_option maxRecDepth 20000 in
theorem ggX5_addStop_X5_isIn : GoodIn wsX5_addStop wsX5_isIn := goodIn_r _ [16] (by decide +kernel) (by decide +kernel)
set_option maxRecDepth 20000 in
theorem gX5_addStop_X5_isIn : GoodIn wsX5_addStop (va_wsS RX5 37 yX5_isIn wsX5_isIn) := goodIn_app (goodIn_of _ (by decide +kernel)) ggX5_addStop_X5_isIn
set_option maxRecDepth 20000 in
theorem ggX5_addStop_X1_keep : GoodIn wsX5_addStop wsX1_keep := goodIn_r _ [21, 22, 23, 24, 25, 26, 27, 28, 29, 30, 31, 32, 33, 34, 35, 36, 37, 38, 39, 40, 41, 42, 43, 44, 45, 63, 64, 65, 54, 55, 56, 57, 58, 59, 60, 61, 62] (by decide +kernel) (by decide +kernel)
set_option maxRecDepth 20000 in
theorem gX5_addStop_X1_keep : GoodIn wsX5_addStop (wsV RX5 60 RX1 yX1_keep wsX1_keep) := goodIn_app (goodIn_of _ (by decide +kernel)) ggX5_addStop_X1_keep
set_option maxRecDepth 20000 in
theorem ggX5_addStop_X4_plan : GoodIn wsX5_addStop wsX4_plan := goodIn_r _ [49, 41, 42, 44, 45, 58, 59, 60, 61, 62] (by decide +kernel) (by decide +kernel)
set_option maxRecDepth 20000 in
theorem gX5_addStop_X4_plan : GoodIn wsX5_addStop (wsV RX5 97 RX4 yX4_plan wsX4_plan) := goodIn_app (goodIn_of _ (by decide +kernel)) ggX5_addStop_X4_plan
theorem dX5_addStop_0 : decode cX5_addStop 0 = .ok (.aload_n 0, 1) := by decide +kernel
theorem dX5_addStop_1 : decode cX5_addStop 1 = .ok (.iload_n 1, 1) := by decide +kernel
theorem dX5_addStop_2 : decode cX5_addStop 2 = .ok (.invokevirtual 68, 3) := by decide +kernel
theorem dX5_addStop_5 : decode cX5_addStop 5 = .ok (.iload_n 2, 1) := by decide +kernel
theorem dX5_addStop_6 : decode cX5_addStop 6 = .ok (.aload_n 0, 1) := by decide +kernel
theorem dX5_addStop_7 : decode cX5_addStop 7 = .ok (.getfield 10, 3) := by decide +kernel
theorem dX5_addStop_10 : decode cX5_addStop 10 = .ok (.getfield 52, 3) := by decide +kernel
theorem dX5_addStop_13 : decode cX5_addStop 13 = .ok (.if_icmp .le 21, 3) := by decide +kernel
theorem dX5_addStop_16 : decode cX5_addStop 16 = .ok (.iload_n 2, 1) := by decide +kernel
theorem dX5_addStop_17 : decode cX5_addStop 17 = .ok (.sipush 10000, 3) := by decide +kernel
theorem dX5_addStop_20 : decode cX5_addStop 20 = .ok (.if_icmp .gt 14, 3) := by decide +kernel
theorem dX5_addStop_23 : decode cX5_addStop 23 = .ok (.iload_n 3, 1) := by decide +kernel
theorem dX5_addStop_24 : decode cX5_addStop 24 = .ok (.iconst 1, 1) := by decide +kernel
theorem dX5_addStop_25 : decode cX5_addStop 25 = .ok (.sipush 200, 3) := by decide +kernel
theorem dX5_addStop_28 : decode cX5_addStop 28 = .ok (.invokestatic 37, 3) := by decide +kernel
theorem dX5_addStop_31 : decode cX5_addStop 31 = .ok (.ifCond .ne 13, 3) := by decide +kernel
theorem dX5_addStop_34 : decode cX5_addStop 34 = .ok (.new 41, 3) := by decide +kernel
theorem dX5_addStop_37 : decode cX5_addStop 37 = .ok (.dup, 1) := by decide +kernel
theorem dX5_addStop_38 : decode cX5_addStop 38 = .ok (.ldc 84, 2) := by decide +kernel
theorem dX5_addStop_40 : decode cX5_addStop 40 = .ok (.invokespecial 45, 3) := by decide +kernel
theorem dX5_addStop_43 : decode cX5_addStop 43 = .ok (.athrow, 1) := by decide +kernel
theorem dX5_addStop_44 : decode cX5_addStop 44 = .ok (.aload_n 0, 1) := by decide +kernel
theorem dX5_addStop_45 : decode cX5_addStop 45 = .ok (.getfield 10, 3) := by decide +kernel
theorem dX5_addStop_48 : decode cX5_addStop 48 = .ok (.getfield 86, 3) := by decide +kernel
theorem dX5_addStop_51 : decode cX5_addStop 51 = .ok (.getfield 90, 3) := by decide +kernel
theorem dX5_addStop_54 : decode cX5_addStop 54 = .ok (.bipush 40, 2) := by decide +kernel
theorem dX5_addStop_56 : decode cX5_addStop 56 = .ok (.if_icmp .lt 13, 3) := by decide +kernel
theorem dX5_addStop_59 : decode cX5_addStop 59 = .ok (.new 55, 3) := by decide +kernel
theorem dX5_addStop_62 : decode cX5_addStop 62 = .ok (.dup, 1) := by decide +kernel
theorem dX5_addStop_63 : decode cX5_addStop 63 = .ok (.ldc 95, 2) := by decide +kernel
theorem dX5_addStop_65 : decode cX5_addStop 65 = .ok (.invokespecial 59, 3) := by decide +kernel
theorem dX5_addStop_68 : decode cX5_addStop 68 = .ok (.athrow, 1) := by decide +kernel
theorem dX5_addStop_69 : decode cX5_addStop 69 = .ok (.aload_n 0, 1) := by decide +kernel
theorem dX5_addStop_70 : decode cX5_addStop 70 = .ok (.getfield 22, 3) := by decide +kernel
theorem dX5_addStop_73 : decode cX5_addStop 73 = .ok (.aload_n 0, 1) := by decide +kernel
theorem dX5_addStop_74 : decode cX5_addStop 74 = .ok (.getfield 10, 3) := by decide +kernel
theorem dX5_addStop_77 : decode cX5_addStop 77 = .ok (.invokevirtual 60, 3) := by decide +kernel
theorem dX5_addStop_80 : decode cX5_addStop 80 = .ok (.aload_n 0, 1) := by decide +kernel
theorem dX5_addStop_81 : decode cX5_addStop 81 = .ok (.getfield 10, 3) := by decide +kernel
theorem dX5_addStop_84 : decode cX5_addStop 84 = .ok (.getfield 86, 3) := by decide +kernel
theorem dX5_addStop_87 : decode cX5_addStop 87 = .ok (.iload_n 1, 1) := by decide +kernel
theorem dX5_addStop_88 : decode cX5_addStop 88 = .ok (.iload_n 2, 1) := by decide +kernel
theorem dX5_addStop_89 : decode cX5_addStop 89 = .ok (.iload_n 3, 1) := by decide +kernel
theorem dX5_addStop_90 : decode cX5_addStop 90 = .ok (.invokevirtual 97, 3) := by decide +kernel
theorem dX5_addStop_93 : decode cX5_addStop 93 = .ok (.aload_n 0, 1) := by decide +kernel
theorem dX5_addStop_94 : decode cX5_addStop 94 = .ok (.getfield 10, 3) := by decide +kernel
theorem dX5_addStop_97 : decode cX5_addStop 97 = .ok (.getfield 86, 3) := by decide +kernel
theorem dX5_addStop_100 : decode cX5_addStop 100 = .ok (.getfield 90, 3) := by decide +kernel
theorem dX5_addStop_103 : decode cX5_addStop 103 = .ok (.ireturn, 1) := by decide +kernel
set_option maxRecDepth 20000 in
theorem ggX5_addRandomStops_X5_needMachine : GoodIn wsX5_addRandomStops wsX5_needMachine := goodIn_ca (goodIn_r _ [15, 16, 17, 6, 69, 70, 71, 72, 73, 74, 75, 76] (by decide +kernel) (by decide +kernel)) (goodIn_sub (fun _ h => List.mem_cons_of_mem _ (List.mem_append_right _ h)) (by decide +kernel))
set_option maxRecDepth 20000 in
theorem gX5_addRandomStops_X5_needMachine : GoodIn wsX5_addRandomStops (wsV RX5 68 RX5 yX5_needMachine wsX5_needMachine) := goodIn_app (goodIn_of _ (by decide +kernel)) ggX5_addRandomStops_X5_needMachine
set_option maxRecDepth 20000 in
theorem ggX5_addRandomStops_X5_isIn : GoodIn wsX5_addRandomStops wsX5_isIn := goodIn_r _ [20] (by decide +kernel) (by decide +kernel)
set_option maxRecDepth 20000 in
theorem gX5_addRandomStops_X5_isIn : GoodIn wsX5_addRandomStops (va_wsS RX5 37 yX5_isIn wsX5_isIn) := goodIn_app (goodIn_of _ (by decide +kernel)) ggX5_addRandomStops_X5_isIn
set_option maxRecDepth 20000 in
theorem ggX5_addRandomStops_X1_keep : GoodIn wsX5_addRandomStops wsX1_keep := goodIn_r _ [25, 26, 27, 28, 29, 30, 31, 32, 33, 34, 35, 36, 37, 38, 39, 40, 41, 42, 43, 44, 45, 46, 47, 48, 49, 83, 84, 85, 73, 74, 75, 76, 77, 78, 79, 80, 81] (by decide +kernel) (by decide +kernel)
set_option maxRecDepth 20000 in
theorem gX5_addRandomStops_X1_keep : GoodIn wsX5_addRandomStops (wsV RX5 60 RX1 yX1_keep wsX1_keep) := goodIn_app (goodIn_of _ (by decide +kernel)) ggX5_addRandomStops_X1_keep
set_option maxRecDepth 20000 in
theorem ggX5_addRandomStops_X0_init : GoodIn wsX5_addRandomStops wsX0_init := goodIn_r _ [52, 53, 54, 55, 56, 82] (by decide +kernel) (by decide +kernel)
set_option maxRecDepth 20000 in
theorem gX5_addRandomStops_X0_init : GoodIn wsX5_addRandomStops (wsX0_init) := ggX5_addRandomStops_X0_init
set_option maxRecDepth 20000 in
theorem ggX5_addRandomStops_X0_drawBelow : GoodIn wsX5_addRandomStops wsX0_drawBelow := goodIn_r _ [60, 61, 56, 62, 63, 64, 82] (by decide +kernel) (by decide +kernel)
set_option maxRecDepth 20000 in
theorem gX5_addRandomStops_X0_drawBelow : GoodIn wsX5_addRandomStops (wsV RX5 109 RX0 yX0_drawBelow wsX0_drawBelow) := goodIn_app (goodIn_of _ (by decide +kernel)) ggX5_addRandomStops_X0_drawBelow
set_option maxRecDepth 20000 in
theorem ggX5_addRandomStops_X4_plan : GoodIn wsX5_addRandomStops wsX4_plan := goodIn_r _ [68, 45, 46, 48, 49, 77, 78, 79, 80, 81] (by decide +kernel) (by decide +kernel)
set_option maxRecDepth 20000 in
theorem gX5_addRandomStops_X4_plan : GoodIn wsX5_addRandomStops (wsV RX5 97 RX4 yX4_plan wsX4_plan) := goodIn_app (goodIn_of _ (by decide +kernel)) ggX5_addRandomStops_X4_plan
theorem dX5_addRandomStops_0 : decode cX5_addRandomStops 0 = .ok (.aload_n 0, 1) := by decide +kernel
theorem dX5_addRandomStops_1 : decode cX5_addRandomStops 1 = .ok (.iload_n 1, 1) := by decide +kernel
theorem dX5_addRandomStops_2 : decode cX5_addRandomStops 2 = .ok (.invokevirtual 68, 3) := by decide +kernel
theorem dX5_addRandomStops_5 : decode cX5_addRandomStops 5 = .ok (.iload_n 2, 1) := by decide +kernel
theorem dX5_addRandomStops_6 : decode cX5_addRandomStops 6 = .ok (.iconst 0, 1) := by decide +kernel
theorem dX5_addRandomStops_7 : decode cX5_addRandomStops 7 = .ok (.ldc 100, 2) := by decide +kernel
theorem dX5_addRandomStops_9 : decode cX5_addRandomStops 9 = .ok (.invokestatic 37, 3) := by decide +kernel
theorem dX5_addRandomStops_12 : decode cX5_addRandomStops 12 = .ok (.ifCond .eq 36, 3) := by decide +kernel
theorem dX5_addRandomStops_15 : decode cX5_addRandomStops 15 = .ok (.iload_n 3, 1) := by decide +kernel
theorem dX5_addRandomStops_16 : decode cX5_addRandomStops 16 = .ok (.iconst 1, 1) := by decide +kernel
theorem dX5_addRandomStops_17 : decode cX5_addRandomStops 17 = .ok (.sipush 500, 3) := by decide +kernel
theorem dX5_addRandomStops_20 : decode cX5_addRandomStops 20 = .ok (.invokestatic 37, 3) := by decide +kernel
theorem dX5_addRandomStops_23 : decode cX5_addRandomStops 23 = .ok (.ifCond .eq 25, 3) := by decide +kernel
theorem dX5_addRandomStops_26 : decode cX5_addRandomStops 26 = .ok (.iload 4, 2) := by decide +kernel
theorem dX5_addRandomStops_28 : decode cX5_addRandomStops 28 = .ok (.iconst 1, 1) := by decide +kernel
theorem dX5_addRandomStops_29 : decode cX5_addRandomStops 29 = .ok (.bipush 100, 2) := by decide +kernel
theorem dX5_addRandomStops_31 : decode cX5_addRandomStops 31 = .ok (.invokestatic 37, 3) := by decide +kernel
theorem dX5_addRandomStops_34 : decode cX5_addRandomStops 34 = .ok (.ifCond .eq 14, 3) := by decide +kernel
theorem dX5_addRandomStops_37 : decode cX5_addRandomStops 37 = .ok (.iload 5, 2) := by decide +kernel
theorem dX5_addRandomStops_39 : decode cX5_addRandomStops 39 = .ok (.iconst 1, 1) := by decide +kernel
theorem dX5_addRandomStops_40 : decode cX5_addRandomStops 40 = .ok (.bipush 40, 2) := by decide +kernel
theorem dX5_addRandomStops_42 : decode cX5_addRandomStops 42 = .ok (.invokestatic 37, 3) := by decide +kernel
theorem dX5_addRandomStops_45 : decode cX5_addRandomStops 45 = .ok (.ifCond .ne 13, 3) := by decide +kernel
theorem dX5_addRandomStops_48 : decode cX5_addRandomStops 48 = .ok (.new 41, 3) := by decide +kernel
theorem dX5_addRandomStops_51 : decode cX5_addRandomStops 51 = .ok (.dup, 1) := by decide +kernel
theorem dX5_addRandomStops_52 : decode cX5_addRandomStops 52 = .ok (.ldc 101, 2) := by decide +kernel
theorem dX5_addRandomStops_54 : decode cX5_addRandomStops 54 = .ok (.invokespecial 45, 3) := by decide +kernel
theorem dX5_addRandomStops_57 : decode cX5_addRandomStops 57 = .ok (.athrow, 1) := by decide +kernel
theorem dX5_addRandomStops_58 : decode cX5_addRandomStops 58 = .ok (.aload_n 0, 1) := by decide +kernel
theorem dX5_addRandomStops_59 : decode cX5_addRandomStops 59 = .ok (.getfield 10, 3) := by decide +kernel
theorem dX5_addRandomStops_62 : decode cX5_addRandomStops 62 = .ok (.getfield 86, 3) := by decide +kernel
theorem dX5_addRandomStops_65 : decode cX5_addRandomStops 65 = .ok (.getfield 90, 3) := by decide +kernel
theorem dX5_addRandomStops_68 : decode cX5_addRandomStops 68 = .ok (.iload 5, 2) := by decide +kernel
theorem dX5_addRandomStops_70 : decode cX5_addRandomStops 70 = .ok (.iadd, 1) := by decide +kernel
theorem dX5_addRandomStops_71 : decode cX5_addRandomStops 71 = .ok (.bipush 40, 2) := by decide +kernel
theorem dX5_addRandomStops_73 : decode cX5_addRandomStops 73 = .ok (.if_icmp .le 13, 3) := by decide +kernel
theorem dX5_addRandomStops_76 : decode cX5_addRandomStops 76 = .ok (.new 55, 3) := by decide +kernel
theorem dX5_addRandomStops_79 : decode cX5_addRandomStops 79 = .ok (.dup, 1) := by decide +kernel
theorem dX5_addRandomStops_80 : decode cX5_addRandomStops 80 = .ok (.ldc 103, 2) := by decide +kernel
theorem dX5_addRandomStops_82 : decode cX5_addRandomStops 82 = .ok (.invokespecial 59, 3) := by decide +kernel
theorem dX5_addRandomStops_85 : decode cX5_addRandomStops 85 = .ok (.athrow, 1) := by decide +kernel
theorem dX5_addRandomStops_86 : decode cX5_addRandomStops 86 = .ok (.aload_n 0, 1) := by decide +kernel
theorem dX5_addRandomStops_87 : decode cX5_addRandomStops 87 = .ok (.getfield 22, 3) := by decide +kernel
theorem dX5_addRandomStops_90 : decode cX5_addRandomStops 90 = .ok (.aload_n 0, 1) := by decide +kernel
theorem dX5_addRandomStops_91 : decode cX5_addRandomStops 91 = .ok (.getfield 10, 3) := by decide +kernel
theorem dX5_addRandomStops_94 : decode cX5_addRandomStops 94 = .ok (.invokevirtual 60, 3) := by decide +kernel
theorem dX5_addRandomStops_97 : decode cX5_addRandomStops 97 = .ok (.new 105, 3) := by decide +kernel
theorem dX5_addRandomStops_100 : decode cX5_addRandomStops 100 = .ok (.dup, 1) := by decide +kernel
theorem dX5_addRandomStops_101 : decode cX5_addRandomStops 101 = .ok (.iload_n 2, 1) := by decide +kernel
theorem dX5_addRandomStops_102 : decode cX5_addRandomStops 102 = .ok (.invokespecial 107, 3) := by decide +kernel
theorem dX5_addRandomStops_105 : decode cX5_addRandomStops 105 = .ok (.astore 6, 2) := by decide +kernel
theorem dX5_addRandomStops_107 : decode cX5_addRandomStops 107 = .ok (.aload_n 0, 1) := by decide +kernel
theorem dX5_addRandomStops_108 : decode cX5_addRandomStops 108 = .ok (.getfield 10, 3) := by decide +kernel
theorem dX5_addRandomStops_111 : decode cX5_addRandomStops 111 = .ok (.getfield 52, 3) := by decide +kernel
theorem dX5_addRandomStops_114 : decode cX5_addRandomStops 114 = .ok (.istore 7, 2) := by decide +kernel
theorem dX5_addRandomStops_116 : decode cX5_addRandomStops 116 = .ok (.iconst 0, 1) := by decide +kernel
theorem dX5_addRandomStops_117 : decode cX5_addRandomStops 117 = .ok (.istore 8, 2) := by decide +kernel
theorem dX5_addRandomStops_119 : decode cX5_addRandomStops 119 = .ok (.iload 8, 2) := by decide +kernel
theorem dX5_addRandomStops_121 : decode cX5_addRandomStops 121 = .ok (.iload 5, 2) := by decide +kernel
theorem dX5_addRandomStops_123 : decode cX5_addRandomStops 123 = .ok (.if_icmp .ge 72, 3) := by decide +kernel
theorem dX5_addRandomStops_126 : decode cX5_addRandomStops 126 = .ok (.iload 7, 2) := by decide +kernel
theorem dX5_addRandomStops_128 : decode cX5_addRandomStops 128 = .ok (.iconst 1, 1) := by decide +kernel
theorem dX5_addRandomStops_129 : decode cX5_addRandomStops 129 = .ok (.iadd, 1) := by decide +kernel
theorem dX5_addRandomStops_130 : decode cX5_addRandomStops 130 = .ok (.aload 6, 2) := by decide +kernel
theorem dX5_addRandomStops_132 : decode cX5_addRandomStops 132 = .ok (.iconst 2, 1) := by decide +kernel
theorem dX5_addRandomStops_133 : decode cX5_addRandomStops 133 = .ok (.iload_n 3, 1) := by decide +kernel
theorem dX5_addRandomStops_134 : decode cX5_addRandomStops 134 = .ok (.imul, 1) := by decide +kernel
theorem dX5_addRandomStops_135 : decode cX5_addRandomStops 135 = .ok (.invokevirtual 109, 3) := by decide +kernel
theorem dX5_addRandomStops_138 : decode cX5_addRandomStops 138 = .ok (.iadd, 1) := by decide +kernel
theorem dX5_addRandomStops_139 : decode cX5_addRandomStops 139 = .ok (.istore 9, 2) := by decide +kernel
theorem dX5_addRandomStops_141 : decode cX5_addRandomStops 141 = .ok (.iconst 1, 1) := by decide +kernel
theorem dX5_addRandomStops_142 : decode cX5_addRandomStops 142 = .ok (.aload 6, 2) := by decide +kernel
theorem dX5_addRandomStops_144 : decode cX5_addRandomStops 144 = .ok (.iconst 2, 1) := by decide +kernel
theorem dX5_addRandomStops_145 : decode cX5_addRandomStops 145 = .ok (.iload 4, 2) := by decide +kernel
theorem dX5_addRandomStops_147 : decode cX5_addRandomStops 147 = .ok (.imul, 1) := by decide +kernel
theorem dX5_addRandomStops_148 : decode cX5_addRandomStops 148 = .ok (.invokevirtual 109, 3) := by decide +kernel
theorem dX5_addRandomStops_151 : decode cX5_addRandomStops 151 = .ok (.iadd, 1) := by decide +kernel
theorem dX5_addRandomStops_152 : decode cX5_addRandomStops 152 = .ok (.istore 10, 2) := by decide +kernel
theorem dX5_addRandomStops_154 : decode cX5_addRandomStops 154 = .ok (.iload 9, 2) := by decide +kernel
theorem dX5_addRandomStops_156 : decode cX5_addRandomStops 156 = .ok (.sipush 10000, 3) := by decide +kernel
theorem dX5_addRandomStops_159 : decode cX5_addRandomStops 159 = .ok (.if_icmp .le 6, 3) := by decide +kernel
theorem dX5_addRandomStops_162 : decode cX5_addRandomStops 162 = .ok (.goto 33, 3) := by decide +kernel
theorem dX5_addRandomStops_165 : decode cX5_addRandomStops 165 = .ok (.aload_n 0, 1) := by decide +kernel
theorem dX5_addRandomStops_166 : decode cX5_addRandomStops 166 = .ok (.getfield 10, 3) := by decide +kernel
theorem dX5_addRandomStops_169 : decode cX5_addRandomStops 169 = .ok (.getfield 86, 3) := by decide +kernel
theorem dX5_addRandomStops_172 : decode cX5_addRandomStops 172 = .ok (.iload_n 1, 1) := by decide +kernel
theorem dX5_addRandomStops_173 : decode cX5_addRandomStops 173 = .ok (.iload 9, 2) := by decide +kernel
theorem dX5_addRandomStops_175 : decode cX5_addRandomStops 175 = .ok (.iload 10, 2) := by decide +kernel
theorem dX5_addRandomStops_177 : decode cX5_addRandomStops 177 = .ok (.invokevirtual 97, 3) := by decide +kernel
theorem dX5_addRandomStops_180 : decode cX5_addRandomStops 180 = .ok (.iload 9, 2) := by decide +kernel
theorem dX5_addRandomStops_182 : decode cX5_addRandomStops 182 = .ok (.iload 10, 2) := by decide +kernel
theorem dX5_addRandomStops_184 : decode cX5_addRandomStops 184 = .ok (.iadd, 1) := by decide +kernel
theorem dX5_addRandomStops_185 : decode cX5_addRandomStops 185 = .ok (.iconst 1, 1) := by decide +kernel
theorem dX5_addRandomStops_186 : decode cX5_addRandomStops 186 = .ok (.isub, 1) := by decide +kernel
theorem dX5_addRandomStops_187 : decode cX5_addRandomStops 187 = .ok (.istore 7, 2) := by decide +kernel
theorem dX5_addRandomStops_189 : decode cX5_addRandomStops 189 = .ok (.iinc 8 1, 3) := by decide +kernel
theorem dX5_addRandomStops_192 : decode cX5_addRandomStops 192 = .ok (.goto (-73), 3) := by decide +kernel
theorem dX5_addRandomStops_195 : decode cX5_addRandomStops 195 = .ok (.aload_n 0, 1) := by decide +kernel
theorem dX5_addRandomStops_196 : decode cX5_addRandomStops 196 = .ok (.getfield 10, 3) := by decide +kernel
theorem dX5_addRandomStops_199 : decode cX5_addRandomStops 199 = .ok (.getfield 86, 3) := by decide +kernel
theorem dX5_addRandomStops_202 : decode cX5_addRandomStops 202 = .ok (.getfield 90, 3) := by decide +kernel
theorem dX5_addRandomStops_205 : decode cX5_addRandomStops 205 = .ok (.ireturn, 1) := by decide +kernel
set_option maxRecDepth 20000 in
theorem ggX5_clearStops_X1_keep : GoodIn wsX5_clearStops wsX1_keep := goodIn_r _ [7, 8, 9, 10, 11, 12, 13, 14, 15, 16, 17, 18, 19, 20, 21, 22, 23, 24, 25, 26, 27, 28, 29, 30, 31, 48, 49, 50, 44, 45, 46, 47, 51, 52, 53, 54, 55] (by decide +kernel) (by decide +kernel)
set_option maxRecDepth 20000 in
theorem gX5_clearStops_X1_keep : GoodIn wsX5_clearStops (wsV RX5 60 RX1 yX1_keep wsX1_keep) := goodIn_app (goodIn_of _ (by decide +kernel)) ggX5_clearStops_X1_keep
set_option maxRecDepth 20000 in
theorem ggX5_clearStops_X4_dropAfter : GoodIn wsX5_clearStops wsX4_dropAfter := goodIn_r _ [35, 27, 30, 28, 31, 36, 37, 38, 25, 39, 51, 52, 53, 54, 55] (by decide +kernel) (by decide +kernel)
set_option maxRecDepth 20000 in
theorem gX5_clearStops_X4_dropAfter : GoodIn wsX5_clearStops (wsV RX5 113 RX4 yX4_dropAfter wsX4_dropAfter) := goodIn_app (goodIn_of _ (by decide +kernel)) ggX5_clearStops_X4_dropAfter
theorem dX5_clearStops_0 : decode cX5_clearStops 0 = .ok (.aload_n 0, 1) := by decide +kernel
theorem dX5_clearStops_1 : decode cX5_clearStops 1 = .ok (.getfield 22, 3) := by decide +kernel
theorem dX5_clearStops_4 : decode cX5_clearStops 4 = .ok (.aload_n 0, 1) := by decide +kernel
theorem dX5_clearStops_5 : decode cX5_clearStops 5 = .ok (.getfield 10, 3) := by decide +kernel
theorem dX5_clearStops_8 : decode cX5_clearStops 8 = .ok (.invokevirtual 60, 3) := by decide +kernel
theorem dX5_clearStops_11 : decode cX5_clearStops 11 = .ok (.aload_n 0, 1) := by decide +kernel
theorem dX5_clearStops_12 : decode cX5_clearStops 12 = .ok (.getfield 10, 3) := by decide +kernel
theorem dX5_clearStops_15 : decode cX5_clearStops 15 = .ok (.getfield 86, 3) := by decide +kernel
theorem dX5_clearStops_18 : decode cX5_clearStops 18 = .ok (.aload_n 0, 1) := by decide +kernel
theorem dX5_clearStops_19 : decode cX5_clearStops 19 = .ok (.getfield 10, 3) := by decide +kernel
theorem dX5_clearStops_22 : decode cX5_clearStops 22 = .ok (.getfield 52, 3) := by decide +kernel
theorem dX5_clearStops_25 : decode cX5_clearStops 25 = .ok (.invokevirtual 113, 3) := by decide +kernel
theorem dX5_clearStops_28 : decode cX5_clearStops 28 = .ok (.ireturn, 1) := by decide +kernel
theorem dX5_size_0 : decode cX5_size 0 = .ok (.iload_n 1, 1) := by decide +kernel
theorem dX5_size_1 : decode cX5_size 1 = .ok (.ifCond .eq 16, 3) := by decide +kernel
theorem dX5_size_4 : decode cX5_size 4 = .ok (.aload_n 0, 1) := by decide +kernel
theorem dX5_size_5 : decode cX5_size 5 = .ok (.getfield 10, 3) := by decide +kernel
theorem dX5_size_8 : decode cX5_size 8 = .ok (.getfield 86, 3) := by decide +kernel
theorem dX5_size_11 : decode cX5_size 11 = .ok (.getfield 90, 3) := by decide +kernel
theorem dX5_size_14 : decode cX5_size 14 = .ok (.goto 10, 3) := by decide +kernel
theorem dX5_size_17 : decode cX5_size 17 = .ok (.aload_n 0, 1) := by decide +kernel
theorem dX5_size_18 : decode cX5_size 18 = .ok (.getfield 10, 3) := by decide +kernel
theorem dX5_size_21 : decode cX5_size 21 = .ok (.getfield 48, 3) := by decide +kernel
theorem dX5_size_24 : decode cX5_size 24 = .ok (.ireturn, 1) := by decide +kernel
set_option maxRecDepth 20000 in
theorem ggX5_stop_X5_needWhat : GoodIn wsX5_stop wsX5_needWhat := goodIn_ca (goodIn_r _ [7, 8, 9] (by decide +kernel) (by decide +kernel)) (goodIn_sub (fun _ h => List.mem_cons_of_mem _ (List.mem_append_right _ h)) (by decide +kernel))
set_option maxRecDepth 20000 in
theorem gX5_stop_X5_needWhat : GoodIn wsX5_stop (va_wsS RX5 121 yX5_needWhat wsX5_needWhat) := goodIn_app (goodIn_of _ (by decide +kernel)) ggX5_stop_X5_needWhat
set_option maxRecDepth 20000 in
theorem ggX5_stop_X4_value : GoodIn wsX5_stop wsX4_value := goodIn_r _ [14, 15, 16, 17, 26, 27, 28, 29, 30] (by decide +kernel) (by decide +kernel)
set_option maxRecDepth 20000 in
theorem gX5_stop_X4_value : GoodIn wsX5_stop (wsV RX5 125 RX4 yX4_value wsX4_value) := goodIn_app (goodIn_of _ (by decide +kernel)) ggX5_stop_X4_value
theorem dX5_stop_0 : decode cX5_stop 0 = .ok (.iload_n 1, 1) := by decide +kernel
theorem dX5_stop_1 : decode cX5_stop 1 = .ok (.ifCond .lt 17, 3) := by decide +kernel
theorem dX5_stop_4 : decode cX5_stop 4 = .ok (.iload_n 1, 1) := by decide +kernel
theorem dX5_stop_5 : decode cX5_stop 5 = .ok (.aload_n 0, 1) := by decide +kernel
theorem dX5_stop_6 : decode cX5_stop 6 = .ok (.getfield 10, 3) := by decide +kernel
theorem dX5_stop_9 : decode cX5_stop 9 = .ok (.getfield 86, 3) := by decide +kernel
theorem dX5_stop_12 : decode cX5_stop 12 = .ok (.getfield 90, 3) := by decide +kernel
theorem dX5_stop_15 : decode cX5_stop 15 = .ok (.if_icmp .lt 13, 3) := by decide +kernel
theorem dX5_stop_18 : decode cX5_stop 18 = .ok (.new 116, 3) := by decide +kernel
theorem dX5_stop_21 : decode cX5_stop 21 = .ok (.dup, 1) := by decide +kernel
theorem dX5_stop_22 : decode cX5_stop 22 = .ok (.ldc 118, 2) := by decide +kernel
theorem dX5_stop_24 : decode cX5_stop 24 = .ok (.invokespecial 120, 3) := by decide +kernel
theorem dX5_stop_27 : decode cX5_stop 27 = .ok (.athrow, 1) := by decide +kernel
theorem dX5_stop_28 : decode cX5_stop 28 = .ok (.iload_n 2, 1) := by decide +kernel
theorem dX5_stop_29 : decode cX5_stop 29 = .ok (.iconst 3, 1) := by decide +kernel
theorem dX5_stop_30 : decode cX5_stop 30 = .ok (.invokestatic 121, 3) := by decide +kernel
theorem dX5_stop_33 : decode cX5_stop 33 = .ok (.aload_n 0, 1) := by decide +kernel
theorem dX5_stop_34 : decode cX5_stop 34 = .ok (.getfield 10, 3) := by decide +kernel
theorem dX5_stop_37 : decode cX5_stop 37 = .ok (.getfield 86, 3) := by decide +kernel
theorem dX5_stop_40 : decode cX5_stop 40 = .ok (.iload_n 1, 1) := by decide +kernel
theorem dX5_stop_41 : decode cX5_stop 41 = .ok (.iload_n 2, 1) := by decide +kernel
theorem dX5_stop_42 : decode cX5_stop 42 = .ok (.invokevirtual 125, 3) := by decide +kernel
theorem dX5_stop_45 : decode cX5_stop 45 = .ok (.ireturn, 1) := by decide +kernel
set_option maxRecDepth 20000 in
theorem ggX5_run_X5_isIn : GoodIn wsX5_run wsX5_isIn := goodIn_r _ [10] (by decide +kernel) (by decide +kernel)
set_option maxRecDepth 20000 in
theorem gX5_run_X5_isIn : GoodIn wsX5_run (va_wsS RX5 37 yX5_isIn wsX5_isIn) := goodIn_app (goodIn_of _ (by decide +kernel)) ggX5_run_X5_isIn
set_option maxRecDepth 20000 in
theorem ggX5_run_X5_needMachines : GoodIn wsX5_run wsX5_needMachines := goodIn_ca (goodIn_r _ [14, 3, 4, 5, 92, 93, 94, 95, 96, 97, 98, 99] (by decide +kernel) (by decide +kernel)) (goodIn_sub (fun _ h => List.mem_cons_of_mem _ (List.mem_append_right _ h)) (by decide +kernel))
set_option maxRecDepth 20000 in
theorem gX5_run_X5_needMachines : GoodIn wsX5_run (wsV RX5 131 RX5 yX5_needMachines wsX5_needMachines) := goodIn_app (goodIn_of _ (by decide +kernel)) ggX5_run_X5_needMachines
set_option maxRecDepth 20000 in
theorem ggX5_run_X1_keep : GoodIn wsX5_run wsX1_keep := goodIn_r _ [19, 20, 21, 22, 23, 24, 25, 26, 27, 28, 29, 30, 31, 32, 33, 34, 35, 36, 37, 38, 39, 40, 41, 42, 43, 100, 101, 102, 96, 97, 98, 99, 103, 104, 105, 106, 107] (by decide +kernel) (by decide +kernel)
set_option maxRecDepth 20000 in
theorem gX5_run_X1_keep : GoodIn wsX5_run (wsV RX5 60 RX1 yX1_keep wsX1_keep) := goodIn_app (goodIn_of _ (by decide +kernel)) ggX5_run_X1_keep
set_option maxRecDepth 20000 in
theorem ggX5_run_X2_bottlesOut : GoodIn wsX5_run wsX2_bottlesOut := goodIn_r _ [47, 27, 28, 96, 97, 98, 99] (by decide +kernel) (by decide +kernel)
set_option maxRecDepth 20000 in
theorem gX5_run_X2_bottlesOut : GoodIn wsX5_run (wsV RX5 136 RX2 yX2_bottlesOut wsX2_bottlesOut) := goodIn_app (goodIn_of _ (by decide +kernel)) ggX5_run_X2_bottlesOut
set_option maxRecDepth 20000 in
theorem ggX5_run_X2_pass : GoodIn wsX5_run wsX2_pass := goodIn_r _ [51, 34, 33, 27, 52, 53, 54, 37, 55, 56, 57, 39, 42, 43, 58, 59, 60, 61, 40, 62, 63, 64, 25, 65, 28, 66, 67, 68, 69, 70, 71, 72, 73, 74, 75, 76, 77, 78, 79, 80, 81, 82, 83, 84, 85, 86, 87, 88, 89, 90, 91, 96, 97, 98, 99, 103, 104, 105, 106, 107] (by decide +kernel) (by decide +kernel)
set_option maxRecDepth 20000 in
theorem gX5_run_X2_pass : GoodIn wsX5_run (wsV RX5 140 RX2 yX2_pass wsX2_pass) := goodIn_app (goodIn_of _ (by decide +kernel)) ggX5_run_X2_pass
theorem dX5_run_0 : decode cX5_run 0 = .ok (.iload_n 1, 1) := by decide +kernel
theorem dX5_run_1 : decode cX5_run 1 = .ok (.iconst 0, 1) := by decide +kernel
theorem dX5_run_2 : decode cX5_run 2 = .ok (.sipush 2000, 3) := by decide +kernel
theorem dX5_run_5 : decode cX5_run 5 = .ok (.invokestatic 37, 3) := by decide +kernel
theorem dX5_run_8 : decode cX5_run 8 = .ok (.ifCond .ne 13, 3) := by decide +kernel
theorem dX5_run_11 : decode cX5_run 11 = .ok (.new 41, 3) := by decide +kernel
theorem dX5_run_14 : decode cX5_run 14 = .ok (.dup, 1) := by decide +kernel
theorem dX5_run_15 : decode cX5_run 15 = .ok (.ldc 129, 2) := by decide +kernel
theorem dX5_run_17 : decode cX5_run 17 = .ok (.invokespecial 45, 3) := by decide +kernel
theorem dX5_run_20 : decode cX5_run 20 = .ok (.athrow, 1) := by decide +kernel
theorem dX5_run_21 : decode cX5_run 21 = .ok (.aload_n 0, 1) := by decide +kernel
theorem dX5_run_22 : decode cX5_run 22 = .ok (.iconst 1, 1) := by decide +kernel
theorem dX5_run_23 : decode cX5_run 23 = .ok (.invokevirtual 131, 3) := by decide +kernel
theorem dX5_run_26 : decode cX5_run 26 = .ok (.aload_n 0, 1) := by decide +kernel
theorem dX5_run_27 : decode cX5_run 27 = .ok (.getfield 10, 3) := by decide +kernel
theorem dX5_run_30 : decode cX5_run 30 = .ok (.getfield 52, 3) := by decide +kernel
theorem dX5_run_33 : decode cX5_run 33 = .ok (.iload_n 1, 1) := by decide +kernel
theorem dX5_run_34 : decode cX5_run 34 = .ok (.iadd, 1) := by decide +kernel
theorem dX5_run_35 : decode cX5_run 35 = .ok (.sipush 10000, 3) := by decide +kernel
theorem dX5_run_38 : decode cX5_run 38 = .ok (.if_icmp .le 13, 3) := by decide +kernel
theorem dX5_run_41 : decode cX5_run 41 = .ok (.new 55, 3) := by decide +kernel
theorem dX5_run_44 : decode cX5_run 44 = .ok (.dup, 1) := by decide +kernel
theorem dX5_run_45 : decode cX5_run 45 = .ok (.ldc 134, 2) := by decide +kernel
theorem dX5_run_47 : decode cX5_run 47 = .ok (.invokespecial 59, 3) := by decide +kernel
theorem dX5_run_50 : decode cX5_run 50 = .ok (.athrow, 1) := by decide +kernel
theorem dX5_run_51 : decode cX5_run 51 = .ok (.aload_n 0, 1) := by decide +kernel
theorem dX5_run_52 : decode cX5_run 52 = .ok (.getfield 22, 3) := by decide +kernel
theorem dX5_run_55 : decode cX5_run 55 = .ok (.aload_n 0, 1) := by decide +kernel
theorem dX5_run_56 : decode cX5_run 56 = .ok (.getfield 10, 3) := by decide +kernel
theorem dX5_run_59 : decode cX5_run 59 = .ok (.invokevirtual 60, 3) := by decide +kernel
theorem dX5_run_62 : decode cX5_run 62 = .ok (.aload_n 0, 1) := by decide +kernel
theorem dX5_run_63 : decode cX5_run 63 = .ok (.getfield 10, 3) := by decide +kernel
theorem dX5_run_66 : decode cX5_run 66 = .ok (.invokevirtual 136, 3) := by decide +kernel
theorem dX5_run_69 : decode cX5_run 69 = .ok (.istore_n 2, 1) := by decide +kernel
theorem dX5_run_70 : decode cX5_run 70 = .ok (.aload_n 0, 1) := by decide +kernel
theorem dX5_run_71 : decode cX5_run 71 = .ok (.getfield 10, 3) := by decide +kernel
theorem dX5_run_74 : decode cX5_run 74 = .ok (.iload_n 1, 1) := by decide +kernel
theorem dX5_run_75 : decode cX5_run 75 = .ok (.invokevirtual 140, 3) := by decide +kernel
theorem dX5_run_78 : decode cX5_run 78 = .ok (.aload_n 0, 1) := by decide +kernel
theorem dX5_run_79 : decode cX5_run 79 = .ok (.getfield 10, 3) := by decide +kernel
theorem dX5_run_82 : decode cX5_run 82 = .ok (.invokevirtual 136, 3) := by decide +kernel
theorem dX5_run_85 : decode cX5_run 85 = .ok (.iload_n 2, 1) := by decide +kernel
theorem dX5_run_86 : decode cX5_run 86 = .ok (.isub, 1) := by decide +kernel
theorem dX5_run_87 : decode cX5_run 87 = .ok (.ireturn, 1) := by decide +kernel
set_option maxRecDepth 20000 in
theorem ggX5_restart_X1_keep : GoodIn wsX5_restart wsX1_keep := goodIn_r _ [7, 8, 9, 10, 11, 12, 13, 14, 15, 16, 17, 18, 19, 20, 21, 22, 23, 24, 25, 26, 27, 28, 29, 30, 31, 47, 48, 49, 43, 44, 45, 46, 50, 51, 52, 53, 54] (by decide +kernel) (by decide +kernel)
set_option maxRecDepth 20000 in
theorem gX5_restart_X1_keep : GoodIn wsX5_restart (wsV RX5 60 RX1 yX1_keep wsX1_keep) := goodIn_app (goodIn_of _ (by decide +kernel)) ggX5_restart_X1_keep
set_option maxRecDepth 20000 in
theorem ggX5_restart_X2_beginAnew : GoodIn wsX5_restart wsX2_beginAnew := goodIn_r _ [35, 22, 15, 16, 36, 37, 13, 38, 43, 44, 45, 46] (by decide +kernel) (by decide +kernel)
set_option maxRecDepth 20000 in
theorem gX5_restart_X2_beginAnew : GoodIn wsX5_restart (wsV RX5 143 RX2 yX2_beginAnew wsX2_beginAnew) := goodIn_app (goodIn_of _ (by decide +kernel)) ggX5_restart_X2_beginAnew
theorem dX5_restart_0 : decode cX5_restart 0 = .ok (.aload_n 0, 1) := by decide +kernel
theorem dX5_restart_1 : decode cX5_restart 1 = .ok (.getfield 22, 3) := by decide +kernel
theorem dX5_restart_4 : decode cX5_restart 4 = .ok (.aload_n 0, 1) := by decide +kernel
theorem dX5_restart_5 : decode cX5_restart 5 = .ok (.getfield 10, 3) := by decide +kernel
theorem dX5_restart_8 : decode cX5_restart 8 = .ok (.invokevirtual 60, 3) := by decide +kernel
theorem dX5_restart_11 : decode cX5_restart 11 = .ok (.aload_n 0, 1) := by decide +kernel
theorem dX5_restart_12 : decode cX5_restart 12 = .ok (.getfield 10, 3) := by decide +kernel
theorem dX5_restart_15 : decode cX5_restart 15 = .ok (.getfield 52, 3) := by decide +kernel
theorem dX5_restart_18 : decode cX5_restart 18 = .ok (.istore_n 1, 1) := by decide +kernel
theorem dX5_restart_19 : decode cX5_restart 19 = .ok (.aload_n 0, 1) := by decide +kernel
theorem dX5_restart_20 : decode cX5_restart 20 = .ok (.getfield 10, 3) := by decide +kernel
theorem dX5_restart_23 : decode cX5_restart 23 = .ok (.invokevirtual 143, 3) := by decide +kernel
theorem dX5_restart_26 : decode cX5_restart 26 = .ok (.iload_n 1, 1) := by decide +kernel
theorem dX5_restart_27 : decode cX5_restart 27 = .ok (.ireturn, 1) := by decide +kernel
theorem dX5_now_0 : decode cX5_now 0 = .ok (.aload_n 0, 1) := by decide +kernel
theorem dX5_now_1 : decode cX5_now 1 = .ok (.getfield 10, 3) := by decide +kernel
theorem dX5_now_4 : decode cX5_now 4 = .ok (.getfield 52, 3) := by decide +kernel
theorem dX5_now_7 : decode cX5_now 7 = .ok (.ireturn, 1) := by decide +kernel
set_option maxRecDepth 20000 in
theorem ggX5_output_X2_bottlesOut : GoodIn wsX5_output wsX2_bottlesOut := goodIn_r _ [6, 7, 8, 13, 14, 15, 16] (by decide +kernel) (by decide +kernel)
set_option maxRecDepth 20000 in
theorem gX5_output_X2_bottlesOut : GoodIn wsX5_output (wsV RX5 136 RX2 yX2_bottlesOut wsX2_bottlesOut) := goodIn_app (goodIn_of _ (by decide +kernel)) ggX5_output_X2_bottlesOut
theorem dX5_output_0 : decode cX5_output 0 = .ok (.aload_n 0, 1) := by decide +kernel
theorem dX5_output_1 : decode cX5_output 1 = .ok (.getfield 10, 3) := by decide +kernel
theorem dX5_output_4 : decode cX5_output 4 = .ok (.invokevirtual 136, 3) := by decide +kernel
theorem dX5_output_7 : decode cX5_output 7 = .ok (.ireturn, 1) := by decide +kernel
set_option maxRecDepth 20000 in
theorem ggX5_setting_X5_needMachine : GoodIn wsX5_setting wsX5_needMachine := goodIn_ca (goodIn_r _ [6, 7, 8, 1, 14, 15, 16, 17, 18, 19, 20, 21] (by decide +kernel) (by decide +kernel)) (goodIn_sub (fun _ h => List.mem_cons_of_mem _ (List.mem_append_left _ (List.mem_append_right _ h))) (by decide +kernel))
set_option maxRecDepth 20000 in
theorem gX5_setting_X5_needMachine : GoodIn wsX5_setting (wsV RX5 68 RX5 yX5_needMachine wsX5_needMachine) := goodIn_app (goodIn_of _ (by decide +kernel)) ggX5_setting_X5_needMachine
set_option maxRecDepth 20000 in
theorem ggX5_setting_X5_needWhat : GoodIn wsX5_setting wsX5_needWhat := goodIn_ca (goodIn_r _ [11, 12, 13] (by decide +kernel) (by decide +kernel)) (goodIn_sub (fun _ h => List.mem_cons_of_mem _ (List.mem_append_right _ h)) (by decide +kernel))
set_option maxRecDepth 20000 in
theorem gX5_setting_X5_needWhat : GoodIn wsX5_setting (va_wsS RX5 121 yX5_needWhat wsX5_needWhat) := goodIn_app (goodIn_of _ (by decide +kernel)) ggX5_setting_X5_needWhat
theorem dX5_setting_0 : decode cX5_setting 0 = .ok (.aload_n 0, 1) := by decide +kernel
theorem dX5_setting_1 : decode cX5_setting 1 = .ok (.iload_n 1, 1) := by decide +kernel
theorem dX5_setting_2 : decode cX5_setting 2 = .ok (.invokevirtual 68, 3) := by decide +kernel
theorem dX5_setting_5 : decode cX5_setting 5 = .ok (.iload_n 2, 1) := by decide +kernel
theorem dX5_setting_6 : decode cX5_setting 6 = .ok (.iconst 5, 1) := by decide +kernel
theorem dX5_setting_7 : decode cX5_setting 7 = .ok (.invokestatic 121, 3) := by decide +kernel
theorem dX5_setting_10 : decode cX5_setting 10 = .ok (.aload_n 0, 1) := by decide +kernel
theorem dX5_setting_11 : decode cX5_setting 11 = .ok (.getfield 10, 3) := by decide +kernel
theorem dX5_setting_14 : decode cX5_setting 14 = .ok (.getfield 74, 3) := by decide +kernel
theorem dX5_setting_17 : decode cX5_setting 17 = .ok (.iload_n 1, 1) := by decide +kernel
theorem dX5_setting_18 : decode cX5_setting 18 = .ok (.aaload, 1) := by decide +kernel
theorem dX5_setting_19 : decode cX5_setting 19 = .ok (.iconst 0, 1) := by decide +kernel
theorem dX5_setting_20 : decode cX5_setting 20 = .ok (.iload_n 2, 1) := by decide +kernel
theorem dX5_setting_21 : decode cX5_setting 21 = .ok (.iadd, 1) := by decide +kernel
theorem dX5_setting_22 : decode cX5_setting 22 = .ok (.iaload, 1) := by decide +kernel
theorem dX5_setting_23 : decode cX5_setting 23 = .ok (.ireturn, 1) := by decide +kernel
set_option maxRecDepth 20000 in
theorem ggX5_machine_X5_needMachine : GoodIn wsX5_machine wsX5_needMachine := goodIn_ca (goodIn_r _ [6, 7, 8, 1, 14, 15, 16, 17, 18, 19, 20, 21] (by decide +kernel) (by decide +kernel)) (goodIn_sub (fun _ h => List.mem_cons_of_mem _ (List.mem_append_left _ (List.mem_append_right _ h))) (by decide +kernel))
set_option maxRecDepth 20000 in
theorem gX5_machine_X5_needMachine : GoodIn wsX5_machine (wsV RX5 68 RX5 yX5_needMachine wsX5_needMachine) := goodIn_app (goodIn_of _ (by decide +kernel)) ggX5_machine_X5_needMachine
set_option maxRecDepth 20000 in
theorem ggX5_machine_X5_needWhat : GoodIn wsX5_machine wsX5_needWhat := goodIn_ca (goodIn_r _ [11, 12, 13] (by decide +kernel) (by decide +kernel)) (goodIn_sub (fun _ h => List.mem_cons_of_mem _ (List.mem_append_right _ h)) (by decide +kernel))
set_option maxRecDepth 20000 in
theorem gX5_machine_X5_needWhat : GoodIn wsX5_machine (va_wsS RX5 121 yX5_needWhat wsX5_needWhat) := goodIn_app (goodIn_of _ (by decide +kernel)) ggX5_machine_X5_needWhat
theorem dX5_machine_0 : decode cX5_machine 0 = .ok (.aload_n 0, 1) := by decide +kernel
theorem dX5_machine_1 : decode cX5_machine 1 = .ok (.iload_n 1, 1) := by decide +kernel
theorem dX5_machine_2 : decode cX5_machine 2 = .ok (.invokevirtual 68, 3) := by decide +kernel
theorem dX5_machine_5 : decode cX5_machine 5 = .ok (.iload_n 2, 1) := by decide +kernel
theorem dX5_machine_6 : decode cX5_machine 6 = .ok (.iconst 4, 1) := by decide +kernel
theorem dX5_machine_7 : decode cX5_machine 7 = .ok (.invokestatic 121, 3) := by decide +kernel
theorem dX5_machine_10 : decode cX5_machine 10 = .ok (.aload_n 0, 1) := by decide +kernel
theorem dX5_machine_11 : decode cX5_machine 11 = .ok (.getfield 10, 3) := by decide +kernel
theorem dX5_machine_14 : decode cX5_machine 14 = .ok (.getfield 74, 3) := by decide +kernel
theorem dX5_machine_17 : decode cX5_machine 17 = .ok (.iload_n 1, 1) := by decide +kernel
theorem dX5_machine_18 : decode cX5_machine 18 = .ok (.aaload, 1) := by decide +kernel
theorem dX5_machine_19 : decode cX5_machine 19 = .ok (.iconst 5, 1) := by decide +kernel
theorem dX5_machine_20 : decode cX5_machine 20 = .ok (.iload_n 2, 1) := by decide +kernel
theorem dX5_machine_21 : decode cX5_machine 21 = .ok (.iadd, 1) := by decide +kernel
theorem dX5_machine_22 : decode cX5_machine 22 = .ok (.iaload, 1) := by decide +kernel
theorem dX5_machine_23 : decode cX5_machine 23 = .ok (.ireturn, 1) := by decide +kernel
set_option maxRecDepth 20000 in
theorem ggX5_count_X5_needMachine : GoodIn wsX5_count wsX5_needMachine := goodIn_ca (goodIn_r _ [6, 7, 8, 1, 14, 15, 16, 17, 18, 19, 20, 21] (by decide +kernel) (by decide +kernel)) (goodIn_sub (fun _ h => List.mem_cons_of_mem _ (List.mem_append_left _ (List.mem_append_right _ h))) (by decide +kernel))
set_option maxRecDepth 20000 in
theorem gX5_count_X5_needMachine : GoodIn wsX5_count (wsV RX5 68 RX5 yX5_needMachine wsX5_needMachine) := goodIn_app (goodIn_of _ (by decide +kernel)) ggX5_count_X5_needMachine
set_option maxRecDepth 20000 in
theorem ggX5_count_X5_needWhat : GoodIn wsX5_count wsX5_needWhat := goodIn_ca (goodIn_r _ [11, 12, 13] (by decide +kernel) (by decide +kernel)) (goodIn_sub (fun _ h => List.mem_cons_of_mem _ (List.mem_append_right _ h)) (by decide +kernel))
set_option maxRecDepth 20000 in
theorem gX5_count_X5_needWhat : GoodIn wsX5_count (va_wsS RX5 121 yX5_needWhat wsX5_needWhat) := goodIn_app (goodIn_of _ (by decide +kernel)) ggX5_count_X5_needWhat
theorem dX5_count_0 : decode cX5_count 0 = .ok (.aload_n 0, 1) := by decide +kernel
theorem dX5_count_1 : decode cX5_count 1 = .ok (.iload_n 1, 1) := by decide +kernel
theorem dX5_count_2 : decode cX5_count 2 = .ok (.invokevirtual 68, 3) := by decide +kernel
theorem dX5_count_5 : decode cX5_count 5 = .ok (.iload_n 2, 1) := by decide +kernel
theorem dX5_count_6 : decode cX5_count 6 = .ok (.bipush 6, 2) := by decide +kernel
theorem dX5_count_8 : decode cX5_count 8 = .ok (.invokestatic 121, 3) := by decide +kernel
theorem dX5_count_11 : decode cX5_count 11 = .ok (.aload_n 0, 1) := by decide +kernel
theorem dX5_count_12 : decode cX5_count 12 = .ok (.getfield 10, 3) := by decide +kernel
theorem dX5_count_15 : decode cX5_count 15 = .ok (.getfield 74, 3) := by decide +kernel
theorem dX5_count_18 : decode cX5_count 18 = .ok (.iload_n 1, 1) := by decide +kernel
theorem dX5_count_19 : decode cX5_count 19 = .ok (.aaload, 1) := by decide +kernel
theorem dX5_count_20 : decode cX5_count 20 = .ok (.bipush 9, 2) := by decide +kernel
theorem dX5_count_22 : decode cX5_count 22 = .ok (.iload_n 2, 1) := by decide +kernel
theorem dX5_count_23 : decode cX5_count 23 = .ok (.iadd, 1) := by decide +kernel
theorem dX5_count_24 : decode cX5_count 24 = .ok (.iaload, 1) := by decide +kernel
theorem dX5_count_25 : decode cX5_count 25 = .ok (.ireturn, 1) := by decide +kernel
set_option maxRecDepth 20000 in
theorem ggX5_inside_X2_bottlesInside : GoodIn wsX5_inside wsX2_bottlesInside := goodIn_r _ [6, 7, 8, 13, 14, 15, 16] (by decide +kernel) (by decide +kernel)
set_option maxRecDepth 20000 in
theorem gX5_inside_X2_bottlesInside : GoodIn wsX5_inside (wsV RX5 146 RX2 yX2_bottlesInside wsX2_bottlesInside) := goodIn_app (goodIn_of _ (by decide +kernel)) ggX5_inside_X2_bottlesInside
theorem dX5_inside_0 : decode cX5_inside 0 = .ok (.aload_n 0, 1) := by decide +kernel
theorem dX5_inside_1 : decode cX5_inside 1 = .ok (.getfield 10, 3) := by decide +kernel
theorem dX5_inside_4 : decode cX5_inside 4 = .ok (.invokevirtual 146, 3) := by decide +kernel
theorem dX5_inside_7 : decode cX5_inside 7 = .ok (.ireturn, 1) := by decide +kernel
set_option maxRecDepth 20000 in
theorem ggX5_bound_X5_needHorizon : GoodIn wsX5_bound wsX5_needHorizon := goodIn_ca (goodIn_r _ [5, 6, 7, 8, 9, 4, 10] (by decide +kernel) (by decide +kernel)) (goodIn_sub (fun _ h => List.mem_cons_of_mem _ (List.mem_append_left _ (List.mem_append_right _ h))) (by decide +kernel))
set_option maxRecDepth 20000 in
theorem gX5_bound_X5_needHorizon : GoodIn wsX5_bound (va_wsS RX5 149 yX5_needHorizon wsX5_needHorizon) := goodIn_app (goodIn_of _ (by decide +kernel)) ggX5_bound_X5_needHorizon
set_option maxRecDepth 20000 in
theorem ggX5_bound_X5_needMachines : GoodIn wsX5_bound wsX5_needMachines := goodIn_ca (goodIn_r _ [14, 15, 16, 1, 55, 56, 57, 58, 59, 60, 61, 62] (by decide +kernel) (by decide +kernel)) (goodIn_sub (fun _ h => List.mem_cons_of_mem _ (List.mem_append_right _ h)) (by decide +kernel))
set_option maxRecDepth 20000 in
theorem gX5_bound_X5_needMachines : GoodIn wsX5_bound (wsV RX5 131 RX5 yX5_needMachines wsX5_needMachines) := goodIn_app (goodIn_of _ (by decide +kernel)) ggX5_bound_X5_needMachines
set_option maxRecDepth 20000 in
theorem ggX5_bound_X2_findSlowest : GoodIn wsX5_bound wsX2_findSlowest := goodIn_r _ [21, 22, 23, 24, 25, 26, 20, 27, 28, 29, 30, 31, 32, 33, 34, 35, 36, 37, 38, 39, 40, 41, 42, 43, 44, 45, 46, 47, 48, 49, 50, 51, 52, 53, 59, 60, 61, 62, 63, 64, 65, 66, 67] (by decide +kernel) (by decide +kernel)
set_option maxRecDepth 20000 in
theorem gX5_bound_X2_findSlowest : GoodIn wsX5_bound (wsV RX5 152 RX2 yX2_findSlowest wsX2_findSlowest) := goodIn_app (goodIn_of _ (by decide +kernel)) ggX5_bound_X2_findSlowest
set_option maxRecDepth 20000 in
theorem ggX5_bound_X2_mostBottles : GoodIn wsX5_bound wsX2_mostBottles := goodIn_r _ [27, 28, 29, 30, 31, 20, 32, 33, 34, 35, 36, 37, 38, 39, 40, 41, 42, 43, 44, 45, 46, 47, 48, 49, 50, 51, 52, 53, 59, 60, 61, 62, 63, 64, 65, 66, 67] (by decide +kernel) (by decide +kernel)
set_option maxRecDepth 20000 in
theorem gX5_bound_X2_mostBottles : GoodIn wsX5_bound (wsV RX5 155 RX2 yX2_mostBottles wsX2_mostBottles) := goodIn_app (goodIn_of _ (by decide +kernel)) ggX5_bound_X2_mostBottles
theorem dX5_bound_0 : decode cX5_bound 0 = .ok (.iload_n 1, 1) := by decide +kernel
theorem dX5_bound_1 : decode cX5_bound 1 = .ok (.sipush 10000, 3) := by decide +kernel
theorem dX5_bound_4 : decode cX5_bound 4 = .ok (.invokestatic 149, 3) := by decide +kernel
theorem dX5_bound_7 : decode cX5_bound 7 = .ok (.aload_n 0, 1) := by decide +kernel
theorem dX5_bound_8 : decode cX5_bound 8 = .ok (.iconst 1, 1) := by decide +kernel
theorem dX5_bound_9 : decode cX5_bound 9 = .ok (.invokevirtual 131, 3) := by decide +kernel
theorem dX5_bound_12 : decode cX5_bound 12 = .ok (.aload_n 0, 1) := by decide +kernel
theorem dX5_bound_13 : decode cX5_bound 13 = .ok (.getfield 10, 3) := by decide +kernel
theorem dX5_bound_16 : decode cX5_bound 16 = .ok (.aload_n 0, 1) := by decide +kernel
theorem dX5_bound_17 : decode cX5_bound 17 = .ok (.getfield 10, 3) := by decide +kernel
theorem dX5_bound_20 : decode cX5_bound 20 = .ok (.iload_n 1, 1) := by decide +kernel
theorem dX5_bound_21 : decode cX5_bound 21 = .ok (.invokevirtual 152, 3) := by decide +kernel
theorem dX5_bound_24 : decode cX5_bound 24 = .ok (.iload_n 1, 1) := by decide +kernel
theorem dX5_bound_25 : decode cX5_bound 25 = .ok (.invokevirtual 155, 3) := by decide +kernel
theorem dX5_bound_28 : decode cX5_bound 28 = .ok (.ireturn, 1) := by decide +kernel
set_option maxRecDepth 20000 in
theorem ggX5_limiting_X5_needMachines : GoodIn wsX5_limiting wsX5_needMachines := goodIn_ca (goodIn_r _ [6, 7, 8, 1, 17, 18, 19, 20, 21, 22, 23, 24] (by decide +kernel) (by decide +kernel)) (goodIn_sub (fun _ h => List.mem_cons_of_mem _ (List.mem_append_right _ h)) (by decide +kernel))
set_option maxRecDepth 20000 in
theorem gX5_limiting_X5_needMachines : GoodIn wsX5_limiting (wsV RX5 131 RX5 yX5_needMachines wsX5_needMachines) := goodIn_app (goodIn_of _ (by decide +kernel)) ggX5_limiting_X5_needMachines
set_option maxRecDepth 20000 in
theorem ggX5_limiting_X2_findLimiting : GoodIn wsX5_limiting wsX2_findLimiting := goodIn_r _ [13, 14, 15, 16, 21, 22, 23, 24] (by decide +kernel) (by decide +kernel)
set_option maxRecDepth 20000 in
theorem gX5_limiting_X2_findLimiting : GoodIn wsX5_limiting (wsV RX5 158 RX2 yX2_findLimiting wsX2_findLimiting) := goodIn_app (goodIn_of _ (by decide +kernel)) ggX5_limiting_X2_findLimiting
theorem dX5_limiting_0 : decode cX5_limiting 0 = .ok (.aload_n 0, 1) := by decide +kernel
theorem dX5_limiting_1 : decode cX5_limiting 1 = .ok (.iconst 1, 1) := by decide +kernel
theorem dX5_limiting_2 : decode cX5_limiting 2 = .ok (.invokevirtual 131, 3) := by decide +kernel
theorem dX5_limiting_5 : decode cX5_limiting 5 = .ok (.aload_n 0, 1) := by decide +kernel
theorem dX5_limiting_6 : decode cX5_limiting 6 = .ok (.getfield 10, 3) := by decide +kernel
theorem dX5_limiting_9 : decode cX5_limiting 9 = .ok (.invokevirtual 158, 3) := by decide +kernel
theorem dX5_limiting_12 : decode cX5_limiting 12 = .ok (.ireturn, 1) := by decide +kernel
set_option maxRecDepth 20000 in
theorem ggX5_slowest_X5_needHorizon : GoodIn wsX5_slowest wsX5_needHorizon := goodIn_ca (goodIn_r _ [5, 6, 7, 8, 9, 4, 10] (by decide +kernel) (by decide +kernel)) (goodIn_sub (fun _ h => List.mem_cons_of_mem _ (List.mem_append_left _ (List.mem_append_right _ h))) (by decide +kernel))
set_option maxRecDepth 20000 in
theorem gX5_slowest_X5_needHorizon : GoodIn wsX5_slowest (va_wsS RX5 149 yX5_needHorizon wsX5_needHorizon) := goodIn_app (goodIn_of _ (by decide +kernel)) ggX5_slowest_X5_needHorizon
