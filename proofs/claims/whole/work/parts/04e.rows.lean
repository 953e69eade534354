theorem dX6_stop_57 : decode cX6_stop 57 = .ok (.ireturn, 1) := by decide +kernel
theorem dX6_laysDown_0 : decode cX6_laysDown 0 = .ok (.iload_n 1, 1) := by decide +kernel
theorem dX6_laysDown_1 : decode cX6_laysDown 1 = .ok (.istore_n 3, 1) := by decide +kernel
theorem dX6_laysDown_2 : decode cX6_laysDown 2 = .ok (.iload_n 3, 1) := by decide +kernel
theorem dX6_laysDown_3 : decode cX6_laysDown 3 = .ok (.iload_n 2, 1) := by decide +kernel
theorem dX6_laysDown_4 : decode cX6_laysDown 4 = .ok (.if_icmp .gt 16, 3) := by decide +kernel
theorem dX6_laysDown_7 : decode cX6_laysDown 7 = .ok (.aload_n 0, 1) := by decide +kernel
theorem dX6_laysDown_8 : decode cX6_laysDown 8 = .ok (.getfield 22, 3) := by decide +kernel
theorem dX6_laysDown_11 : decode cX6_laysDown 11 = .ok (.iload_n 3, 1) := by decide +kernel
theorem dX6_laysDown_12 : decode cX6_laysDown 12 = .ok (.iconst 0, 1) := by decide +kernel
theorem dX6_laysDown_13 : decode cX6_laysDown 13 = .ok (.iastore, 1) := by decide +kernel
theorem dX6_laysDown_14 : decode cX6_laysDown 14 = .ok (.iinc 3 1, 3) := by decide +kernel
theorem dX6_laysDown_17 : decode cX6_laysDown 17 = .ok (.goto (-15), 3) := by decide +kernel
theorem dX6_laysDown_20 : decode cX6_laysDown 20 = .ok (.iconst 0, 1) := by decide +kernel
theorem dX6_laysDown_21 : decode cX6_laysDown 21 = .ok (.istore_n 3, 1) := by decide +kernel
theorem dX6_laysDown_22 : decode cX6_laysDown 22 = .ok (.iload_n 3, 1) := by decide +kernel
theorem dX6_laysDown_23 : decode cX6_laysDown 23 = .ok (.aload_n 0, 1) := by decide +kernel
theorem dX6_laysDown_24 : decode cX6_laysDown 24 = .ok (.getfield 7, 3) := by decide +kernel
theorem dX6_laysDown_27 : decode cX6_laysDown 27 = .ok (.iconst 2, 1) := by decide +kernel
theorem dX6_laysDown_28 : decode cX6_laysDown 28 = .ok (.iaload, 1) := by decide +kernel
theorem dX6_laysDown_29 : decode cX6_laysDown 29 = .ok (.if_icmp .ge 101, 3) := by decide +kernel
theorem dX6_laysDown_32 : decode cX6_laysDown 32 = .ok (.aload_n 0, 1) := by decide +kernel
theorem dX6_laysDown_33 : decode cX6_laysDown 33 = .ok (.getfield 7, 3) := by decide +kernel
theorem dX6_laysDown_36 : decode cX6_laysDown 36 = .ok (.sipush 131, 3) := by decide +kernel
theorem dX6_laysDown_39 : decode cX6_laysDown 39 = .ok (.iconst 3, 1) := by decide +kernel
theorem dX6_laysDown_40 : decode cX6_laysDown 40 = .ok (.iload_n 3, 1) := by decide +kernel
theorem dX6_laysDown_41 : decode cX6_laysDown 41 = .ok (.imul, 1) := by decide +kernel
theorem dX6_laysDown_42 : decode cX6_laysDown 42 = .ok (.iadd, 1) := by decide +kernel
theorem dX6_laysDown_43 : decode cX6_laysDown 43 = .ok (.iconst 1, 1) := by decide +kernel
theorem dX6_laysDown_44 : decode cX6_laysDown 44 = .ok (.iadd, 1) := by decide +kernel
theorem dX6_laysDown_45 : decode cX6_laysDown 45 = .ok (.iaload, 1) := by decide +kernel
theorem dX6_laysDown_46 : decode cX6_laysDown 46 = .ok (.istore 4, 2) := by decide +kernel
theorem dX6_laysDown_48 : decode cX6_laysDown 48 = .ok (.iload 4, 2) := by decide +kernel
theorem dX6_laysDown_50 : decode cX6_laysDown 50 = .ok (.aload_n 0, 1) := by decide +kernel
theorem dX6_laysDown_51 : decode cX6_laysDown 51 = .ok (.getfield 7, 3) := by decide +kernel
theorem dX6_laysDown_54 : decode cX6_laysDown 54 = .ok (.sipush 131, 3) := by decide +kernel
theorem dX6_laysDown_57 : decode cX6_laysDown 57 = .ok (.iconst 3, 1) := by decide +kernel
theorem dX6_laysDown_58 : decode cX6_laysDown 58 = .ok (.iload_n 3, 1) := by decide +kernel
theorem dX6_laysDown_59 : decode cX6_laysDown 59 = .ok (.imul, 1) := by decide +kernel
theorem dX6_laysDown_60 : decode cX6_laysDown 60 = .ok (.iadd, 1) := by decide +kernel
theorem dX6_laysDown_61 : decode cX6_laysDown 61 = .ok (.iconst 2, 1) := by decide +kernel
theorem dX6_laysDown_62 : decode cX6_laysDown 62 = .ok (.iadd, 1) := by decide +kernel
theorem dX6_laysDown_63 : decode cX6_laysDown 63 = .ok (.iaload, 1) := by decide +kernel
theorem dX6_laysDown_64 : decode cX6_laysDown 64 = .ok (.iadd, 1) := by decide +kernel
theorem dX6_laysDown_65 : decode cX6_laysDown 65 = .ok (.istore 5, 2) := by decide +kernel
theorem dX6_laysDown_67 : decode cX6_laysDown 67 = .ok (.iload 4, 2) := by decide +kernel
theorem dX6_laysDown_69 : decode cX6_laysDown 69 = .ok (.iload_n 1, 1) := by decide +kernel
theorem dX6_laysDown_70 : decode cX6_laysDown 70 = .ok (.if_icmp .le 8, 3) := by decide +kernel
theorem dX6_laysDown_73 : decode cX6_laysDown 73 = .ok (.iload 4, 2) := by decide +kernel
theorem dX6_laysDown_75 : decode cX6_laysDown 75 = .ok (.goto 4, 3) := by decide +kernel
theorem dX6_laysDown_78 : decode cX6_laysDown 78 = .ok (.iload_n 1, 1) := by decide +kernel
theorem dX6_laysDown_79 : decode cX6_laysDown 79 = .ok (.istore 6, 2) := by decide +kernel
theorem dX6_laysDown_81 : decode cX6_laysDown 81 = .ok (.iload 6, 2) := by decide +kernel
theorem dX6_laysDown_83 : decode cX6_laysDown 83 = .ok (.iload 5, 2) := by decide +kernel
theorem dX6_laysDown_85 : decode cX6_laysDown 85 = .ok (.if_icmp .ge 39, 3) := by decide +kernel
theorem dX6_laysDown_88 : decode cX6_laysDown 88 = .ok (.iload 6, 2) := by decide +kernel
theorem dX6_laysDown_90 : decode cX6_laysDown 90 = .ok (.iload_n 2, 1) := by decide +kernel
theorem dX6_laysDown_91 : decode cX6_laysDown 91 = .ok (.if_icmp .gt 33, 3) := by decide +kernel
theorem dX6_laysDown_94 : decode cX6_laysDown 94 = .ok (.aload_n 0, 1) := by decide +kernel
theorem dX6_laysDown_95 : decode cX6_laysDown 95 = .ok (.getfield 22, 3) := by decide +kernel
theorem dX6_laysDown_98 : decode cX6_laysDown 98 = .ok (.iload 6, 2) := by decide +kernel
theorem dX6_laysDown_100 : decode cX6_laysDown 100 = .ok (.dup2, 1) := by decide +kernel
theorem dX6_laysDown_101 : decode cX6_laysDown 101 = .ok (.iaload, 1) := by decide +kernel
theorem dX6_laysDown_102 : decode cX6_laysDown 102 = .ok (.iconst 1, 1) := by decide +kernel
theorem dX6_laysDown_103 : decode cX6_laysDown 103 = .ok (.aload_n 0, 1) := by decide +kernel
theorem dX6_laysDown_104 : decode cX6_laysDown 104 = .ok (.getfield 7, 3) := by decide +kernel
theorem dX6_laysDown_107 : decode cX6_laysDown 107 = .ok (.sipush 131, 3) := by decide +kernel
theorem dX6_laysDown_110 : decode cX6_laysDown 110 = .ok (.iconst 3, 1) := by decide +kernel
theorem dX6_laysDown_111 : decode cX6_laysDown 111 = .ok (.iload_n 3, 1) := by decide +kernel
theorem dX6_laysDown_112 : decode cX6_laysDown 112 = .ok (.imul, 1) := by decide +kernel
theorem dX6_laysDown_113 : decode cX6_laysDown 113 = .ok (.iadd, 1) := by decide +kernel
theorem dX6_laysDown_114 : decode cX6_laysDown 114 = .ok (.iaload, 1) := by decide +kernel
theorem dX6_laysDown_115 : decode cX6_laysDown 115 = .ok (.ishl, 1) := by decide +kernel
theorem dX6_laysDown_116 : decode cX6_laysDown 116 = .ok (.ior, 1) := by decide +kernel
theorem dX6_laysDown_117 : decode cX6_laysDown 117 = .ok (.iastore, 1) := by decide +kernel
theorem dX6_laysDown_118 : decode cX6_laysDown 118 = .ok (.iinc 6 1, 3) := by decide +kernel
theorem dX6_laysDown_121 : decode cX6_laysDown 121 = .ok (.goto (-40), 3) := by decide +kernel
theorem dX6_laysDown_124 : decode cX6_laysDown 124 = .ok (.iinc 3 1, 3) := by decide +kernel
theorem dX6_laysDown_127 : decode cX6_laysDown 127 = .ok (.goto (-105), 3) := by decide +kernel
theorem dX6_laysDown_130 : decode cX6_laysDown 130 = .ok (.return_, 1) := by decide +kernel
theorem dX6_isDown_0 : decode cX6_isDown 0 = .ok (.aload_n 0, 1) := by decide +kernel
theorem dX6_isDown_1 : decode cX6_isDown 1 = .ok (.getfield 22, 3) := by decide +kernel
theorem dX6_isDown_4 : decode cX6_isDown 4 = .ok (.iload_n 2, 1) := by decide +kernel
theorem dX6_isDown_5 : decode cX6_isDown 5 = .ok (.iaload, 1) := by decide +kernel
theorem dX6_isDown_6 : decode cX6_isDown 6 = .ok (.iload_n 1, 1) := by decide +kernel
theorem dX6_isDown_7 : decode cX6_isDown 7 = .ok (.ishr, 1) := by decide +kernel
theorem dX6_isDown_8 : decode cX6_isDown 8 = .ok (.iconst 1, 1) := by decide +kernel
theorem dX6_isDown_9 : decode cX6_isDown 9 = .ok (.iand, 1) := by decide +kernel
theorem dX6_isDown_10 : decode cX6_isDown 10 = .ok (.iconst 1, 1) := by decide +kernel
theorem dX6_isDown_11 : decode cX6_isDown 11 = .ok (.if_icmp .ne 7, 3) := by decide +kernel
theorem dX6_isDown_14 : decode cX6_isDown 14 = .ok (.iconst 1, 1) := by decide +kernel
theorem dX6_isDown_15 : decode cX6_isDown 15 = .ok (.goto 4, 3) := by decide +kernel
theorem dX6_isDown_18 : decode cX6_isDown 18 = .ok (.iconst 0, 1) := by decide +kernel
theorem dX6_isDown_19 : decode cX6_isDown 19 = .ok (.ireturn, 1) := by decide +kernel
theorem dX6_cycle_0 : decode cX6_cycle 0 = .ok (.aload_n 0, 1) := by decide +kernel
theorem dX6_cycle_1 : decode cX6_cycle 1 = .ok (.getfield 7, 3) := by decide +kernel
theorem dX6_cycle_4 : decode cX6_cycle 4 = .ok (.iload_n 1, 1) := by decide +kernel
theorem dX6_cycle_5 : decode cX6_cycle 5 = .ok (.aload_n 0, 1) := by decide +kernel
theorem dX6_cycle_6 : decode cX6_cycle 6 = .ok (.getfield 7, 3) := by decide +kernel
theorem dX6_cycle_9 : decode cX6_cycle 9 = .ok (.iload_n 1, 1) := by decide +kernel
theorem dX6_cycle_10 : decode cX6_cycle 10 = .ok (.bipush 7, 2) := by decide +kernel
theorem dX6_cycle_12 : decode cX6_cycle 12 = .ok (.iadd, 1) := by decide +kernel
theorem dX6_cycle_13 : decode cX6_cycle 13 = .ok (.iaload, 1) := by decide +kernel
theorem dX6_cycle_14 : decode cX6_cycle 14 = .ok (.iconst 1, 1) := by decide +kernel
theorem dX6_cycle_15 : decode cX6_cycle 15 = .ok (.if_icmp .ne 7, 3) := by decide +kernel
theorem dX6_cycle_18 : decode cX6_cycle 18 = .ok (.iconst 1, 1) := by decide +kernel
theorem dX6_cycle_19 : decode cX6_cycle 19 = .ok (.goto 4, 3) := by decide +kernel
theorem dX6_cycle_22 : decode cX6_cycle 22 = .ok (.iconst 0, 1) := by decide +kernel
theorem dX6_cycle_23 : decode cX6_cycle 23 = .ok (.iadd, 1) := by decide +kernel
theorem dX6_cycle_24 : decode cX6_cycle 24 = .ok (.iaload, 1) := by decide +kernel
theorem dX6_cycle_25 : decode cX6_cycle 25 = .ok (.ireturn, 1) := by decide +kernel
set_option maxRecDepth 20000 in
theorem ggX6_speeds_X6_of : GoodIn wsX6_speeds wsX6_of := goodIn_r _ [5] (by decide +kernel) (by decide +kernel)
set_option maxRecDepth 20000 in
theorem gX6_speeds_X6_of : GoodIn wsX6_speeds (va_wsS RX6 40 yX6_of wsX6_of) := goodIn_app (goodIn_of _ (by decide +kernel)) ggX6_speeds_X6_of
theorem dX6_speeds_0 : decode cX6_speeds 0 = .ok (.iload_n 1, 1) := by decide +kernel
theorem dX6_speeds_1 : decode cX6_speeds 1 = .ok (.invokestatic 40, 3) := by decide +kernel
theorem dX6_speeds_4 : decode cX6_speeds 4 = .ok (.istore_n 2, 1) := by decide +kernel
theorem dX6_speeds_5 : decode cX6_speeds 5 = .ok (.aload_n 0, 1) := by decide +kernel
theorem dX6_speeds_6 : decode cX6_speeds 6 = .ok (.getfield 7, 3) := by decide +kernel
theorem dX6_speeds_9 : decode cX6_speeds 9 = .ok (.iload_n 2, 1) := by decide +kernel
theorem dX6_speeds_10 : decode cX6_speeds 10 = .ok (.iconst 5, 1) := by decide +kernel
theorem dX6_speeds_11 : decode cX6_speeds 11 = .ok (.iadd, 1) := by decide +kernel
theorem dX6_speeds_12 : decode cX6_speeds 12 = .ok (.iaload, 1) := by decide +kernel
theorem dX6_speeds_13 : decode cX6_speeds 13 = .ok (.istore_n 3, 1) := by decide +kernel
theorem dX6_speeds_14 : decode cX6_speeds 14 = .ok (.iload_n 1, 1) := by decide +kernel
theorem dX6_speeds_15 : decode cX6_speeds 15 = .ok (.aload_n 0, 1) := by decide +kernel
theorem dX6_speeds_16 : decode cX6_speeds 16 = .ok (.getfield 7, 3) := by decide +kernel
theorem dX6_speeds_19 : decode cX6_speeds 19 = .ok (.iconst 0, 1) := by decide +kernel
theorem dX6_speeds_20 : decode cX6_speeds 20 = .ok (.iaload, 1) := by decide +kernel
theorem dX6_speeds_21 : decode cX6_speeds 21 = .ok (.iconst 1, 1) := by decide +kernel
theorem dX6_speeds_22 : decode cX6_speeds 22 = .ok (.isub, 1) := by decide +kernel
theorem dX6_speeds_23 : decode cX6_speeds 23 = .ok (.if_icmp .eq 15, 3) := by decide +kernel
theorem dX6_speeds_26 : decode cX6_speeds 26 = .ok (.iload_n 3, 1) := by decide +kernel
theorem dX6_speeds_27 : decode cX6_speeds 27 = .ok (.aload_n 0, 1) := by decide +kernel
theorem dX6_speeds_28 : decode cX6_speeds 28 = .ok (.getfield 7, 3) := by decide +kernel
theorem dX6_speeds_31 : decode cX6_speeds 31 = .ok (.iload_n 2, 1) := by decide +kernel
theorem dX6_speeds_32 : decode cX6_speeds 32 = .ok (.iconst 2, 1) := by decide +kernel
theorem dX6_speeds_33 : decode cX6_speeds 33 = .ok (.iadd, 1) := by decide +kernel
theorem dX6_speeds_34 : decode cX6_speeds 34 = .ok (.iaload, 1) := by decide +kernel
theorem dX6_speeds_35 : decode cX6_speeds 35 = .ok (.if_icmp .gt 7, 3) := by decide +kernel
theorem dX6_speeds_38 : decode cX6_speeds 38 = .ok (.iconst 1, 1) := by decide +kernel
theorem dX6_speeds_39 : decode cX6_speeds 39 = .ok (.goto 4, 3) := by decide +kernel
theorem dX6_speeds_42 : decode cX6_speeds 42 = .ok (.iconst 0, 1) := by decide +kernel
theorem dX6_speeds_43 : decode cX6_speeds 43 = .ok (.istore 4, 2) := by decide +kernel
theorem dX6_speeds_45 : decode cX6_speeds 45 = .ok (.aload_n 0, 1) := by decide +kernel
theorem dX6_speeds_46 : decode cX6_speeds 46 = .ok (.getfield 7, 3) := by decide +kernel
theorem dX6_speeds_49 : decode cX6_speeds 49 = .ok (.iload_n 2, 1) := by decide +kernel
theorem dX6_speeds_50 : decode cX6_speeds 50 = .ok (.bipush 7, 2) := by decide +kernel
theorem dX6_speeds_52 : decode cX6_speeds 52 = .ok (.iadd, 1) := by decide +kernel
theorem dX6_speeds_53 : decode cX6_speeds 53 = .ok (.iload 4, 2) := by decide +kernel
theorem dX6_speeds_55 : decode cX6_speeds 55 = .ok (.ifCond .eq 7, 3) := by decide +kernel
theorem dX6_speeds_58 : decode cX6_speeds 58 = .ok (.iconst 1, 1) := by decide +kernel
theorem dX6_speeds_59 : decode cX6_speeds 59 = .ok (.goto 28, 3) := by decide +kernel
theorem dX6_speeds_62 : decode cX6_speeds 62 = .ok (.iload_n 3, 1) := by decide +kernel
theorem dX6_speeds_63 : decode cX6_speeds 63 = .ok (.aload_n 0, 1) := by decide +kernel
theorem dX6_speeds_64 : decode cX6_speeds 64 = .ok (.getfield 7, 3) := by decide +kernel
theorem dX6_speeds_67 : decode cX6_speeds 67 = .ok (.iload_n 2, 1) := by decide +kernel
theorem dX6_speeds_68 : decode cX6_speeds 68 = .ok (.iconst 3, 1) := by decide +kernel
theorem dX6_speeds_69 : decode cX6_speeds 69 = .ok (.iadd, 1) := by decide +kernel
theorem dX6_speeds_70 : decode cX6_speeds 70 = .ok (.iaload, 1) := by decide +kernel
theorem dX6_speeds_71 : decode cX6_speeds 71 = .ok (.if_icmp .lt 7, 3) := by decide +kernel
theorem dX6_speeds_74 : decode cX6_speeds 74 = .ok (.iconst 0, 1) := by decide +kernel
theorem dX6_speeds_75 : decode cX6_speeds 75 = .ok (.goto 12, 3) := by decide +kernel
theorem dX6_speeds_78 : decode cX6_speeds 78 = .ok (.aload_n 0, 1) := by decide +kernel
theorem dX6_speeds_79 : decode cX6_speeds 79 = .ok (.getfield 7, 3) := by decide +kernel
theorem dX6_speeds_82 : decode cX6_speeds 82 = .ok (.iload_n 2, 1) := by decide +kernel
theorem dX6_speeds_83 : decode cX6_speeds 83 = .ok (.bipush 7, 2) := by decide +kernel
theorem dX6_speeds_85 : decode cX6_speeds 85 = .ok (.iadd, 1) := by decide +kernel
theorem dX6_speeds_86 : decode cX6_speeds 86 = .ok (.iaload, 1) := by decide +kernel
theorem dX6_speeds_87 : decode cX6_speeds 87 = .ok (.iastore, 1) := by decide +kernel
theorem dX6_speeds_88 : decode cX6_speeds 88 = .ok (.return_, 1) := by decide +kernel
set_option maxRecDepth 20000 in
theorem ggX6_leaves_X6_of : GoodIn wsX6_leaves wsX6_of := goodIn_r _ [5] (by decide +kernel) (by decide +kernel)
set_option maxRecDepth 20000 in
theorem gX6_leaves_X6_of : GoodIn wsX6_leaves (va_wsS RX6 40 yX6_of wsX6_of) := goodIn_app (goodIn_of _ (by decide +kernel)) ggX6_leaves_X6_of
set_option maxRecDepth 20000 in
theorem ggX6_leaves_X6_isDown : GoodIn wsX6_leaves wsX6_isDown := goodIn_r _ [9, 10, 15, 16, 17, 18, 19, 20, 21, 22, 23, 24, 25, 26] (by decide +kernel) (by decide +kernel)
set_option maxRecDepth 20000 in
theorem gX6_leaves_X6_isDown : GoodIn wsX6_leaves (wsV RX6 84 RX6 yX6_isDown wsX6_isDown) := goodIn_app (goodIn_of _ (by decide +kernel)) ggX6_leaves_X6_isDown
set_option maxRecDepth 20000 in
theorem ggX6_leaves_X6_cycle : GoodIn wsX6_leaves wsX6_cycle := goodIn_r _ [14, 1, 15, 16, 17, 18, 19, 20, 21, 22, 23, 24, 25, 26] (by decide +kernel) (by decide +kernel)
set_option maxRecDepth 20000 in
theorem gX6_leaves_X6_cycle : GoodIn wsX6_leaves (wsV RX6 87 RX6 yX6_cycle wsX6_cycle) := goodIn_app (goodIn_of _ (by decide +kernel)) ggX6_leaves_X6_cycle
theorem dX6_leaves_0 : decode cX6_leaves 0 = .ok (.iload_n 1, 1) := by decide +kernel
theorem dX6_leaves_1 : decode cX6_leaves 1 = .ok (.invokestatic 40, 3) := by decide +kernel
theorem dX6_leaves_4 : decode cX6_leaves 4 = .ok (.istore_n 3, 1) := by decide +kernel
theorem dX6_leaves_5 : decode cX6_leaves 5 = .ok (.iload_n 3, 1) := by decide +kernel
theorem dX6_leaves_6 : decode cX6_leaves 6 = .ok (.bipush 16, 2) := by decide +kernel
theorem dX6_leaves_8 : decode cX6_leaves 8 = .ok (.iadd, 1) := by decide +kernel
theorem dX6_leaves_9 : decode cX6_leaves 9 = .ok (.istore 4, 2) := by decide +kernel
theorem dX6_leaves_11 : decode cX6_leaves 11 = .ok (.iconst 1, 1) := by decide +kernel
theorem dX6_leaves_12 : decode cX6_leaves 12 = .ok (.istore 5, 2) := by decide +kernel
theorem dX6_leaves_14 : decode cX6_leaves 14 = .ok (.iload_n 1, 1) := by decide +kernel
theorem dX6_leaves_15 : decode cX6_leaves 15 = .ok (.aload_n 0, 1) := by decide +kernel
theorem dX6_leaves_16 : decode cX6_leaves 16 = .ok (.getfield 7, 3) := by decide +kernel
theorem dX6_leaves_19 : decode cX6_leaves 19 = .ok (.iconst 0, 1) := by decide +kernel
theorem dX6_leaves_20 : decode cX6_leaves 20 = .ok (.iaload, 1) := by decide +kernel
theorem dX6_leaves_21 : decode cX6_leaves 21 = .ok (.iconst 1, 1) := by decide +kernel
theorem dX6_leaves_22 : decode cX6_leaves 22 = .ok (.isub, 1) := by decide +kernel
theorem dX6_leaves_23 : decode cX6_leaves 23 = .ok (.if_icmp .ge 95, 3) := by decide +kernel
theorem dX6_leaves_26 : decode cX6_leaves 26 = .ok (.aload_n 0, 1) := by decide +kernel
theorem dX6_leaves_27 : decode cX6_leaves 27 = .ok (.getfield 7, 3) := by decide +kernel
theorem dX6_leaves_30 : decode cX6_leaves 30 = .ok (.iload_n 3, 1) := by decide +kernel
theorem dX6_leaves_31 : decode cX6_leaves 31 = .ok (.iconst 5, 1) := by decide +kernel
theorem dX6_leaves_32 : decode cX6_leaves 32 = .ok (.iadd, 1) := by decide +kernel
theorem dX6_leaves_33 : decode cX6_leaves 33 = .ok (.iaload, 1) := by decide +kernel
theorem dX6_leaves_34 : decode cX6_leaves 34 = .ok (.ifCond .ne 47, 3) := by decide +kernel
theorem dX6_leaves_37 : decode cX6_leaves 37 = .ok (.aload_n 0, 1) := by decide +kernel
theorem dX6_leaves_38 : decode cX6_leaves 38 = .ok (.getfield 7, 3) := by decide +kernel
theorem dX6_leaves_41 : decode cX6_leaves 41 = .ok (.iload 4, 2) := by decide +kernel
theorem dX6_leaves_43 : decode cX6_leaves 43 = .ok (.bipush 6, 2) := by decide +kernel
theorem dX6_leaves_45 : decode cX6_leaves 45 = .ok (.iadd, 1) := by decide +kernel
theorem dX6_leaves_46 : decode cX6_leaves 46 = .ok (.iaload, 1) := by decide +kernel
theorem dX6_leaves_47 : decode cX6_leaves 47 = .ok (.iconst (-1), 1) := by decide +kernel
theorem dX6_leaves_48 : decode cX6_leaves 48 = .ok (.if_icmp .ne 33, 3) := by decide +kernel
theorem dX6_leaves_51 : decode cX6_leaves 51 = .ok (.aload_n 0, 1) := by decide +kernel
theorem dX6_leaves_52 : decode cX6_leaves 52 = .ok (.iload_n 1, 1) := by decide +kernel
theorem dX6_leaves_53 : decode cX6_leaves 53 = .ok (.iconst 1, 1) := by decide +kernel
theorem dX6_leaves_54 : decode cX6_leaves 54 = .ok (.iadd, 1) := by decide +kernel
theorem dX6_leaves_55 : decode cX6_leaves 55 = .ok (.iload_n 2, 1) := by decide +kernel
theorem dX6_leaves_56 : decode cX6_leaves 56 = .ok (.invokevirtual 84, 3) := by decide +kernel
theorem dX6_leaves_59 : decode cX6_leaves 59 = .ok (.ifCond .ne 22, 3) := by decide +kernel
theorem dX6_leaves_62 : decode cX6_leaves 62 = .ok (.aload_n 0, 1) := by decide +kernel
theorem dX6_leaves_63 : decode cX6_leaves 63 = .ok (.getfield 7, 3) := by decide +kernel
theorem dX6_leaves_66 : decode cX6_leaves 66 = .ok (.iload 4, 2) := by decide +kernel
theorem dX6_leaves_68 : decode cX6_leaves 68 = .ok (.bipush 6, 2) := by decide +kernel
theorem dX6_leaves_70 : decode cX6_leaves 70 = .ok (.iadd, 1) := by decide +kernel
theorem dX6_leaves_71 : decode cX6_leaves 71 = .ok (.aload_n 0, 1) := by decide +kernel
theorem dX6_leaves_72 : decode cX6_leaves 72 = .ok (.iload 4, 2) := by decide +kernel
theorem dX6_leaves_74 : decode cX6_leaves 74 = .ok (.invokevirtual 87, 3) := by decide +kernel
theorem dX6_leaves_77 : decode cX6_leaves 77 = .ok (.iastore, 1) := by decide +kernel
theorem dX6_leaves_78 : decode cX6_leaves 78 = .ok (.goto 40, 3) := by decide +kernel
theorem dX6_leaves_81 : decode cX6_leaves 81 = .ok (.aload_n 0, 1) := by decide +kernel
theorem dX6_leaves_82 : decode cX6_leaves 82 = .ok (.getfield 7, 3) := by decide +kernel
theorem dX6_leaves_85 : decode cX6_leaves 85 = .ok (.iload_n 3, 1) := by decide +kernel
theorem dX6_leaves_86 : decode cX6_leaves 86 = .ok (.iconst 5, 1) := by decide +kernel
theorem dX6_leaves_87 : decode cX6_leaves 87 = .ok (.iadd, 1) := by decide +kernel
theorem dX6_leaves_88 : decode cX6_leaves 88 = .ok (.iaload, 1) := by decide +kernel
theorem dX6_leaves_89 : decode cX6_leaves 89 = .ok (.aload_n 0, 1) := by decide +kernel
theorem dX6_leaves_90 : decode cX6_leaves 90 = .ok (.getfield 7, 3) := by decide +kernel
theorem dX6_leaves_93 : decode cX6_leaves 93 = .ok (.iload_n 3, 1) := by decide +kernel
theorem dX6_leaves_94 : decode cX6_leaves 94 = .ok (.iconst 4, 1) := by decide +kernel
theorem dX6_leaves_95 : decode cX6_leaves 95 = .ok (.iadd, 1) := by decide +kernel
theorem dX6_leaves_96 : decode cX6_leaves 96 = .ok (.iaload, 1) := by decide +kernel
theorem dX6_leaves_97 : decode cX6_leaves 97 = .ok (.if_icmp .ge 18, 3) := by decide +kernel
theorem dX6_leaves_100 : decode cX6_leaves 100 = .ok (.aload_n 0, 1) := by decide +kernel
theorem dX6_leaves_101 : decode cX6_leaves 101 = .ok (.getfield 7, 3) := by decide +kernel
theorem dX6_leaves_104 : decode cX6_leaves 104 = .ok (.iload_n 3, 1) := by decide +kernel
theorem dX6_leaves_105 : decode cX6_leaves 105 = .ok (.iconst 5, 1) := by decide +kernel
theorem dX6_leaves_106 : decode cX6_leaves 106 = .ok (.iadd, 1) := by decide +kernel
theorem dX6_leaves_107 : decode cX6_leaves 107 = .ok (.dup2, 1) := by decide +kernel
theorem dX6_leaves_108 : decode cX6_leaves 108 = .ok (.iaload, 1) := by decide +kernel
theorem dX6_leaves_109 : decode cX6_leaves 109 = .ok (.iconst 1, 1) := by decide +kernel
theorem dX6_leaves_110 : decode cX6_leaves 110 = .ok (.iadd, 1) := by decide +kernel
theorem dX6_leaves_111 : decode cX6_leaves 111 = .ok (.iastore, 1) := by decide +kernel
theorem dX6_leaves_112 : decode cX6_leaves 112 = .ok (.goto 6, 3) := by decide +kernel
theorem dX6_leaves_115 : decode cX6_leaves 115 = .ok (.iconst 0, 1) := by decide +kernel
theorem dX6_leaves_116 : decode cX6_leaves 116 = .ok (.istore 5, 2) := by decide +kernel
theorem dX6_leaves_118 : decode cX6_leaves 118 = .ok (.iload 5, 2) := by decide +kernel
theorem dX6_leaves_120 : decode cX6_leaves 120 = .ok (.ifCond .eq 28, 3) := by decide +kernel
theorem dX6_leaves_123 : decode cX6_leaves 123 = .ok (.aload_n 0, 1) := by decide +kernel
theorem dX6_leaves_124 : decode cX6_leaves 124 = .ok (.getfield 7, 3) := by decide +kernel
theorem dX6_leaves_127 : decode cX6_leaves 127 = .ok (.iload_n 3, 1) := by decide +kernel
theorem dX6_leaves_128 : decode cX6_leaves 128 = .ok (.bipush 6, 2) := by decide +kernel
theorem dX6_leaves_130 : decode cX6_leaves 130 = .ok (.iadd, 1) := by decide +kernel
theorem dX6_leaves_131 : decode cX6_leaves 131 = .ok (.iconst (-1), 1) := by decide +kernel
theorem dX6_leaves_132 : decode cX6_leaves 132 = .ok (.iastore, 1) := by decide +kernel
theorem dX6_leaves_133 : decode cX6_leaves 133 = .ok (.aload_n 0, 1) := by decide +kernel
theorem dX6_leaves_134 : decode cX6_leaves 134 = .ok (.getfield 7, 3) := by decide +kernel
theorem dX6_leaves_137 : decode cX6_leaves 137 = .ok (.iload_n 3, 1) := by decide +kernel
theorem dX6_leaves_138 : decode cX6_leaves 138 = .ok (.bipush 9, 2) := by decide +kernel
theorem dX6_leaves_140 : decode cX6_leaves 140 = .ok (.iadd, 1) := by decide +kernel
theorem dX6_leaves_141 : decode cX6_leaves 141 = .ok (.iconst 4, 1) := by decide +kernel
theorem dX6_leaves_142 : decode cX6_leaves 142 = .ok (.iadd, 1) := by decide +kernel
theorem dX6_leaves_143 : decode cX6_leaves 143 = .ok (.dup2, 1) := by decide +kernel
theorem dX6_leaves_144 : decode cX6_leaves 144 = .ok (.iaload, 1) := by decide +kernel
theorem dX6_leaves_145 : decode cX6_leaves 145 = .ok (.iconst 1, 1) := by decide +kernel
theorem dX6_leaves_146 : decode cX6_leaves 146 = .ok (.iadd, 1) := by decide +kernel
theorem dX6_leaves_147 : decode cX6_leaves 147 = .ok (.iastore, 1) := by decide +kernel
theorem dX6_leaves_148 : decode cX6_leaves 148 = .ok (.return_, 1) := by decide +kernel
set_option maxRecDepth 20000 in
theorem ggX6_takes_X6_of : GoodIn wsX6_takes wsX6_of := goodIn_r _ [5] (by decide +kernel) (by decide +kernel)
set_option maxRecDepth 20000 in
theorem gX6_takes_X6_of : GoodIn wsX6_takes (va_wsS RX6 40 yX6_of wsX6_of) := goodIn_app (goodIn_of _ (by decide +kernel)) ggX6_takes_X6_of
set_option maxRecDepth 20000 in
theorem ggX6_takes_X6_cycle : GoodIn wsX6_takes wsX6_cycle := goodIn_r _ [9, 1, 10, 11, 12, 13, 14, 15, 16, 17, 18, 19, 20, 21] (by decide +kernel) (by decide +kernel)
set_option maxRecDepth 20000 in
theorem gX6_takes_X6_cycle : GoodIn wsX6_takes (wsV RX6 87 RX6 yX6_cycle wsX6_cycle) := goodIn_app (goodIn_of _ (by decide +kernel)) ggX6_takes_X6_cycle
theorem dX6_takes_0 : decode cX6_takes 0 = .ok (.iload_n 1, 1) := by decide +kernel
theorem dX6_takes_1 : decode cX6_takes 1 = .ok (.invokestatic 40, 3) := by decide +kernel
theorem dX6_takes_4 : decode cX6_takes 4 = .ok (.istore_n 2, 1) := by decide +kernel
theorem dX6_takes_5 : decode cX6_takes 5 = .ok (.iload_n 1, 1) := by decide +kernel
theorem dX6_takes_6 : decode cX6_takes 6 = .ok (.ifCond .eq 17, 3) := by decide +kernel
theorem dX6_takes_9 : decode cX6_takes 9 = .ok (.aload_n 0, 1) := by decide +kernel
theorem dX6_takes_10 : decode cX6_takes 10 = .ok (.getfield 7, 3) := by decide +kernel
theorem dX6_takes_13 : decode cX6_takes 13 = .ok (.iload_n 2, 1) := by decide +kernel
theorem dX6_takes_14 : decode cX6_takes 14 = .ok (.bipush 16, 2) := by decide +kernel
theorem dX6_takes_16 : decode cX6_takes 16 = .ok (.isub, 1) := by decide +kernel
theorem dX6_takes_17 : decode cX6_takes 17 = .ok (.iconst 5, 1) := by decide +kernel
theorem dX6_takes_18 : decode cX6_takes 18 = .ok (.iadd, 1) := by decide +kernel
theorem dX6_takes_19 : decode cX6_takes 19 = .ok (.iaload, 1) := by decide +kernel
theorem dX6_takes_20 : decode cX6_takes 20 = .ok (.ifCond .le 7, 3) := by decide +kernel
theorem dX6_takes_23 : decode cX6_takes 23 = .ok (.iconst 1, 1) := by decide +kernel
theorem dX6_takes_24 : decode cX6_takes 24 = .ok (.goto 4, 3) := by decide +kernel
theorem dX6_takes_27 : decode cX6_takes 27 = .ok (.iconst 0, 1) := by decide +kernel
theorem dX6_takes_28 : decode cX6_takes 28 = .ok (.istore_n 3, 1) := by decide +kernel
theorem dX6_takes_29 : decode cX6_takes 29 = .ok (.iload_n 3, 1) := by decide +kernel
theorem dX6_takes_30 : decode cX6_takes 30 = .ok (.ifCond .eq 36, 3) := by decide +kernel
theorem dX6_takes_33 : decode cX6_takes 33 = .ok (.aload_n 0, 1) := by decide +kernel
theorem dX6_takes_34 : decode cX6_takes 34 = .ok (.getfield 7, 3) := by decide +kernel
theorem dX6_takes_37 : decode cX6_takes 37 = .ok (.iload_n 2, 1) := by decide +kernel
theorem dX6_takes_38 : decode cX6_takes 38 = .ok (.bipush 6, 2) := by decide +kernel
theorem dX6_takes_40 : decode cX6_takes 40 = .ok (.iadd, 1) := by decide +kernel
theorem dX6_takes_41 : decode cX6_takes 41 = .ok (.aload_n 0, 1) := by decide +kernel
theorem dX6_takes_42 : decode cX6_takes 42 = .ok (.iload_n 2, 1) := by decide +kernel
theorem dX6_takes_43 : decode cX6_takes 43 = .ok (.invokevirtual 87, 3) := by decide +kernel
theorem dX6_takes_46 : decode cX6_takes 46 = .ok (.iastore, 1) := by decide +kernel
theorem dX6_takes_47 : decode cX6_takes 47 = .ok (.iload_n 1, 1) := by decide +kernel
theorem dX6_takes_48 : decode cX6_takes 48 = .ok (.ifCond .le 18, 3) := by decide +kernel
theorem dX6_takes_51 : decode cX6_takes 51 = .ok (.aload_n 0, 1) := by decide +kernel
theorem dX6_takes_52 : decode cX6_takes 52 = .ok (.getfield 7, 3) := by decide +kernel
theorem dX6_takes_55 : decode cX6_takes 55 = .ok (.iload_n 2, 1) := by decide +kernel
theorem dX6_takes_56 : decode cX6_takes 56 = .ok (.bipush 16, 2) := by decide +kernel
theorem dX6_takes_58 : decode cX6_takes 58 = .ok (.isub, 1) := by decide +kernel
theorem dX6_takes_59 : decode cX6_takes 59 = .ok (.iconst 5, 1) := by decide +kernel
theorem dX6_takes_60 : decode cX6_takes 60 = .ok (.iadd, 1) := by decide +kernel
theorem dX6_takes_61 : decode cX6_takes 61 = .ok (.dup2, 1) := by decide +kernel
theorem dX6_takes_62 : decode cX6_takes 62 = .ok (.iaload, 1) := by decide +kernel
theorem dX6_takes_63 : decode cX6_takes 63 = .ok (.iconst 1, 1) := by decide +kernel
theorem dX6_takes_64 : decode cX6_takes 64 = .ok (.isub, 1) := by decide +kernel
theorem dX6_takes_65 : decode cX6_takes 65 = .ok (.iastore, 1) := by decide +kernel
theorem dX6_takes_66 : decode cX6_takes 66 = .ok (.return_, 1) := by decide +kernel
set_option maxRecDepth 20000 in
theorem ggX6_turns_X6_of : GoodIn wsX6_turns wsX6_of := goodIn_r _ [5] (by decide +kernel) (by decide +kernel)
set_option maxRecDepth 20000 in
theorem gX6_turns_X6_of : GoodIn wsX6_turns (va_wsS RX6 40 yX6_of wsX6_of) := goodIn_app (goodIn_of _ (by decide +kernel)) ggX6_turns_X6_of
set_option maxRecDepth 20000 in
theorem ggX6_turns_X6_speeds : GoodIn wsX6_turns wsX6_speeds := goodIn_r _ [9, 1, 2, 3, 4, 5, 27, 28, 29, 30, 31, 32, 33, 34, 35, 36, 37, 38] (by decide +kernel) (by decide +kernel)
set_option maxRecDepth 20000 in
theorem gX6_turns_X6_speeds : GoodIn wsX6_turns (wsV RX6 90 RX6 yX6_speeds wsX6_speeds) := goodIn_app (goodIn_of _ (by decide +kernel)) ggX6_turns_X6_speeds
set_option maxRecDepth 20000 in
theorem ggX6_turns_X6_isDown : GoodIn wsX6_turns wsX6_isDown := goodIn_r _ [13, 14, 27, 28, 29, 30, 31, 32, 33, 34, 35, 36, 37, 38] (by decide +kernel) (by decide +kernel)
set_option maxRecDepth 20000 in
theorem gX6_turns_X6_isDown : GoodIn wsX6_turns (wsV RX6 84 RX6 yX6_isDown wsX6_isDown) := goodIn_app (goodIn_of _ (by decide +kernel)) ggX6_turns_X6_isDown
set_option maxRecDepth 20000 in
theorem ggX6_turns_X6_leaves : GoodIn wsX6_turns wsX6_leaves := goodIn_r _ [18, 1, 2, 3, 4, 5, 10, 11, 12, 13, 14, 19, 20, 21, 22, 27, 28, 29, 30, 31, 32, 33, 34, 35, 36, 37, 38] (by decide +kernel) (by decide +kernel)
set_option maxRecDepth 20000 in
theorem gX6_turns_X6_leaves : GoodIn wsX6_turns (wsV RX6 94 RX6 yX6_leaves wsX6_leaves) := goodIn_app (goodIn_of _ (by decide +kernel)) ggX6_turns_X6_leaves
set_option maxRecDepth 20000 in
theorem ggX6_turns_X6_takes : GoodIn wsX6_turns wsX6_takes := goodIn_r _ [26, 1, 2, 3, 4, 5, 19, 20, 21, 22, 27, 28, 29, 30, 31, 32, 33, 34, 35, 36, 37, 38] (by decide +kernel) (by decide +kernel)
set_option maxRecDepth 20000 in
theorem gX6_turns_X6_takes : GoodIn wsX6_turns (wsV RX6 98 RX6 yX6_takes wsX6_takes) := goodIn_app (goodIn_of _ (by decide +kernel)) ggX6_turns_X6_takes
theorem dX6_turns_0 : decode cX6_turns 0 = .ok (.iload_n 1, 1) := by decide +kernel
theorem dX6_turns_1 : decode cX6_turns 1 = .ok (.invokestatic 40, 3) := by decide +kernel
theorem dX6_turns_4 : decode cX6_turns 4 = .ok (.istore_n 3, 1) := by decide +kernel
theorem dX6_turns_5 : decode cX6_turns 5 = .ok (.aload_n 0, 1) := by decide +kernel
theorem dX6_turns_6 : decode cX6_turns 6 = .ok (.iload_n 1, 1) := by decide +kernel
theorem dX6_turns_7 : decode cX6_turns 7 = .ok (.invokevirtual 90, 3) := by decide +kernel
theorem dX6_turns_10 : decode cX6_turns 10 = .ok (.aload_n 0, 1) := by decide +kernel
theorem dX6_turns_11 : decode cX6_turns 11 = .ok (.iload_n 1, 1) := by decide +kernel
theorem dX6_turns_12 : decode cX6_turns 12 = .ok (.iload_n 2, 1) := by decide +kernel
theorem dX6_turns_13 : decode cX6_turns 13 = .ok (.invokevirtual 84, 3) := by decide +kernel
theorem dX6_turns_16 : decode cX6_turns 16 = .ok (.ifCond .eq 5, 3) := by decide +kernel
theorem dX6_turns_19 : decode cX6_turns 19 = .ok (.iconst 4, 1) := by decide +kernel
theorem dX6_turns_20 : decode cX6_turns 20 = .ok (.ireturn, 1) := by decide +kernel
theorem dX6_turns_21 : decode cX6_turns 21 = .ok (.aload_n 0, 1) := by decide +kernel
theorem dX6_turns_22 : decode cX6_turns 22 = .ok (.getfield 7, 3) := by decide +kernel
theorem dX6_turns_25 : decode cX6_turns 25 = .ok (.iload_n 3, 1) := by decide +kernel
theorem dX6_turns_26 : decode cX6_turns 26 = .ok (.bipush 6, 2) := by decide +kernel
theorem dX6_turns_28 : decode cX6_turns 28 = .ok (.iadd, 1) := by decide +kernel
theorem dX6_turns_29 : decode cX6_turns 29 = .ok (.iaload, 1) := by decide +kernel
theorem dX6_turns_30 : decode cX6_turns 30 = .ok (.ifCond .ne 9, 3) := by decide +kernel
theorem dX6_turns_33 : decode cX6_turns 33 = .ok (.aload_n 0, 1) := by decide +kernel
theorem dX6_turns_34 : decode cX6_turns 34 = .ok (.iload_n 1, 1) := by decide +kernel
theorem dX6_turns_35 : decode cX6_turns 35 = .ok (.iload_n 2, 1) := by decide +kernel
theorem dX6_turns_36 : decode cX6_turns 36 = .ok (.invokevirtual 94, 3) := by decide +kernel
theorem dX6_turns_39 : decode cX6_turns 39 = .ok (.aload_n 0, 1) := by decide +kernel
theorem dX6_turns_40 : decode cX6_turns 40 = .ok (.getfield 7, 3) := by decide +kernel
theorem dX6_turns_43 : decode cX6_turns 43 = .ok (.iload_n 3, 1) := by decide +kernel
theorem dX6_turns_44 : decode cX6_turns 44 = .ok (.bipush 6, 2) := by decide +kernel
theorem dX6_turns_46 : decode cX6_turns 46 = .ok (.iadd, 1) := by decide +kernel
theorem dX6_turns_47 : decode cX6_turns 47 = .ok (.iaload, 1) := by decide +kernel
theorem dX6_turns_48 : decode cX6_turns 48 = .ok (.iconst (-1), 1) := by decide +kernel
theorem dX6_turns_49 : decode cX6_turns 49 = .ok (.if_icmp .ne 8, 3) := by decide +kernel
theorem dX6_turns_52 : decode cX6_turns 52 = .ok (.aload_n 0, 1) := by decide +kernel
theorem dX6_turns_53 : decode cX6_turns 53 = .ok (.iload_n 1, 1) := by decide +kernel
theorem dX6_turns_54 : decode cX6_turns 54 = .ok (.invokevirtual 98, 3) := by decide +kernel
theorem dX6_turns_57 : decode cX6_turns 57 = .ok (.aload_n 0, 1) := by decide +kernel
theorem dX6_turns_58 : decode cX6_turns 58 = .ok (.getfield 7, 3) := by decide +kernel
theorem dX6_turns_61 : decode cX6_turns 61 = .ok (.iload_n 3, 1) := by decide +kernel
theorem dX6_turns_62 : decode cX6_turns 62 = .ok (.bipush 6, 2) := by decide +kernel
theorem dX6_turns_64 : decode cX6_turns 64 = .ok (.iadd, 1) := by decide +kernel
theorem dX6_turns_65 : decode cX6_turns 65 = .ok (.iaload, 1) := by decide +kernel
theorem dX6_turns_66 : decode cX6_turns 66 = .ok (.ifCond .le 36, 3) := by decide +kernel
theorem dX6_turns_69 : decode cX6_turns 69 = .ok (.aload_n 0, 1) := by decide +kernel
theorem dX6_turns_70 : decode cX6_turns 70 = .ok (.getfield 7, 3) := by decide +kernel
theorem dX6_turns_73 : decode cX6_turns 73 = .ok (.iload_n 3, 1) := by decide +kernel
theorem dX6_turns_74 : decode cX6_turns 74 = .ok (.bipush 6, 2) := by decide +kernel
theorem dX6_turns_76 : decode cX6_turns 76 = .ok (.iadd, 1) := by decide +kernel
theorem dX6_turns_77 : decode cX6_turns 77 = .ok (.dup2, 1) := by decide +kernel
theorem dX6_turns_78 : decode cX6_turns 78 = .ok (.iaload, 1) := by decide +kernel
theorem dX6_turns_79 : decode cX6_turns 79 = .ok (.iconst 1, 1) := by decide +kernel
theorem dX6_turns_80 : decode cX6_turns 80 = .ok (.isub, 1) := by decide +kernel
theorem dX6_turns_81 : decode cX6_turns 81 = .ok (.iastore, 1) := by decide +kernel
theorem dX6_turns_82 : decode cX6_turns 82 = .ok (.aload_n 0, 1) := by decide +kernel
theorem dX6_turns_83 : decode cX6_turns 83 = .ok (.getfield 7, 3) := by decide +kernel
theorem dX6_turns_86 : decode cX6_turns 86 = .ok (.iload_n 3, 1) := by decide +kernel
theorem dX6_turns_87 : decode cX6_turns 87 = .ok (.bipush 6, 2) := by decide +kernel
theorem dX6_turns_89 : decode cX6_turns 89 = .ok (.iadd, 1) := by decide +kernel
theorem dX6_turns_90 : decode cX6_turns 90 = .ok (.iaload, 1) := by decide +kernel
theorem dX6_turns_91 : decode cX6_turns 91 = .ok (.ifCond .ne 9, 3) := by decide +kernel
theorem dX6_turns_94 : decode cX6_turns 94 = .ok (.aload_n 0, 1) := by decide +kernel
theorem dX6_turns_95 : decode cX6_turns 95 = .ok (.iload_n 1, 1) := by decide +kernel
theorem dX6_turns_96 : decode cX6_turns 96 = .ok (.iload_n 2, 1) := by decide +kernel
theorem dX6_turns_97 : decode cX6_turns 97 = .ok (.invokevirtual 94, 3) := by decide +kernel
theorem dX6_turns_100 : decode cX6_turns 100 = .ok (.iconst 1, 1) := by decide +kernel
theorem dX6_turns_101 : decode cX6_turns 101 = .ok (.ireturn, 1) := by decide +kernel
theorem dX6_turns_102 : decode cX6_turns 102 = .ok (.aload_n 0, 1) := by decide +kernel
theorem dX6_turns_103 : decode cX6_turns 103 = .ok (.getfield 7, 3) := by decide +kernel
theorem dX6_turns_106 : decode cX6_turns 106 = .ok (.iload_n 3, 1) := by decide +kernel
theorem dX6_turns_107 : decode cX6_turns 107 = .ok (.bipush 6, 2) := by decide +kernel
theorem dX6_turns_109 : decode cX6_turns 109 = .ok (.iadd, 1) := by decide +kernel
theorem dX6_turns_110 : decode cX6_turns 110 = .ok (.iaload, 1) := by decide +kernel
theorem dX6_turns_111 : decode cX6_turns 111 = .ok (.ifCond .ne 7, 3) := by decide +kernel
theorem dX6_turns_114 : decode cX6_turns 114 = .ok (.iconst 3, 1) := by decide +kernel
theorem dX6_turns_115 : decode cX6_turns 115 = .ok (.goto 4, 3) := by decide +kernel
theorem dX6_turns_118 : decode cX6_turns 118 = .ok (.iconst 2, 1) := by decide +kernel
theorem dX6_turns_119 : decode cX6_turns 119 = .ok (.ireturn, 1) := by decide +kernel
set_option maxRecDepth 20000 in
theorem ggX6_passes_X6_turns : GoodIn wsX6_passes wsX6_turns := goodIn_r _ [6, 1, 7, 8, 5, 9, 10, 11, 12, 13, 14, 15, 16, 17, 18, 19, 20, 21, 22, 23, 24, 25, 26, 27, 28, 29, 30, 31, 32, 33, 34, 35, 36, 37, 38, 39, 40, 41, 42] (by decide +kernel) (by decide +kernel)
set_option maxRecDepth 20000 in
theorem gX6_passes_X6_turns : GoodIn wsX6_passes (wsV RX6 101 RX6 yX6_turns wsX6_turns) := goodIn_app (goodIn_of _ (by decide +kernel)) ggX6_passes_X6_turns
set_option maxRecDepth 20000 in
theorem ggX6_passes_X6_of : GoodIn wsX6_passes wsX6_of := goodIn_r _ [9] (by decide +kernel) (by decide +kernel)
set_option maxRecDepth 20000 in
theorem gX6_passes_X6_of : GoodIn wsX6_passes (va_wsS RX6 40 yX6_of wsX6_of) := goodIn_app (goodIn_of _ (by decide +kernel)) ggX6_passes_X6_of
theorem dX6_passes_0 : decode cX6_passes 0 = .ok (.aload_n 0, 1) := by decide +kernel
theorem dX6_passes_1 : decode cX6_passes 1 = .ok (.getfield 7, 3) := by decide +kernel
theorem dX6_passes_4 : decode cX6_passes 4 = .ok (.iconst 1, 1) := by decide +kernel
theorem dX6_passes_5 : decode cX6_passes 5 = .ok (.dup2, 1) := by decide +kernel
theorem dX6_passes_6 : decode cX6_passes 6 = .ok (.iaload, 1) := by decide +kernel
theorem dX6_passes_7 : decode cX6_passes 7 = .ok (.iconst 1, 1) := by decide +kernel
theorem dX6_passes_8 : decode cX6_passes 8 = .ok (.iadd, 1) := by decide +kernel
theorem dX6_passes_9 : decode cX6_passes 9 = .ok (.iastore, 1) := by decide +kernel
theorem dX6_passes_10 : decode cX6_passes 10 = .ok (.aload_n 0, 1) := by decide +kernel
theorem dX6_passes_11 : decode cX6_passes 11 = .ok (.getfield 7, 3) := by decide +kernel
theorem dX6_passes_14 : decode cX6_passes 14 = .ok (.iconst 0, 1) := by decide +kernel
theorem dX6_passes_15 : decode cX6_passes 15 = .ok (.iaload, 1) := by decide +kernel
theorem dX6_passes_16 : decode cX6_passes 16 = .ok (.iconst 1, 1) := by decide +kernel
theorem dX6_passes_17 : decode cX6_passes 17 = .ok (.isub, 1) := by decide +kernel
theorem dX6_passes_18 : decode cX6_passes 18 = .ok (.istore_n 1, 1) := by decide +kernel
theorem dX6_passes_19 : decode cX6_passes 19 = .ok (.iload_n 1, 1) := by decide +kernel
theorem dX6_passes_20 : decode cX6_passes 20 = .ok (.ifCond .lt 54, 3) := by decide +kernel
theorem dX6_passes_23 : decode cX6_passes 23 = .ok (.aload_n 0, 1) := by decide +kernel
theorem dX6_passes_24 : decode cX6_passes 24 = .ok (.iload_n 1, 1) := by decide +kernel
theorem dX6_passes_25 : decode cX6_passes 25 = .ok (.aload_n 0, 1) := by decide +kernel
theorem dX6_passes_26 : decode cX6_passes 26 = .ok (.getfield 7, 3) := by decide +kernel
theorem dX6_passes_29 : decode cX6_passes 29 = .ok (.iconst 1, 1) := by decide +kernel
theorem dX6_passes_30 : decode cX6_passes 30 = .ok (.iaload, 1) := by decide +kernel
theorem dX6_passes_31 : decode cX6_passes 31 = .ok (.invokevirtual 101, 3) := by decide +kernel
theorem dX6_passes_34 : decode cX6_passes 34 = .ok (.istore_n 2, 1) := by decide +kernel
theorem dX6_passes_35 : decode cX6_passes 35 = .ok (.aload_n 0, 1) := by decide +kernel
theorem dX6_passes_36 : decode cX6_passes 36 = .ok (.getfield 7, 3) := by decide +kernel
theorem dX6_passes_39 : decode cX6_passes 39 = .ok (.iload_n 1, 1) := by decide +kernel
theorem dX6_passes_40 : decode cX6_passes 40 = .ok (.invokestatic 40, 3) := by decide +kernel
theorem dX6_passes_43 : decode cX6_passes 43 = .ok (.bipush 8, 2) := by decide +kernel
theorem dX6_passes_45 : decode cX6_passes 45 = .ok (.iadd, 1) := by decide +kernel
theorem dX6_passes_46 : decode cX6_passes 46 = .ok (.iload_n 2, 1) := by decide +kernel
theorem dX6_passes_47 : decode cX6_passes 47 = .ok (.iastore, 1) := by decide +kernel
theorem dX6_passes_48 : decode cX6_passes 48 = .ok (.aload_n 0, 1) := by decide +kernel
theorem dX6_passes_49 : decode cX6_passes 49 = .ok (.getfield 7, 3) := by decide +kernel
theorem dX6_passes_52 : decode cX6_passes 52 = .ok (.iload_n 1, 1) := by decide +kernel
theorem dX6_passes_53 : decode cX6_passes 53 = .ok (.invokestatic 40, 3) := by decide +kernel
theorem dX6_passes_56 : decode cX6_passes 56 = .ok (.bipush 9, 2) := by decide +kernel
theorem dX6_passes_58 : decode cX6_passes 58 = .ok (.iadd, 1) := by decide +kernel
theorem dX6_passes_59 : decode cX6_passes 59 = .ok (.iload_n 2, 1) := by decide +kernel
theorem dX6_passes_60 : decode cX6_passes 60 = .ok (.iadd, 1) := by decide +kernel
theorem dX6_passes_61 : decode cX6_passes 61 = .ok (.iconst 1, 1) := by decide +kernel
theorem dX6_passes_62 : decode cX6_passes 62 = .ok (.isub, 1) := by decide +kernel
theorem dX6_passes_63 : decode cX6_passes 63 = .ok (.dup2, 1) := by decide +kernel
theorem dX6_passes_64 : decode cX6_passes 64 = .ok (.iaload, 1) := by decide +kernel
theorem dX6_passes_65 : decode cX6_passes 65 = .ok (.iconst 1, 1) := by decide +kernel
theorem dX6_passes_66 : decode cX6_passes 66 = .ok (.iadd, 1) := by decide +kernel
theorem dX6_passes_67 : decode cX6_passes 67 = .ok (.iastore, 1) := by decide +kernel
theorem dX6_passes_68 : decode cX6_passes 68 = .ok (.iinc 1 (-1), 3) := by decide +kernel
theorem dX6_passes_71 : decode cX6_passes 71 = .ok (.goto (-52), 3) := by decide +kernel
theorem dX6_passes_74 : decode cX6_passes 74 = .ok (.iconst 0, 1) := by decide +kernel
theorem dX6_passes_75 : decode cX6_passes 75 = .ok (.istore_n 1, 1) := by decide +kernel
theorem dX6_passes_76 : decode cX6_passes 76 = .ok (.iload_n 1, 1) := by decide +kernel
theorem dX6_passes_77 : decode cX6_passes 77 = .ok (.aload_n 0, 1) := by decide +kernel
theorem dX6_passes_78 : decode cX6_passes 78 = .ok (.getfield 7, 3) := by decide +kernel
theorem dX6_passes_81 : decode cX6_passes 81 = .ok (.iconst 0, 1) := by decide +kernel
theorem dX6_passes_82 : decode cX6_passes 82 = .ok (.iaload, 1) := by decide +kernel
theorem dX6_passes_83 : decode cX6_passes 83 = .ok (.iconst 1, 1) := by decide +kernel
theorem dX6_passes_84 : decode cX6_passes 84 = .ok (.isub, 1) := by decide +kernel
theorem dX6_passes_85 : decode cX6_passes 85 = .ok (.if_icmp .ge 72, 3) := by decide +kernel
theorem dX6_passes_88 : decode cX6_passes 88 = .ok (.iload_n 1, 1) := by decide +kernel
theorem dX6_passes_89 : decode cX6_passes 89 = .ok (.invokestatic 40, 3) := by decide +kernel
theorem dX6_passes_92 : decode cX6_passes 92 = .ok (.istore_n 2, 1) := by decide +kernel
theorem dX6_passes_93 : decode cX6_passes 93 = .ok (.aload_n 0, 1) := by decide +kernel
theorem dX6_passes_94 : decode cX6_passes 94 = .ok (.getfield 7, 3) := by decide +kernel
theorem dX6_passes_97 : decode cX6_passes 97 = .ok (.iload_n 2, 1) := by decide +kernel
theorem dX6_passes_98 : decode cX6_passes 98 = .ok (.bipush 15, 2) := by decide +kernel
theorem dX6_passes_100 : decode cX6_passes 100 = .ok (.iadd, 1) := by decide +kernel
theorem dX6_passes_101 : decode cX6_passes 101 = .ok (.dup2, 1) := by decide +kernel
theorem dX6_passes_102 : decode cX6_passes 102 = .ok (.iaload, 1) := by decide +kernel
theorem dX6_passes_103 : decode cX6_passes 103 = .ok (.aload_n 0, 1) := by decide +kernel
theorem dX6_passes_104 : decode cX6_passes 104 = .ok (.getfield 7, 3) := by decide +kernel
theorem dX6_passes_107 : decode cX6_passes 107 = .ok (.iload_n 2, 1) := by decide +kernel
theorem dX6_passes_108 : decode cX6_passes 108 = .ok (.iconst 5, 1) := by decide +kernel
theorem dX6_passes_109 : decode cX6_passes 109 = .ok (.iadd, 1) := by decide +kernel
theorem dX6_passes_110 : decode cX6_passes 110 = .ok (.iaload, 1) := by decide +kernel
theorem dX6_passes_111 : decode cX6_passes 111 = .ok (.iadd, 1) := by decide +kernel
theorem dX6_passes_112 : decode cX6_passes 112 = .ok (.iastore, 1) := by decide +kernel
theorem dX6_passes_113 : decode cX6_passes 113 = .ok (.aload_n 0, 1) := by decide +kernel
theorem dX6_passes_114 : decode cX6_passes 114 = .ok (.getfield 7, 3) := by decide +kernel
theorem dX6_passes_117 : decode cX6_passes 117 = .ok (.iload_n 2, 1) := by decide +kernel
theorem dX6_passes_118 : decode cX6_passes 118 = .ok (.bipush 9, 2) := by decide +kernel
theorem dX6_passes_120 : decode cX6_passes 120 = .ok (.iadd, 1) := by decide +kernel
theorem dX6_passes_121 : decode cX6_passes 121 = .ok (.iconst 5, 1) := by decide +kernel
theorem dX6_passes_122 : decode cX6_passes 122 = .ok (.iadd, 1) := by decide +kernel
theorem dX6_passes_123 : decode cX6_passes 123 = .ok (.dup2, 1) := by decide +kernel
theorem dX6_passes_124 : decode cX6_passes 124 = .ok (.iaload, 1) := by decide +kernel
theorem dX6_passes_125 : decode cX6_passes 125 = .ok (.aload_n 0, 1) := by decide +kernel
theorem dX6_passes_126 : decode cX6_passes 126 = .ok (.getfield 7, 3) := by decide +kernel
theorem dX6_passes_129 : decode cX6_passes 129 = .ok (.iload_n 2, 1) := by decide +kernel
theorem dX6_passes_130 : decode cX6_passes 130 = .ok (.iconst 5, 1) := by decide +kernel
theorem dX6_passes_131 : decode cX6_passes 131 = .ok (.iadd, 1) := by decide +kernel
theorem dX6_passes_132 : decode cX6_passes 132 = .ok (.iaload, 1) := by decide +kernel
theorem dX6_passes_133 : decode cX6_passes 133 = .ok (.aload_n 0, 1) := by decide +kernel
theorem dX6_passes_134 : decode cX6_passes 134 = .ok (.getfield 7, 3) := by decide +kernel
theorem dX6_passes_137 : decode cX6_passes 137 = .ok (.iload_n 2, 1) := by decide +kernel
theorem dX6_passes_138 : decode cX6_passes 138 = .ok (.iconst 4, 1) := by decide +kernel
theorem dX6_passes_139 : decode cX6_passes 139 = .ok (.iadd, 1) := by decide +kernel
theorem dX6_passes_140 : decode cX6_passes 140 = .ok (.iaload, 1) := by decide +kernel
theorem dX6_passes_141 : decode cX6_passes 141 = .ok (.if_icmp .lt 7, 3) := by decide +kernel
theorem dX6_passes_144 : decode cX6_passes 144 = .ok (.iconst 1, 1) := by decide +kernel
theorem dX6_passes_145 : decode cX6_passes 145 = .ok (.goto 4, 3) := by decide +kernel
theorem dX6_passes_148 : decode cX6_passes 148 = .ok (.iconst 0, 1) := by decide +kernel
theorem dX6_passes_149 : decode cX6_passes 149 = .ok (.iadd, 1) := by decide +kernel
theorem dX6_passes_150 : decode cX6_passes 150 = .ok (.iastore, 1) := by decide +kernel
theorem dX6_passes_151 : decode cX6_passes 151 = .ok (.iinc 1 1, 3) := by decide +kernel
theorem dX6_passes_154 : decode cX6_passes 154 = .ok (.goto (-78), 3) := by decide +kernel
theorem dX6_passes_157 : decode cX6_passes 157 = .ok (.return_, 1) := by decide +kernel
set_option maxRecDepth 20000 in
theorem ggX6_made_X6_of : GoodIn wsX6_made wsX6_of := goodIn_r _ [5] (by decide +kernel) (by decide +kernel)
set_option maxRecDepth 20000 in
theorem gX6_made_X6_of : GoodIn wsX6_made (va_wsS RX6 40 yX6_of wsX6_of) := goodIn_app (goodIn_of _ (by decide +kernel)) ggX6_made_X6_of
theorem dX6_made_0 : decode cX6_made 0 = .ok (.aload_n 0, 1) := by decide +kernel
theorem dX6_made_1 : decode cX6_made 1 = .ok (.getfield 7, 3) := by decide +kernel
theorem dX6_made_4 : decode cX6_made 4 = .ok (.iconst 0, 1) := by decide +kernel
theorem dX6_made_5 : decode cX6_made 5 = .ok (.iaload, 1) := by decide +kernel
theorem dX6_made_6 : decode cX6_made 6 = .ok (.ifCond .ne 7, 3) := by decide +kernel
theorem dX6_made_9 : decode cX6_made 9 = .ok (.iconst 0, 1) := by decide +kernel
theorem dX6_made_10 : decode cX6_made 10 = .ok (.goto 24, 3) := by decide +kernel
theorem dX6_made_13 : decode cX6_made 13 = .ok (.aload_n 0, 1) := by decide +kernel
theorem dX6_made_14 : decode cX6_made 14 = .ok (.getfield 7, 3) := by decide +kernel
theorem dX6_made_17 : decode cX6_made 17 = .ok (.aload_n 0, 1) := by decide +kernel
theorem dX6_made_18 : decode cX6_made 18 = .ok (.getfield 7, 3) := by decide +kernel
theorem dX6_made_21 : decode cX6_made 21 = .ok (.iconst 0, 1) := by decide +kernel
theorem dX6_made_22 : decode cX6_made 22 = .ok (.iaload, 1) := by decide +kernel
theorem dX6_made_23 : decode cX6_made 23 = .ok (.iconst 1, 1) := by decide +kernel
theorem dX6_made_24 : decode cX6_made 24 = .ok (.isub, 1) := by decide +kernel
theorem dX6_made_25 : decode cX6_made 25 = .ok (.invokestatic 40, 3) := by decide +kernel
theorem dX6_made_28 : decode cX6_made 28 = .ok (.bipush 9, 2) := by decide +kernel
theorem dX6_made_30 : decode cX6_made 30 = .ok (.iadd, 1) := by decide +kernel
theorem dX6_made_31 : decode cX6_made 31 = .ok (.iconst 4, 1) := by decide +kernel
theorem dX6_made_32 : decode cX6_made 32 = .ok (.iadd, 1) := by decide +kernel
theorem dX6_made_33 : decode cX6_made 33 = .ok (.iaload, 1) := by decide +kernel
theorem dX6_made_34 : decode cX6_made 34 = .ok (.ireturn, 1) := by decide +kernel
set_option maxRecDepth 20000 in
theorem ggX6_goes_X6_made : GoodIn wsX6_goes wsX6_made := goodIn_r _ [6, 1, 7, 8, 5, 9, 43, 44, 45, 46, 47, 48, 49, 50, 51, 52, 53, 54] (by decide +kernel) (by decide +kernel)
set_option maxRecDepth 20000 in
theorem gX6_goes_X6_made : GoodIn wsX6_goes (wsV RX6 105 RX6 yX6_made wsX6_made) := goodIn_app (goodIn_of _ (by decide +kernel)) ggX6_goes_X6_made
set_option maxRecDepth 20000 in
theorem ggX6_goes_X6_laysDown : GoodIn wsX6_goes wsX6_laysDown := goodIn_r _ [13, 14, 1, 43, 44, 45, 46, 47, 48, 49, 50, 51, 52, 53, 54] (by decide +kernel) (by decide +kernel)
set_option maxRecDepth 20000 in
theorem gX6_goes_X6_laysDown : GoodIn wsX6_goes (wsV RX6 108 RX6 yX6_laysDown wsX6_laysDown) := goodIn_app (goodIn_of _ (by decide +kernel)) ggX6_goes_X6_laysDown
set_option maxRecDepth 20000 in
theorem ggX6_goes_X6_passes : GoodIn wsX6_goes wsX6_passes := goodIn_r _ [18, 1, 19, 20, 21, 5, 22, 7, 8, 9, 23, 24, 25, 26, 27, 28, 29, 30, 14, 31, 32, 33, 34, 35, 36, 37, 38, 39, 40, 41, 42, 43, 44, 45, 46, 47, 48, 49, 50, 51, 52, 53, 54] (by decide +kernel) (by decide +kernel)
set_option maxRecDepth 20000 in
theorem gX6_goes_X6_passes : GoodIn wsX6_goes (wsV RX6 111 RX6 yX6_passes wsX6_passes) := goodIn_app (goodIn_of _ (by decide +kernel)) ggX6_goes_X6_passes
theorem dX6_goes_0 : decode cX6_goes 0 = .ok (.aload_n 0, 1) := by decide +kernel
theorem dX6_goes_1 : decode cX6_goes 1 = .ok (.invokevirtual 105, 3) := by decide +kernel
theorem dX6_goes_4 : decode cX6_goes 4 = .ok (.istore_n 2, 1) := by decide +kernel
theorem dX6_goes_5 : decode cX6_goes 5 = .ok (.aload_n 0, 1) := by decide +kernel
theorem dX6_goes_6 : decode cX6_goes 6 = .ok (.aload_n 0, 1) := by decide +kernel
theorem dX6_goes_7 : decode cX6_goes 7 = .ok (.getfield 7, 3) := by decide +kernel
theorem dX6_goes_10 : decode cX6_goes 10 = .ok (.iconst 1, 1) := by decide +kernel
theorem dX6_goes_11 : decode cX6_goes 11 = .ok (.iaload, 1) := by decide +kernel
theorem dX6_goes_12 : decode cX6_goes 12 = .ok (.iconst 1, 1) := by decide +kernel
theorem dX6_goes_13 : decode cX6_goes 13 = .ok (.iadd, 1) := by decide +kernel
theorem dX6_goes_14 : decode cX6_goes 14 = .ok (.aload_n 0, 1) := by decide +kernel
theorem dX6_goes_15 : decode cX6_goes 15 = .ok (.getfield 7, 3) := by decide +kernel
theorem dX6_goes_18 : decode cX6_goes 18 = .ok (.iconst 1, 1) := by decide +kernel
theorem dX6_goes_19 : decode cX6_goes 19 = .ok (.iaload, 1) := by decide +kernel
theorem dX6_goes_20 : decode cX6_goes 20 = .ok (.iload_n 1, 1) := by decide +kernel
theorem dX6_goes_21 : decode cX6_goes 21 = .ok (.iadd, 1) := by decide +kernel
theorem dX6_goes_22 : decode cX6_goes 22 = .ok (.invokevirtual 108, 3) := by decide +kernel
theorem dX6_goes_25 : decode cX6_goes 25 = .ok (.iconst 0, 1) := by decide +kernel
theorem dX6_goes_26 : decode cX6_goes 26 = .ok (.istore_n 3, 1) := by decide +kernel
theorem dX6_goes_27 : decode cX6_goes 27 = .ok (.iload_n 3, 1) := by decide +kernel
theorem dX6_goes_28 : decode cX6_goes 28 = .ok (.iload_n 1, 1) := by decide +kernel
theorem dX6_goes_29 : decode cX6_goes 29 = .ok (.if_icmp .ge 13, 3) := by decide +kernel
theorem dX6_goes_32 : decode cX6_goes 32 = .ok (.aload_n 0, 1) := by decide +kernel
theorem dX6_goes_33 : decode cX6_goes 33 = .ok (.invokevirtual 111, 3) := by decide +kernel
theorem dX6_goes_36 : decode cX6_goes 36 = .ok (.iinc 3 1, 3) := by decide +kernel
theorem dX6_goes_39 : decode cX6_goes 39 = .ok (.goto (-12), 3) := by decide +kernel
theorem dX6_goes_42 : decode cX6_goes 42 = .ok (.aload_n 0, 1) := by decide +kernel
theorem dX6_goes_43 : decode cX6_goes 43 = .ok (.invokevirtual 105, 3) := by decide +kernel
theorem dX6_goes_46 : decode cX6_goes 46 = .ok (.iload_n 2, 1) := by decide +kernel
theorem dX6_goes_47 : decode cX6_goes 47 = .ok (.isub, 1) := by decide +kernel
theorem dX6_goes_48 : decode cX6_goes 48 = .ok (.ireturn, 1) := by decide +kernel
set_option maxRecDepth 20000 in
theorem ggX6_run_X6_within : GoodIn wsX6_run wsX6_within := goodIn_r _ [5] (by decide +kernel) (by decide +kernel)
set_option maxRecDepth 20000 in
theorem gX6_run_X6_within : GoodIn wsX6_run (va_wsS RX6 29 yX6_within wsX6_within) := goodIn_app (goodIn_of _ (by decide +kernel)) ggX6_run_X6_within
set_option maxRecDepth 20000 in
theorem ggX6_run_X6_refused : GoodIn wsX6_run wsX6_refused := goodIn_r _ [9, 10, 61, 62, 63, 64, 65, 66, 67, 68, 69, 70, 71, 72] (by decide +kernel) (by decide +kernel)
set_option maxRecDepth 20000 in
theorem gX6_run_X6_refused : GoodIn wsX6_run (wsV RX6 36 RX6 yX6_refused wsX6_refused) := goodIn_app (goodIn_of _ (by decide +kernel)) ggX6_run_X6_refused
set_option maxRecDepth 20000 in
theorem ggX6_run_X6_saves : GoodIn wsX6_run wsX6_saves := goodIn_r _ [14, 15, 16, 1, 61, 62, 63, 64, 65, 66, 67, 68, 69, 70, 71, 72] (by decide +kernel) (by decide +kernel)
set_option maxRecDepth 20000 in
theorem gX6_run_X6_saves : GoodIn wsX6_run (wsV RX6 51 RX6 yX6_saves wsX6_saves) := goodIn_app (goodIn_of _ (by decide +kernel)) ggX6_run_X6_saves
set_option maxRecDepth 20000 in
theorem ggX6_run_X6_goes : GoodIn wsX6_run wsX6_goes := goodIn_r _ [20, 1, 21, 22, 23, 4, 24, 25, 26, 27, 28, 29, 30, 31, 32, 33, 34, 35, 36, 37, 38, 39, 40, 41, 42, 43, 44, 45, 46, 47, 48, 49, 50, 51, 52, 53, 54, 55, 56, 57, 58, 59, 60, 61, 62, 63, 64, 65, 66, 67, 68, 69, 70, 71, 72] (by decide +kernel) (by decide +kernel)
set_option maxRecDepth 20000 in
theorem gX6_run_X6_goes : GoodIn wsX6_run (wsV RX6 114 RX6 yX6_goes wsX6_goes) := goodIn_app (goodIn_of _ (by decide +kernel)) ggX6_run_X6_goes
theorem dX6_run_0 : decode cX6_run 0 = .ok (.aload_n 0, 1) := by decide +kernel
theorem dX6_run_1 : decode cX6_run 1 = .ok (.iload_n 1, 1) := by decide +kernel
theorem dX6_run_2 : decode cX6_run 2 = .ok (.iconst 0, 1) := by decide +kernel
theorem dX6_run_3 : decode cX6_run 3 = .ok (.sipush 2000, 3) := by decide +kernel
theorem dX6_run_6 : decode cX6_run 6 = .ok (.invokestatic 29, 3) := by decide +kernel
theorem dX6_run_9 : decode cX6_run 9 = .ok (.ifCond .ne 7, 3) := by decide +kernel
theorem dX6_run_12 : decode cX6_run 12 = .ok (.iconst 1, 1) := by decide +kernel
theorem dX6_run_13 : decode cX6_run 13 = .ok (.goto 31, 3) := by decide +kernel
theorem dX6_run_16 : decode cX6_run 16 = .ok (.aload_n 0, 1) := by decide +kernel
theorem dX6_run_17 : decode cX6_run 17 = .ok (.getfield 7, 3) := by decide +kernel
theorem dX6_run_20 : decode cX6_run 20 = .ok (.iconst 0, 1) := by decide +kernel
theorem dX6_run_21 : decode cX6_run 21 = .ok (.iaload, 1) := by decide +kernel
theorem dX6_run_22 : decode cX6_run 22 = .ok (.ifCond .eq 17, 3) := by decide +kernel
theorem dX6_run_25 : decode cX6_run 25 = .ok (.aload_n 0, 1) := by decide +kernel
theorem dX6_run_26 : decode cX6_run 26 = .ok (.getfield 7, 3) := by decide +kernel
theorem dX6_run_29 : decode cX6_run 29 = .ok (.iconst 1, 1) := by decide +kernel
theorem dX6_run_30 : decode cX6_run 30 = .ok (.iaload, 1) := by decide +kernel
theorem dX6_run_31 : decode cX6_run 31 = .ok (.iload_n 1, 1) := by decide +kernel
theorem dX6_run_32 : decode cX6_run 32 = .ok (.iadd, 1) := by decide +kernel
theorem dX6_run_33 : decode cX6_run 33 = .ok (.sipush 10000, 3) := by decide +kernel
theorem dX6_run_36 : decode cX6_run 36 = .ok (.if_icmp .le 7, 3) := by decide +kernel
theorem dX6_run_39 : decode cX6_run 39 = .ok (.iconst 2, 1) := by decide +kernel
theorem dX6_run_40 : decode cX6_run 40 = .ok (.goto 4, 3) := by decide +kernel
theorem dX6_run_43 : decode cX6_run 43 = .ok (.iconst 0, 1) := by decide +kernel
theorem dX6_run_44 : decode cX6_run 44 = .ok (.invokevirtual 36, 3) := by decide +kernel
theorem dX6_run_47 : decode cX6_run 47 = .ok (.ifCond .eq 5, 3) := by decide +kernel
theorem dX6_run_50 : decode cX6_run 50 = .ok (.iconst 0, 1) := by decide +kernel
theorem dX6_run_51 : decode cX6_run 51 = .ok (.ireturn, 1) := by decide +kernel
theorem dX6_run_52 : decode cX6_run 52 = .ok (.aload_n 0, 1) := by decide +kernel
theorem dX6_run_53 : decode cX6_run 53 = .ok (.invokevirtual 51, 3) := by decide +kernel
theorem dX6_run_56 : decode cX6_run 56 = .ok (.aload_n 0, 1) := by decide +kernel
theorem dX6_run_57 : decode cX6_run 57 = .ok (.iload_n 1, 1) := by decide +kernel
theorem dX6_run_58 : decode cX6_run 58 = .ok (.invokevirtual 114, 3) := by decide +kernel
theorem dX6_run_61 : decode cX6_run 61 = .ok (.ireturn, 1) := by decide +kernel
set_option maxRecDepth 20000 in
theorem ggX6_empties_X6_of : GoodIn wsX6_empties wsX6_of := goodIn_r _ [5] (by decide +kernel) (by decide +kernel)
set_option maxRecDepth 20000 in
theorem gX6_empties_X6_of : GoodIn wsX6_empties (va_wsS RX6 40 yX6_of wsX6_of) := goodIn_app (goodIn_of _ (by decide +kernel)) ggX6_empties_X6_of
theorem dX6_empties_0 : decode cX6_empties 0 = .ok (.aload_n 0, 1) := by decide +kernel
theorem dX6_empties_1 : decode cX6_empties 1 = .ok (.getfield 7, 3) := by decide +kernel
theorem dX6_empties_4 : decode cX6_empties 4 = .ok (.iconst 1, 1) := by decide +kernel
theorem dX6_empties_5 : decode cX6_empties 5 = .ok (.iconst 0, 1) := by decide +kernel
theorem dX6_empties_6 : decode cX6_empties 6 = .ok (.iastore, 1) := by decide +kernel
theorem dX6_empties_7 : decode cX6_empties 7 = .ok (.iconst 0, 1) := by decide +kernel
theorem dX6_empties_8 : decode cX6_empties 8 = .ok (.istore_n 1, 1) := by decide +kernel
theorem dX6_empties_9 : decode cX6_empties 9 = .ok (.iload_n 1, 1) := by decide +kernel
theorem dX6_empties_10 : decode cX6_empties 10 = .ok (.aload_n 0, 1) := by decide +kernel
theorem dX6_empties_11 : decode cX6_empties 11 = .ok (.getfield 7, 3) := by decide +kernel
theorem dX6_empties_14 : decode cX6_empties 14 = .ok (.iconst 0, 1) := by decide +kernel
theorem dX6_empties_15 : decode cX6_empties 15 = .ok (.iaload, 1) := by decide +kernel
theorem dX6_empties_16 : decode cX6_empties 16 = .ok (.if_icmp .ge 57, 3) := by decide +kernel
theorem dX6_empties_19 : decode cX6_empties 19 = .ok (.iload_n 1, 1) := by decide +kernel
theorem dX6_empties_20 : decode cX6_empties 20 = .ok (.invokestatic 40, 3) := by decide +kernel
theorem dX6_empties_23 : decode cX6_empties 23 = .ok (.istore_n 2, 1) := by decide +kernel
theorem dX6_empties_24 : decode cX6_empties 24 = .ok (.iconst 5, 1) := by decide +kernel
theorem dX6_empties_25 : decode cX6_empties 25 = .ok (.istore_n 3, 1) := by decide +kernel
theorem dX6_empties_26 : decode cX6_empties 26 = .ok (.iload_n 3, 1) := by decide +kernel
theorem dX6_empties_27 : decode cX6_empties 27 = .ok (.bipush 16, 2) := by decide +kernel
theorem dX6_empties_29 : decode cX6_empties 29 = .ok (.if_icmp .ge 18, 3) := by decide +kernel
theorem dX6_empties_32 : decode cX6_empties 32 = .ok (.aload_n 0, 1) := by decide +kernel
theorem dX6_empties_33 : decode cX6_empties 33 = .ok (.getfield 7, 3) := by decide +kernel
theorem dX6_empties_36 : decode cX6_empties 36 = .ok (.iload_n 2, 1) := by decide +kernel
theorem dX6_empties_37 : decode cX6_empties 37 = .ok (.iload_n 3, 1) := by decide +kernel
theorem dX6_empties_38 : decode cX6_empties 38 = .ok (.iadd, 1) := by decide +kernel
theorem dX6_empties_39 : decode cX6_empties 39 = .ok (.iconst 0, 1) := by decide +kernel
theorem dX6_empties_40 : decode cX6_empties 40 = .ok (.iastore, 1) := by decide +kernel
theorem dX6_empties_41 : decode cX6_empties 41 = .ok (.iinc 3 1, 3) := by decide +kernel
theorem dX6_empties_44 : decode cX6_empties 44 = .ok (.goto (-18), 3) := by decide +kernel
theorem dX6_empties_47 : decode cX6_empties 47 = .ok (.aload_n 0, 1) := by decide +kernel
theorem dX6_empties_48 : decode cX6_empties 48 = .ok (.getfield 7, 3) := by decide +kernel
theorem dX6_empties_51 : decode cX6_empties 51 = .ok (.iload_n 2, 1) := by decide +kernel
theorem dX6_empties_52 : decode cX6_empties 52 = .ok (.bipush 6, 2) := by decide +kernel
theorem dX6_empties_54 : decode cX6_empties 54 = .ok (.iadd, 1) := by decide +kernel
theorem dX6_empties_55 : decode cX6_empties 55 = .ok (.iconst (-1), 1) := by decide +kernel
theorem dX6_empties_56 : decode cX6_empties 56 = .ok (.iastore, 1) := by decide +kernel
theorem dX6_empties_57 : decode cX6_empties 57 = .ok (.aload_n 0, 1) := by decide +kernel
theorem dX6_empties_58 : decode cX6_empties 58 = .ok (.getfield 7, 3) := by decide +kernel
theorem dX6_empties_61 : decode cX6_empties 61 = .ok (.iload_n 2, 1) := by decide +kernel
theorem dX6_empties_62 : decode cX6_empties 62 = .ok (.bipush 7, 2) := by decide +kernel
theorem dX6_empties_64 : decode cX6_empties 64 = .ok (.iadd, 1) := by decide +kernel
theorem dX6_empties_65 : decode cX6_empties 65 = .ok (.iconst 1, 1) := by decide +kernel
theorem dX6_empties_66 : decode cX6_empties 66 = .ok (.iastore, 1) := by decide +kernel
theorem dX6_empties_67 : decode cX6_empties 67 = .ok (.iinc 1 1, 3) := by decide +kernel
theorem dX6_empties_70 : decode cX6_empties 70 = .ok (.goto (-61), 3) := by decide +kernel
theorem dX6_empties_73 : decode cX6_empties 73 = .ok (.return_, 1) := by decide +kernel
set_option maxRecDepth 20000 in
theorem ggX6_restart_X6_saves : GoodIn wsX6_restart wsX6_saves := goodIn_r _ [7, 8, 9, 2, 17, 18, 19, 20, 21, 22, 23, 24, 25, 26, 27, 28] (by decide +kernel) (by decide +kernel)
set_option maxRecDepth 20000 in
theorem gX6_restart_X6_saves : GoodIn wsX6_restart (wsV RX6 51 RX6 yX6_saves wsX6_saves) := goodIn_app (goodIn_of _ (by decide +kernel)) ggX6_restart_X6_saves
set_option maxRecDepth 20000 in
theorem ggX6_restart_X6_empties : GoodIn wsX6_restart wsX6_empties := goodIn_r _ [13, 2, 14, 15, 6, 16, 17, 18, 19, 20, 21, 22, 23, 24, 25, 26, 27, 28] (by decide +kernel) (by decide +kernel)
set_option maxRecDepth 20000 in
theorem gX6_restart_X6_empties : GoodIn wsX6_restart (wsV RX6 117 RX6 yX6_empties wsX6_empties) := goodIn_app (goodIn_of _ (by decide +kernel)) ggX6_restart_X6_empties
theorem dX6_restart_0 : decode cX6_restart 0 = .ok (.aload_n 0, 1) := by decide +kernel
theorem dX6_restart_1 : decode cX6_restart 1 = .ok (.iconst 0, 1) := by decide +kernel
theorem dX6_restart_2 : decode cX6_restart 2 = .ok (.putfield 25, 3) := by decide +kernel
theorem dX6_restart_5 : decode cX6_restart 5 = .ok (.aload_n 0, 1) := by decide +kernel
theorem dX6_restart_6 : decode cX6_restart 6 = .ok (.invokevirtual 51, 3) := by decide +kernel
theorem dX6_restart_9 : decode cX6_restart 9 = .ok (.aload_n 0, 1) := by decide +kernel
theorem dX6_restart_10 : decode cX6_restart 10 = .ok (.getfield 7, 3) := by decide +kernel
theorem dX6_restart_13 : decode cX6_restart 13 = .ok (.iconst 1, 1) := by decide +kernel
theorem dX6_restart_14 : decode cX6_restart 14 = .ok (.iaload, 1) := by decide +kernel
theorem dX6_restart_15 : decode cX6_restart 15 = .ok (.istore_n 1, 1) := by decide +kernel
theorem dX6_restart_16 : decode cX6_restart 16 = .ok (.aload_n 0, 1) := by decide +kernel
theorem dX6_restart_17 : decode cX6_restart 17 = .ok (.invokevirtual 117, 3) := by decide +kernel
theorem dX6_restart_20 : decode cX6_restart 20 = .ok (.iload_n 1, 1) := by decide +kernel
theorem dX6_restart_21 : decode cX6_restart 21 = .ok (.ireturn, 1) := by decide +kernel
theorem dX6_now_0 : decode cX6_now 0 = .ok (.aload_n 0, 1) := by decide +kernel
theorem dX6_now_1 : decode cX6_now 1 = .ok (.iconst 0, 1) := by decide +kernel
theorem dX6_now_2 : decode cX6_now 2 = .ok (.putfield 25, 3) := by decide +kernel
theorem dX6_now_5 : decode cX6_now 5 = .ok (.aload_n 0, 1) := by decide +kernel
theorem dX6_now_6 : decode cX6_now 6 = .ok (.getfield 7, 3) := by decide +kernel
theorem dX6_now_9 : decode cX6_now 9 = .ok (.iconst 1, 1) := by decide +kernel
theorem dX6_now_10 : decode cX6_now 10 = .ok (.iaload, 1) := by decide +kernel
theorem dX6_now_11 : decode cX6_now 11 = .ok (.ireturn, 1) := by decide +kernel
set_option maxRecDepth 20000 in
theorem ggX6_output_X6_made : GoodIn wsX6_output wsX6_made := goodIn_r _ [6, 7, 8, 9, 5, 10, 11, 12, 13, 14, 15, 16, 17, 18, 19, 20, 21, 22] (by decide +kernel) (by decide +kernel)
set_option maxRecDepth 20000 in
theorem gX6_output_X6_made : GoodIn wsX6_output (wsV RX6 105 RX6 yX6_made wsX6_made) := goodIn_app (goodIn_of _ (by decide +kernel)) ggX6_output_X6_made
theorem dX6_output_0 : decode cX6_output 0 = .ok (.aload_n 0, 1) := by decide +kernel
theorem dX6_output_1 : decode cX6_output 1 = .ok (.iconst 0, 1) := by decide +kernel
theorem dX6_output_2 : decode cX6_output 2 = .ok (.putfield 25, 3) := by decide +kernel
theorem dX6_output_5 : decode cX6_output 5 = .ok (.aload_n 0, 1) := by decide +kernel
theorem dX6_output_6 : decode cX6_output 6 = .ok (.invokevirtual 105, 3) := by decide +kernel
theorem dX6_output_9 : decode cX6_output 9 = .ok (.ireturn, 1) := by decide +kernel
set_option maxRecDepth 20000 in
theorem ggX6_setting_X6_isMachine : GoodIn wsX6_setting wsX6_isMachine := goodIn_r _ [6, 1, 7, 8, 5, 9, 18, 19, 20, 21, 22, 23, 24, 25, 26, 27, 28, 29] (by decide +kernel) (by decide +kernel)
set_option maxRecDepth 20000 in
theorem gX6_setting_X6_isMachine : GoodIn wsX6_setting (wsV RX6 58 RX6 yX6_isMachine wsX6_isMachine) := goodIn_app (goodIn_of _ (by decide +kernel)) ggX6_setting_X6_isMachine
set_option maxRecDepth 20000 in
theorem ggX6_setting_X6_within : GoodIn wsX6_setting wsX6_within := goodIn_r _ [9] (by decide +kernel) (by decide +kernel)
set_option maxRecDepth 20000 in
theorem gX6_setting_X6_within : GoodIn wsX6_setting (va_wsS RX6 29 yX6_within wsX6_within) := goodIn_app (goodIn_of _ (by decide +kernel)) ggX6_setting_X6_within
set_option maxRecDepth 20000 in
theorem ggX6_setting_X6_refused : GoodIn wsX6_setting wsX6_refused := goodIn_r _ [13, 14, 18, 19, 20, 21, 22, 23, 24, 25, 26, 27, 28, 29] (by decide +kernel) (by decide +kernel)
set_option maxRecDepth 20000 in
theorem gX6_setting_X6_refused : GoodIn wsX6_setting (wsV RX6 36 RX6 yX6_refused wsX6_refused) := goodIn_app (goodIn_of _ (by decide +kernel)) ggX6_setting_X6_refused
set_option maxRecDepth 20000 in
theorem ggX6_setting_X6_of : GoodIn wsX6_setting wsX6_of := goodIn_r _ [17] (by decide +kernel) (by decide +kernel)
set_option maxRecDepth 20000 in
theorem gX6_setting_X6_of : GoodIn wsX6_setting (va_wsS RX6 40 yX6_of wsX6_of) := goodIn_app (goodIn_of _ (by decide +kernel)) ggX6_setting_X6_of
theorem dX6_setting_0 : decode cX6_setting 0 = .ok (.aload_n 0, 1) := by decide +kernel
theorem dX6_setting_1 : decode cX6_setting 1 = .ok (.aload_n 0, 1) := by decide +kernel
theorem dX6_setting_2 : decode cX6_setting 2 = .ok (.iload_n 1, 1) := by decide +kernel
theorem dX6_setting_3 : decode cX6_setting 3 = .ok (.invokevirtual 58, 3) := by decide +kernel
theorem dX6_setting_6 : decode cX6_setting 6 = .ok (.ifCond .ne 7, 3) := by decide +kernel
theorem dX6_setting_9 : decode cX6_setting 9 = .ok (.iconst 1, 1) := by decide +kernel
theorem dX6_setting_10 : decode cX6_setting 10 = .ok (.goto 17, 3) := by decide +kernel
theorem dX6_setting_13 : decode cX6_setting 13 = .ok (.iload_n 2, 1) := by decide +kernel
theorem dX6_setting_14 : decode cX6_setting 14 = .ok (.iconst 0, 1) := by decide +kernel
theorem dX6_setting_15 : decode cX6_setting 15 = .ok (.iconst 4, 1) := by decide +kernel
theorem dX6_setting_16 : decode cX6_setting 16 = .ok (.invokestatic 29, 3) := by decide +kernel
theorem dX6_setting_19 : decode cX6_setting 19 = .ok (.ifCond .eq 7, 3) := by decide +kernel
theorem dX6_setting_22 : decode cX6_setting 22 = .ok (.iconst 0, 1) := by decide +kernel
theorem dX6_setting_23 : decode cX6_setting 23 = .ok (.goto 4, 3) := by decide +kernel
theorem dX6_setting_26 : decode cX6_setting 26 = .ok (.iconst 2, 1) := by decide +kernel
theorem dX6_setting_27 : decode cX6_setting 27 = .ok (.invokevirtual 36, 3) := by decide +kernel
theorem dX6_setting_30 : decode cX6_setting 30 = .ok (.ifCond .eq 7, 3) := by decide +kernel
theorem dX6_setting_33 : decode cX6_setting 33 = .ok (.iconst 0, 1) := by decide +kernel
theorem dX6_setting_34 : decode cX6_setting 34 = .ok (.goto 14, 3) := by decide +kernel
theorem dX6_setting_37 : decode cX6_setting 37 = .ok (.aload_n 0, 1) := by decide +kernel
theorem dX6_setting_38 : decode cX6_setting 38 = .ok (.getfield 7, 3) := by decide +kernel
theorem dX6_setting_41 : decode cX6_setting 41 = .ok (.iload_n 1, 1) := by decide +kernel
theorem dX6_setting_42 : decode cX6_setting 42 = .ok (.invokestatic 40, 3) := by decide +kernel
theorem dX6_setting_45 : decode cX6_setting 45 = .ok (.iload_n 2, 1) := by decide +kernel
theorem dX6_setting_46 : decode cX6_setting 46 = .ok (.iadd, 1) := by decide +kernel
theorem dX6_setting_47 : decode cX6_setting 47 = .ok (.iaload, 1) := by decide +kernel
theorem dX6_setting_48 : decode cX6_setting 48 = .ok (.ireturn, 1) := by decide +kernel
set_option maxRecDepth 20000 in
theorem ggX6_tellMachine_X6_of : GoodIn wsX6_tellMachine wsX6_of := goodIn_r _ [5] (by decide +kernel) (by decide +kernel)
set_option maxRecDepth 20000 in
theorem gX6_tellMachine_X6_of : GoodIn wsX6_tellMachine (va_wsS RX6 40 yX6_of wsX6_of) := goodIn_app (goodIn_of _ (by decide +kernel)) ggX6_tellMachine_X6_of
theorem dX6_tellMachine_0 : decode cX6_tellMachine 0 = .ok (.aload_n 0, 1) := by decide +kernel
theorem dX6_tellMachine_1 : decode cX6_tellMachine 1 = .ok (.getfield 7, 3) := by decide +kernel
theorem dX6_tellMachine_4 : decode cX6_tellMachine 4 = .ok (.iload_n 1, 1) := by decide +kernel
theorem dX6_tellMachine_5 : decode cX6_tellMachine 5 = .ok (.invokestatic 40, 3) := by decide +kernel
theorem dX6_tellMachine_8 : decode cX6_tellMachine 8 = .ok (.iconst 5, 1) := by decide +kernel
theorem dX6_tellMachine_9 : decode cX6_tellMachine 9 = .ok (.iadd, 1) := by decide +kernel
theorem dX6_tellMachine_10 : decode cX6_tellMachine 10 = .ok (.iload_n 2, 1) := by decide +kernel
theorem dX6_tellMachine_11 : decode cX6_tellMachine 11 = .ok (.iadd, 1) := by decide +kernel
theorem dX6_tellMachine_12 : decode cX6_tellMachine 12 = .ok (.iaload, 1) := by decide +kernel
theorem dX6_tellMachine_13 : decode cX6_tellMachine 13 = .ok (.ireturn, 1) := by decide +kernel
set_option maxRecDepth 20000 in
theorem ggX6_machine_X6_isMachine : GoodIn wsX6_machine wsX6_isMachine := goodIn_r _ [5, 6, 7, 8, 4, 9, 22, 23, 24, 25, 26, 27, 28, 29, 30, 31, 32, 33] (by decide +kernel) (by decide +kernel)
set_option maxRecDepth 20000 in
theorem gX6_machine_X6_isMachine : GoodIn wsX6_machine (wsV RX6 58 RX6 yX6_isMachine wsX6_isMachine) := goodIn_app (goodIn_of _ (by decide +kernel)) ggX6_machine_X6_isMachine
set_option maxRecDepth 20000 in
theorem ggX6_machine_X6_within : GoodIn wsX6_machine wsX6_within := goodIn_r _ [9] (by decide +kernel) (by decide +kernel)
set_option maxRecDepth 20000 in
theorem gX6_machine_X6_within : GoodIn wsX6_machine (va_wsS RX6 29 yX6_within wsX6_within) := goodIn_app (goodIn_of _ (by decide +kernel)) ggX6_machine_X6_within
set_option maxRecDepth 20000 in
theorem ggX6_machine_X6_refused : GoodIn wsX6_machine wsX6_refused := goodIn_r _ [13, 14, 22, 23, 24, 25, 26, 27, 28, 29, 30, 31, 32, 33] (by decide +kernel) (by decide +kernel)
set_option maxRecDepth 20000 in
theorem gX6_machine_X6_refused : GoodIn wsX6_machine (wsV RX6 36 RX6 yX6_refused wsX6_refused) := goodIn_app (goodIn_of _ (by decide +kernel)) ggX6_machine_X6_refused
set_option maxRecDepth 20000 in
theorem ggX6_machine_X6_tellMachine : GoodIn wsX6_machine wsX6_tellMachine := goodIn_r _ [18, 6, 19, 20, 4, 21, 22, 23, 24, 25, 26, 27, 28, 29, 30, 31, 32, 33] (by decide +kernel) (by decide +kernel)
set_option maxRecDepth 20000 in
theorem gX6_machine_X6_tellMachine : GoodIn wsX6_machine (wsV RX6 120 RX6 yX6_tellMachine wsX6_tellMachine) := goodIn_app (goodIn_of _ (by decide +kernel)) ggX6_machine_X6_tellMachine
theorem dX6_machine_0 : decode cX6_machine 0 = .ok (.aload_n 0, 1) := by decide +kernel
theorem dX6_machine_1 : decode cX6_machine 1 = .ok (.aload_n 0, 1) := by decide +kernel
theorem dX6_machine_2 : decode cX6_machine 2 = .ok (.iload_n 1, 1) := by decide +kernel
theorem dX6_machine_3 : decode cX6_machine 3 = .ok (.invokevirtual 58, 3) := by decide +kernel
theorem dX6_machine_6 : decode cX6_machine 6 = .ok (.ifCond .ne 7, 3) := by decide +kernel
theorem dX6_machine_9 : decode cX6_machine 9 = .ok (.iconst 1, 1) := by decide +kernel
theorem dX6_machine_10 : decode cX6_machine 10 = .ok (.goto 17, 3) := by decide +kernel
theorem dX6_machine_13 : decode cX6_machine 13 = .ok (.iload_n 2, 1) := by decide +kernel
theorem dX6_machine_14 : decode cX6_machine 14 = .ok (.iconst 0, 1) := by decide +kernel
theorem dX6_machine_15 : decode cX6_machine 15 = .ok (.iconst 3, 1) := by decide +kernel
theorem dX6_machine_16 : decode cX6_machine 16 = .ok (.invokestatic 29, 3) := by decide +kernel
theorem dX6_machine_19 : decode cX6_machine 19 = .ok (.ifCond .eq 7, 3) := by decide +kernel
theorem dX6_machine_22 : decode cX6_machine 22 = .ok (.iconst 0, 1) := by decide +kernel
theorem dX6_machine_23 : decode cX6_machine 23 = .ok (.goto 4, 3) := by decide +kernel
theorem dX6_machine_26 : decode cX6_machine 26 = .ok (.iconst 2, 1) := by decide +kernel
theorem dX6_machine_27 : decode cX6_machine 27 = .ok (.invokevirtual 36, 3) := by decide +kernel
theorem dX6_machine_30 : decode cX6_machine 30 = .ok (.ifCond .eq 7, 3) := by decide +kernel
theorem dX6_machine_33 : decode cX6_machine 33 = .ok (.iconst 0, 1) := by decide +kernel
theorem dX6_machine_34 : decode cX6_machine 34 = .ok (.goto 9, 3) := by decide +kernel
theorem dX6_machine_37 : decode cX6_machine 37 = .ok (.aload_n 0, 1) := by decide +kernel
theorem dX6_machine_38 : decode cX6_machine 38 = .ok (.iload_n 1, 1) := by decide +kernel
theorem dX6_machine_39 : decode cX6_machine 39 = .ok (.iload_n 2, 1) := by decide +kernel
theorem dX6_machine_40 : decode cX6_machine 40 = .ok (.invokevirtual 120, 3) := by decide +kernel
theorem dX6_machine_43 : decode cX6_machine 43 = .ok (.ireturn, 1) := by decide +kernel
set_option maxRecDepth 20000 in
theorem ggX6_count_X6_isMachine : GoodIn wsX6_count wsX6_isMachine := goodIn_r _ [6, 1, 7, 8, 5, 9, 18, 19, 20, 21, 22, 23, 24, 25, 26, 27, 28, 29] (by decide +kernel) (by decide +kernel)
set_option maxRecDepth 20000 in
theorem gX6_count_X6_isMachine : GoodIn wsX6_count (wsV RX6 58 RX6 yX6_isMachine wsX6_isMachine) := goodIn_app (goodIn_of _ (by decide +kernel)) ggX6_count_X6_isMachine
set_option maxRecDepth 20000 in
theorem ggX6_count_X6_within : GoodIn wsX6_count wsX6_within := goodIn_r _ [9] (by decide +kernel) (by decide +kernel)
set_option maxRecDepth 20000 in
theorem gX6_count_X6_within : GoodIn wsX6_count (va_wsS RX6 29 yX6_within wsX6_within) := goodIn_app (goodIn_of _ (by decide +kernel)) ggX6_count_X6_within
set_option maxRecDepth 20000 in
theorem ggX6_count_X6_refused : GoodIn wsX6_count wsX6_refused := goodIn_r _ [13, 14, 18, 19, 20, 21, 22, 23, 24, 25, 26, 27, 28, 29] (by decide +kernel) (by decide +kernel)
set_option maxRecDepth 20000 in
theorem gX6_count_X6_refused : GoodIn wsX6_count (wsV RX6 36 RX6 yX6_refused wsX6_refused) := goodIn_app (goodIn_of _ (by decide +kernel)) ggX6_count_X6_refused
set_option maxRecDepth 20000 in
theorem ggX6_count_X6_of : GoodIn wsX6_count wsX6_of := goodIn_r _ [17] (by decide +kernel) (by decide +kernel)
set_option maxRecDepth 20000 in
theorem gX6_count_X6_of : GoodIn wsX6_count (va_wsS RX6 40 yX6_of wsX6_of) := goodIn_app (goodIn_of _ (by decide +kernel)) ggX6_count_X6_of
theorem dX6_count_0 : decode cX6_count 0 = .ok (.aload_n 0, 1) := by decide +kernel
theorem dX6_count_1 : decode cX6_count 1 = .ok (.aload_n 0, 1) := by decide +kernel
theorem dX6_count_2 : decode cX6_count 2 = .ok (.iload_n 1, 1) := by decide +kernel
theorem dX6_count_3 : decode cX6_count 3 = .ok (.invokevirtual 58, 3) := by decide +kernel
theorem dX6_count_6 : decode cX6_count 6 = .ok (.ifCond .ne 7, 3) := by decide +kernel
theorem dX6_count_9 : decode cX6_count 9 = .ok (.iconst 1, 1) := by decide +kernel
theorem dX6_count_10 : decode cX6_count 10 = .ok (.goto 17, 3) := by decide +kernel
theorem dX6_count_13 : decode cX6_count 13 = .ok (.iload_n 2, 1) := by decide +kernel
theorem dX6_count_14 : decode cX6_count 14 = .ok (.iconst 0, 1) := by decide +kernel
theorem dX6_count_15 : decode cX6_count 15 = .ok (.iconst 5, 1) := by decide +kernel
theorem dX6_count_16 : decode cX6_count 16 = .ok (.invokestatic 29, 3) := by decide +kernel
theorem dX6_count_19 : decode cX6_count 19 = .ok (.ifCond .eq 7, 3) := by decide +kernel
theorem dX6_count_22 : decode cX6_count 22 = .ok (.iconst 0, 1) := by decide +kernel
theorem dX6_count_23 : decode cX6_count 23 = .ok (.goto 4, 3) := by decide +kernel
theorem dX6_count_26 : decode cX6_count 26 = .ok (.iconst 2, 1) := by decide +kernel
theorem dX6_count_27 : decode cX6_count 27 = .ok (.invokevirtual 36, 3) := by decide +kernel
theorem dX6_count_30 : decode cX6_count 30 = .ok (.ifCond .eq 7, 3) := by decide +kernel
theorem dX6_count_33 : decode cX6_count 33 = .ok (.iconst 0, 1) := by decide +kernel
theorem dX6_count_34 : decode cX6_count 34 = .ok (.goto 17, 3) := by decide +kernel
theorem dX6_count_37 : decode cX6_count 37 = .ok (.aload_n 0, 1) := by decide +kernel
theorem dX6_count_38 : decode cX6_count 38 = .ok (.getfield 7, 3) := by decide +kernel
theorem dX6_count_41 : decode cX6_count 41 = .ok (.iload_n 1, 1) := by decide +kernel
theorem dX6_count_42 : decode cX6_count 42 = .ok (.invokestatic 40, 3) := by decide +kernel
theorem dX6_count_45 : decode cX6_count 45 = .ok (.bipush 9, 2) := by decide +kernel
theorem dX6_count_47 : decode cX6_count 47 = .ok (.iadd, 1) := by decide +kernel
theorem dX6_count_48 : decode cX6_count 48 = .ok (.iload_n 2, 1) := by decide +kernel
theorem dX6_count_49 : decode cX6_count 49 = .ok (.iadd, 1) := by decide +kernel
theorem dX6_count_50 : decode cX6_count 50 = .ok (.iaload, 1) := by decide +kernel
theorem dX6_count_51 : decode cX6_count 51 = .ok (.ireturn, 1) := by decide +kernel
set_option maxRecDepth 20000 in
theorem ggX6_meanFill_X6_isMachine : GoodIn wsX6_meanFill wsX6_isMachine := goodIn_r _ [6, 1, 7, 8, 5, 9, 18, 19, 20, 21, 22, 23, 24, 25, 26, 27, 28, 29] (by decide +kernel) (by decide +kernel)
set_option maxRecDepth 20000 in
theorem gX6_meanFill_X6_isMachine : GoodIn wsX6_meanFill (wsV RX6 58 RX6 yX6_isMachine wsX6_isMachine) := goodIn_app (goodIn_of _ (by decide +kernel)) ggX6_meanFill_X6_isMachine
