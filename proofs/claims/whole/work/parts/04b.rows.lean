theorem dX2_mixInto_62 : decode cX2_mixInto 62 = .ok (.lmul, 1) := by decide +kernel
theorem dX2_mixInto_63 : decode cX2_mixInto 63 = .ok (.aload_n 0, 1) := by decide +kernel
theorem dX2_mixInto_64 : decode cX2_mixInto 64 = .ok (.getfield 11, 3) := by decide +kernel
theorem dX2_mixInto_67 : decode cX2_mixInto 67 = .ok (.iload 5, 2) := by decide +kernel
theorem dX2_mixInto_69 : decode cX2_mixInto 69 = .ok (.aaload, 1) := by decide +kernel
theorem dX2_mixInto_70 : decode cX2_mixInto 70 = .ok (.iload 6, 2) := by decide +kernel
theorem dX2_mixInto_72 : decode cX2_mixInto 72 = .ok (.iaload, 1) := by decide +kernel
theorem dX2_mixInto_73 : decode cX2_mixInto 73 = .ok (.i2l, 1) := by decide +kernel
theorem dX2_mixInto_74 : decode cX2_mixInto 74 = .ok (.ladd, 1) := by decide +kernel
theorem dX2_mixInto_75 : decode cX2_mixInto 75 = .ok (.lstore_n 3, 1) := by decide +kernel
theorem dX2_mixInto_76 : decode cX2_mixInto 76 = .ok (.iinc 6 1, 3) := by decide +kernel
theorem dX2_mixInto_79 : decode cX2_mixInto 79 = .ok (.goto (-28), 3) := by decide +kernel
theorem dX2_mixInto_82 : decode cX2_mixInto 82 = .ok (.iinc 5 1, 3) := by decide +kernel
theorem dX2_mixInto_85 : decode cX2_mixInto 85 = .ok (.goto (-46), 3) := by decide +kernel
theorem dX2_mixInto_88 : decode cX2_mixInto 88 = .ok (.lload_n 3, 1) := by decide +kernel
theorem dX2_mixInto_89 : decode cX2_mixInto 89 = .ok (.lreturn, 1) := by decide +kernel
theorem dX3_init_0 : decode cX3_init 0 = .ok (.aload_n 0, 1) := by decide +kernel
theorem dX3_init_1 : decode cX3_init 1 = .ok (.invokespecial 3, 3) := by decide +kernel
theorem dX3_init_4 : decode cX3_init 4 = .ok (.aload_n 0, 1) := by decide +kernel
theorem dX3_init_5 : decode cX3_init 5 = .ok (.bipush 120, 2) := by decide +kernel
theorem dX3_init_7 : decode cX3_init 7 = .ok (.newarray .int, 2) := by decide +kernel
theorem dX3_init_9 : decode cX3_init 9 = .ok (.putfield 9, 3) := by decide +kernel
theorem dX3_init_12 : decode cX3_init 12 = .ok (.return_, 1) := by decide +kernel
theorem dX3_put_0 : decode cX3_put 0 = .ok (.aload_n 0, 1) := by decide +kernel
theorem dX3_put_1 : decode cX3_put 1 = .ok (.getfield 15, 3) := by decide +kernel
theorem dX3_put_4 : decode cX3_put 4 = .ok (.bipush 120, 2) := by decide +kernel
theorem dX3_put_6 : decode cX3_put 6 = .ok (.if_icmp .ge 23, 3) := by decide +kernel
theorem dX3_put_9 : decode cX3_put 9 = .ok (.aload_n 0, 1) := by decide +kernel
theorem dX3_put_10 : decode cX3_put 10 = .ok (.getfield 9, 3) := by decide +kernel
theorem dX3_put_13 : decode cX3_put 13 = .ok (.aload_n 0, 1) := by decide +kernel
theorem dX3_put_14 : decode cX3_put 14 = .ok (.getfield 15, 3) := by decide +kernel
theorem dX3_put_17 : decode cX3_put 17 = .ok (.iload_n 1, 1) := by decide +kernel
theorem dX3_put_18 : decode cX3_put 18 = .ok (.iastore, 1) := by decide +kernel
theorem dX3_put_19 : decode cX3_put 19 = .ok (.aload_n 0, 1) := by decide +kernel
theorem dX3_put_20 : decode cX3_put 20 = .ok (.dup, 1) := by decide +kernel
theorem dX3_put_21 : decode cX3_put 21 = .ok (.getfield 15, 3) := by decide +kernel
theorem dX3_put_24 : decode cX3_put 24 = .ok (.iconst 1, 1) := by decide +kernel
theorem dX3_put_25 : decode cX3_put 25 = .ok (.iadd, 1) := by decide +kernel
theorem dX3_put_26 : decode cX3_put 26 = .ok (.putfield 15, 3) := by decide +kernel
theorem dX3_put_29 : decode cX3_put 29 = .ok (.return_, 1) := by decide +kernel
set_option maxRecDepth 20000 in
theorem ggX3_readInto_X2_takeApart : GoodIn wsX3_readInto wsX2_takeApart := goodIn_r _ [8, 9, 10, 11, 56, 57, 58, 59, 60, 61, 62, 63, 64] (by decide +kernel) (by decide +kernel)
set_option maxRecDepth 20000 in
theorem gX3_readInto_X2_takeApart : GoodIn wsX3_readInto (wsV RX3 25 RX2 yX2_takeApart wsX2_takeApart) := goodIn_app (goodIn_of _ (by decide +kernel)) ggX3_readInto_X2_takeApart
set_option maxRecDepth 20000 in
theorem ggX3_readInto_X3_readItem : GoodIn wsX3_readInto wsX3_readItem := goodIn_r _ [16, 1, 2, 17, 18, 19, 15, 20, 3, 21, 22, 23, 24, 25, 26, 27, 28, 29, 30, 31, 32, 33, 34, 35, 36, 37, 38, 7, 39, 9, 40, 41, 42, 43, 44, 45, 46, 47, 48, 49, 50, 51, 52, 53, 54, 55, 56, 57, 58, 59] (by decide +kernel) (by decide +kernel)
set_option maxRecDepth 20000 in
theorem gX3_readInto_X3_readItem : GoodIn wsX3_readInto (wsV RX3 30 RX3 yX3_readItem wsX3_readItem) := goodIn_app (goodIn_of _ (by decide +kernel)) ggX3_readInto_X3_readItem
theorem dX3_readInto_0 : decode cX3_readInto 0 = .ok (.aload_n 0, 1) := by decide +kernel
theorem dX3_readInto_1 : decode cX3_readInto 1 = .ok (.iconst 0, 1) := by decide +kernel
theorem dX3_readInto_2 : decode cX3_readInto 2 = .ok (.putfield 19, 3) := by decide +kernel
theorem dX3_readInto_5 : decode cX3_readInto 5 = .ok (.aload_n 0, 1) := by decide +kernel
theorem dX3_readInto_6 : decode cX3_readInto 6 = .ok (.iconst (-1), 1) := by decide +kernel
theorem dX3_readInto_7 : decode cX3_readInto 7 = .ok (.putfield 22, 3) := by decide +kernel
theorem dX3_readInto_10 : decode cX3_readInto 10 = .ok (.aload_n 1, 1) := by decide +kernel
theorem dX3_readInto_11 : decode cX3_readInto 11 = .ok (.invokevirtual 25, 3) := by decide +kernel
theorem dX3_readInto_14 : decode cX3_readInto 14 = .ok (.iconst 0, 1) := by decide +kernel
theorem dX3_readInto_15 : decode cX3_readInto 15 = .ok (.istore_n 2, 1) := by decide +kernel
theorem dX3_readInto_16 : decode cX3_readInto 16 = .ok (.iload_n 2, 1) := by decide +kernel
theorem dX3_readInto_17 : decode cX3_readInto 17 = .ok (.bipush 120, 2) := by decide +kernel
theorem dX3_readInto_19 : decode cX3_readInto 19 = .ok (.if_icmp .ge 33, 3) := by decide +kernel
theorem dX3_readInto_22 : decode cX3_readInto 22 = .ok (.aload_n 0, 1) := by decide +kernel
theorem dX3_readInto_23 : decode cX3_readInto 23 = .ok (.getfield 19, 3) := by decide +kernel
theorem dX3_readInto_26 : decode cX3_readInto 26 = .ok (.aload_n 0, 1) := by decide +kernel
theorem dX3_readInto_27 : decode cX3_readInto 27 = .ok (.getfield 15, 3) := by decide +kernel
theorem dX3_readInto_30 : decode cX3_readInto 30 = .ok (.if_icmp .ge 22, 3) := by decide +kernel
theorem dX3_readInto_33 : decode cX3_readInto 33 = .ok (.aload_n 0, 1) := by decide +kernel
theorem dX3_readInto_34 : decode cX3_readInto 34 = .ok (.getfield 22, 3) := by decide +kernel
theorem dX3_readInto_37 : decode cX3_readInto 37 = .ok (.iconst (-1), 1) := by decide +kernel
theorem dX3_readInto_38 : decode cX3_readInto 38 = .ok (.if_icmp .ne 14, 3) := by decide +kernel
theorem dX3_readInto_41 : decode cX3_readInto 41 = .ok (.aload_n 0, 1) := by decide +kernel
theorem dX3_readInto_42 : decode cX3_readInto 42 = .ok (.aload_n 1, 1) := by decide +kernel
theorem dX3_readInto_43 : decode cX3_readInto 43 = .ok (.invokevirtual 30, 3) := by decide +kernel
theorem dX3_readInto_46 : decode cX3_readInto 46 = .ok (.iinc 2 1, 3) := by decide +kernel
theorem dX3_readInto_49 : decode cX3_readInto 49 = .ok (.goto (-33), 3) := by decide +kernel
theorem dX3_readInto_52 : decode cX3_readInto 52 = .ok (.aload_n 0, 1) := by decide +kernel
theorem dX3_readInto_53 : decode cX3_readInto 53 = .ok (.getfield 22, 3) := by decide +kernel
theorem dX3_readInto_56 : decode cX3_readInto 56 = .ok (.ireturn, 1) := by decide +kernel
set_option maxRecDepth 20000 in
theorem ggX3_readItem_X3_byteAt : GoodIn wsX3_readItem wsX3_byteAt := goodIn_r _ [7, 8, 9, 42, 43, 44, 45] (by decide +kernel) (by decide +kernel)
set_option maxRecDepth 20000 in
theorem gX3_readItem_X3_byteAt : GoodIn wsX3_readItem (wsV RX3 34 RX3 yX3_byteAt wsX3_byteAt) := goodIn_app (goodIn_of _ (by decide +kernel)) ggX3_readItem_X3_byteAt
set_option maxRecDepth 20000 in
theorem ggX3_readItem_X3_readMachine : GoodIn wsX3_readItem wsX3_readMachine := goodIn_r _ [13, 2, 14, 15, 16, 6, 17, 1, 3, 4, 5, 7, 8, 9, 18, 19, 20, 21, 22, 23, 24, 25, 26, 27, 28, 29, 30, 31, 32, 33, 42, 43, 44, 45, 46, 47, 48, 49] (by decide +kernel) (by decide +kernel)
set_option maxRecDepth 20000 in
theorem gX3_readItem_X3_readMachine : GoodIn wsX3_readItem (wsV RX3 41 RX3 yX3_readMachine wsX3_readMachine) := goodIn_app (goodIn_of _ (by decide +kernel)) ggX3_readItem_X3_readMachine
set_option maxRecDepth 20000 in
theorem ggX3_readItem_X3_readMarks : GoodIn wsX3_readItem wsX3_readMarks := goodIn_r _ [37, 2, 14, 15, 16, 6, 17, 1, 3, 4, 5, 7, 8, 9, 18, 19, 20, 21, 22, 23, 38, 39, 40, 27, 41, 29, 30, 46, 47, 48, 49, 42, 43, 44, 45] (by decide +kernel) (by decide +kernel)
set_option maxRecDepth 20000 in
theorem gX3_readItem_X3_readMarks : GoodIn wsX3_readItem (wsV RX3 44 RX3 yX3_readMarks wsX3_readMarks) := goodIn_app (goodIn_of _ (by decide +kernel)) ggX3_readItem_X3_readMarks
theorem dX3_readItem_0 : decode cX3_readItem 0 = .ok (.aload_n 0, 1) := by decide +kernel
theorem dX3_readItem_1 : decode cX3_readItem 1 = .ok (.aload_n 0, 1) := by decide +kernel
theorem dX3_readItem_2 : decode cX3_readItem 2 = .ok (.getfield 19, 3) := by decide +kernel
theorem dX3_readItem_5 : decode cX3_readItem 5 = .ok (.invokevirtual 34, 3) := by decide +kernel
theorem dX3_readItem_8 : decode cX3_readItem 8 = .ok (.istore_n 2, 1) := by decide +kernel
theorem dX3_readItem_9 : decode cX3_readItem 9 = .ok (.iload_n 2, 1) := by decide +kernel
theorem dX3_readItem_10 : decode cX3_readItem 10 = .ok (.bipush 109, 2) := by decide +kernel
theorem dX3_readItem_12 : decode cX3_readItem 12 = .ok (.if_icmp .ne 30, 3) := by decide +kernel
theorem dX3_readItem_15 : decode cX3_readItem 15 = .ok (.aload_n 1, 1) := by decide +kernel
theorem dX3_readItem_16 : decode cX3_readItem 16 = .ok (.getfield 38, 3) := by decide +kernel
theorem dX3_readItem_19 : decode cX3_readItem 19 = .ok (.bipush 8, 2) := by decide +kernel
theorem dX3_readItem_21 : decode cX3_readItem 21 = .ok (.if_icmp .ge 21, 3) := by decide +kernel
theorem dX3_readItem_24 : decode cX3_readItem 24 = .ok (.aload_n 0, 1) := by decide +kernel
theorem dX3_readItem_25 : decode cX3_readItem 25 = .ok (.dup, 1) := by decide +kernel
theorem dX3_readItem_26 : decode cX3_readItem 26 = .ok (.getfield 19, 3) := by decide +kernel
theorem dX3_readItem_29 : decode cX3_readItem 29 = .ok (.iconst 1, 1) := by decide +kernel
theorem dX3_readItem_30 : decode cX3_readItem 30 = .ok (.iadd, 1) := by decide +kernel
theorem dX3_readItem_31 : decode cX3_readItem 31 = .ok (.putfield 19, 3) := by decide +kernel
theorem dX3_readItem_34 : decode cX3_readItem 34 = .ok (.aload_n 0, 1) := by decide +kernel
theorem dX3_readItem_35 : decode cX3_readItem 35 = .ok (.aload_n 1, 1) := by decide +kernel
theorem dX3_readItem_36 : decode cX3_readItem 36 = .ok (.invokevirtual 41, 3) := by decide +kernel
theorem dX3_readItem_39 : decode cX3_readItem 39 = .ok (.goto 35, 3) := by decide +kernel
theorem dX3_readItem_42 : decode cX3_readItem 42 = .ok (.iload_n 2, 1) := by decide +kernel
theorem dX3_readItem_43 : decode cX3_readItem 43 = .ok (.bipush 104, 2) := by decide +kernel
theorem dX3_readItem_45 : decode cX3_readItem 45 = .ok (.if_icmp .ne 21, 3) := by decide +kernel
theorem dX3_readItem_48 : decode cX3_readItem 48 = .ok (.aload_n 0, 1) := by decide +kernel
theorem dX3_readItem_49 : decode cX3_readItem 49 = .ok (.dup, 1) := by decide +kernel
theorem dX3_readItem_50 : decode cX3_readItem 50 = .ok (.getfield 19, 3) := by decide +kernel
theorem dX3_readItem_53 : decode cX3_readItem 53 = .ok (.iconst 1, 1) := by decide +kernel
theorem dX3_readItem_54 : decode cX3_readItem 54 = .ok (.iadd, 1) := by decide +kernel
theorem dX3_readItem_55 : decode cX3_readItem 55 = .ok (.putfield 19, 3) := by decide +kernel
theorem dX3_readItem_58 : decode cX3_readItem 58 = .ok (.aload_n 0, 1) := by decide +kernel
theorem dX3_readItem_59 : decode cX3_readItem 59 = .ok (.aload_n 1, 1) := by decide +kernel
theorem dX3_readItem_60 : decode cX3_readItem 60 = .ok (.invokevirtual 44, 3) := by decide +kernel
theorem dX3_readItem_63 : decode cX3_readItem 63 = .ok (.goto 11, 3) := by decide +kernel
theorem dX3_readItem_66 : decode cX3_readItem 66 = .ok (.aload_n 0, 1) := by decide +kernel
theorem dX3_readItem_67 : decode cX3_readItem 67 = .ok (.aload_n 0, 1) := by decide +kernel
theorem dX3_readItem_68 : decode cX3_readItem 68 = .ok (.getfield 19, 3) := by decide +kernel
theorem dX3_readItem_71 : decode cX3_readItem 71 = .ok (.putfield 22, 3) := by decide +kernel
theorem dX3_readItem_74 : decode cX3_readItem 74 = .ok (.return_, 1) := by decide +kernel
set_option maxRecDepth 20000 in
theorem ggX3_readMachine_X3_readNumber : GoodIn wsX3_readMachine wsX3_readNumber := goodIn_r _ [6, 1, 7, 8, 9, 10, 5, 11, 12, 13, 14, 15, 16, 17, 18, 19, 30, 31, 32, 33] (by decide +kernel) (by decide +kernel)
set_option maxRecDepth 20000 in
theorem gX3_readMachine_X3_readNumber : GoodIn wsX3_readMachine (wsV RX3 47 RX3 yX3_readNumber wsX3_readNumber) := goodIn_app (goodIn_of _ (by decide +kernel)) ggX3_readMachine_X3_readNumber
set_option maxRecDepth 20000 in
theorem ggX3_readMachine_X2_join : GoodIn wsX3_readMachine wsX2_join := goodIn_r _ [24, 25, 26, 27, 28, 23, 29, 34, 35, 36, 37] (by decide +kernel) (by decide +kernel)
set_option maxRecDepth 20000 in
theorem gX3_readMachine_X2_join : GoodIn wsX3_readMachine (wsV RX3 51 RX2 yX2_join wsX2_join) := goodIn_app (goodIn_of _ (by decide +kernel)) ggX3_readMachine_X2_join
theorem dX3_readMachine_0 : decode cX3_readMachine 0 = .ok (.aload_n 0, 1) := by decide +kernel
theorem dX3_readMachine_1 : decode cX3_readMachine 1 = .ok (.iconst 1, 1) := by decide +kernel
theorem dX3_readMachine_2 : decode cX3_readMachine 2 = .ok (.bipush 20, 2) := by decide +kernel
theorem dX3_readMachine_4 : decode cX3_readMachine 4 = .ok (.bipush 44, 2) := by decide +kernel
theorem dX3_readMachine_6 : decode cX3_readMachine 6 = .ok (.invokevirtual 47, 3) := by decide +kernel
theorem dX3_readMachine_9 : decode cX3_readMachine 9 = .ok (.istore_n 2, 1) := by decide +kernel
theorem dX3_readMachine_10 : decode cX3_readMachine 10 = .ok (.aload_n 0, 1) := by decide +kernel
theorem dX3_readMachine_11 : decode cX3_readMachine 11 = .ok (.iconst 1, 1) := by decide +kernel
theorem dX3_readMachine_12 : decode cX3_readMachine 12 = .ok (.iload_n 2, 1) := by decide +kernel
theorem dX3_readMachine_13 : decode cX3_readMachine 13 = .ok (.bipush 44, 2) := by decide +kernel
theorem dX3_readMachine_15 : decode cX3_readMachine 15 = .ok (.invokevirtual 47, 3) := by decide +kernel
theorem dX3_readMachine_18 : decode cX3_readMachine 18 = .ok (.istore_n 3, 1) := by decide +kernel
theorem dX3_readMachine_19 : decode cX3_readMachine 19 = .ok (.aload_n 0, 1) := by decide +kernel
theorem dX3_readMachine_20 : decode cX3_readMachine 20 = .ok (.iconst 0, 1) := by decide +kernel
theorem dX3_readMachine_21 : decode cX3_readMachine 21 = .ok (.bipush 40, 2) := by decide +kernel
theorem dX3_readMachine_23 : decode cX3_readMachine 23 = .ok (.bipush 59, 2) := by decide +kernel
theorem dX3_readMachine_25 : decode cX3_readMachine 25 = .ok (.invokevirtual 47, 3) := by decide +kernel
theorem dX3_readMachine_28 : decode cX3_readMachine 28 = .ok (.istore 4, 2) := by decide +kernel
theorem dX3_readMachine_30 : decode cX3_readMachine 30 = .ok (.aload_n 0, 1) := by decide +kernel
theorem dX3_readMachine_31 : decode cX3_readMachine 31 = .ok (.getfield 22, 3) := by decide +kernel
theorem dX3_readMachine_34 : decode cX3_readMachine 34 = .ok (.iconst (-1), 1) := by decide +kernel
theorem dX3_readMachine_35 : decode cX3_readMachine 35 = .ok (.if_icmp .ne 12, 3) := by decide +kernel
theorem dX3_readMachine_38 : decode cX3_readMachine 38 = .ok (.aload_n 1, 1) := by decide +kernel
theorem dX3_readMachine_39 : decode cX3_readMachine 39 = .ok (.iload_n 2, 1) := by decide +kernel
theorem dX3_readMachine_40 : decode cX3_readMachine 40 = .ok (.iload_n 3, 1) := by decide +kernel
theorem dX3_readMachine_41 : decode cX3_readMachine 41 = .ok (.iload 4, 2) := by decide +kernel
theorem dX3_readMachine_43 : decode cX3_readMachine 43 = .ok (.invokevirtual 51, 3) := by decide +kernel
theorem dX3_readMachine_46 : decode cX3_readMachine 46 = .ok (.pop, 1) := by decide +kernel
theorem dX3_readMachine_47 : decode cX3_readMachine 47 = .ok (.return_, 1) := by decide +kernel
set_option maxRecDepth 20000 in
theorem ggX3_readMarks_X3_readNumber : GoodIn wsX3_readMarks wsX3_readNumber := goodIn_r _ [6, 1, 7, 8, 9, 10, 5, 11, 12, 13, 14, 15, 16, 17, 18, 19, 31, 32, 33, 34] (by decide +kernel) (by decide +kernel)
set_option maxRecDepth 20000 in
theorem gX3_readMarks_X3_readNumber : GoodIn wsX3_readMarks (wsV RX3 47 RX3 yX3_readNumber wsX3_readNumber) := goodIn_app (goodIn_of _ (by decide +kernel)) ggX3_readMarks_X3_readNumber
set_option maxRecDepth 20000 in
theorem ggX3_readMarks_X2_mark : GoodIn wsX3_readMarks wsX2_mark := goodIn_r _ [24, 25, 26, 27, 28, 29, 30] (by decide +kernel) (by decide +kernel)
set_option maxRecDepth 20000 in
theorem gX3_readMarks_X2_mark : GoodIn wsX3_readMarks (wsV RX3 55 RX2 yX2_mark wsX2_mark) := goodIn_app (goodIn_of _ (by decide +kernel)) ggX3_readMarks_X2_mark
theorem dX3_readMarks_0 : decode cX3_readMarks 0 = .ok (.aload_n 0, 1) := by decide +kernel
theorem dX3_readMarks_1 : decode cX3_readMarks 1 = .ok (.iconst 0, 1) := by decide +kernel
theorem dX3_readMarks_2 : decode cX3_readMarks 2 = .ok (.aload_n 1, 1) := by decide +kernel
theorem dX3_readMarks_3 : decode cX3_readMarks 3 = .ok (.getfield 38, 3) := by decide +kernel
theorem dX3_readMarks_6 : decode cX3_readMarks 6 = .ok (.iconst 1, 1) := by decide +kernel
theorem dX3_readMarks_7 : decode cX3_readMarks 7 = .ok (.isub, 1) := by decide +kernel
theorem dX3_readMarks_8 : decode cX3_readMarks 8 = .ok (.bipush 44, 2) := by decide +kernel
theorem dX3_readMarks_10 : decode cX3_readMarks 10 = .ok (.invokevirtual 47, 3) := by decide +kernel
theorem dX3_readMarks_13 : decode cX3_readMarks 13 = .ok (.istore_n 2, 1) := by decide +kernel
theorem dX3_readMarks_14 : decode cX3_readMarks 14 = .ok (.aload_n 0, 1) := by decide +kernel
theorem dX3_readMarks_15 : decode cX3_readMarks 15 = .ok (.iconst 0, 1) := by decide +kernel
theorem dX3_readMarks_16 : decode cX3_readMarks 16 = .ok (.bipush 40, 2) := by decide +kernel
theorem dX3_readMarks_18 : decode cX3_readMarks 18 = .ok (.bipush 44, 2) := by decide +kernel
theorem dX3_readMarks_20 : decode cX3_readMarks 20 = .ok (.invokevirtual 47, 3) := by decide +kernel
theorem dX3_readMarks_23 : decode cX3_readMarks 23 = .ok (.istore_n 3, 1) := by decide +kernel
theorem dX3_readMarks_24 : decode cX3_readMarks 24 = .ok (.aload_n 0, 1) := by decide +kernel
theorem dX3_readMarks_25 : decode cX3_readMarks 25 = .ok (.iload_n 3, 1) := by decide +kernel
theorem dX3_readMarks_26 : decode cX3_readMarks 26 = .ok (.bipush 40, 2) := by decide +kernel
theorem dX3_readMarks_28 : decode cX3_readMarks 28 = .ok (.bipush 59, 2) := by decide +kernel
theorem dX3_readMarks_30 : decode cX3_readMarks 30 = .ok (.invokevirtual 47, 3) := by decide +kernel
theorem dX3_readMarks_33 : decode cX3_readMarks 33 = .ok (.istore 4, 2) := by decide +kernel
theorem dX3_readMarks_35 : decode cX3_readMarks 35 = .ok (.aload_n 0, 1) := by decide +kernel
theorem dX3_readMarks_36 : decode cX3_readMarks 36 = .ok (.getfield 22, 3) := by decide +kernel
theorem dX3_readMarks_39 : decode cX3_readMarks 39 = .ok (.iconst (-1), 1) := by decide +kernel
theorem dX3_readMarks_40 : decode cX3_readMarks 40 = .ok (.if_icmp .ne 11, 3) := by decide +kernel
theorem dX3_readMarks_43 : decode cX3_readMarks 43 = .ok (.aload_n 1, 1) := by decide +kernel
theorem dX3_readMarks_44 : decode cX3_readMarks 44 = .ok (.iload_n 2, 1) := by decide +kernel
theorem dX3_readMarks_45 : decode cX3_readMarks 45 = .ok (.iload_n 3, 1) := by decide +kernel
theorem dX3_readMarks_46 : decode cX3_readMarks 46 = .ok (.iload 4, 2) := by decide +kernel
theorem dX3_readMarks_48 : decode cX3_readMarks 48 = .ok (.invokevirtual 55, 3) := by decide +kernel
theorem dX3_readMarks_51 : decode cX3_readMarks 51 = .ok (.return_, 1) := by decide +kernel
set_option maxRecDepth 20000 in
theorem ggX3_readNumber_X3_byteAt : GoodIn wsX3_readNumber wsX3_byteAt := goodIn_r _ [7, 8, 9, 16, 17, 18, 19] (by decide +kernel) (by decide +kernel)
set_option maxRecDepth 20000 in
theorem gX3_readNumber_X3_byteAt : GoodIn wsX3_readNumber (wsV RX3 34 RX3 yX3_byteAt wsX3_byteAt) := goodIn_app (goodIn_of _ (by decide +kernel)) ggX3_readNumber_X3_byteAt
set_option maxRecDepth 20000 in
theorem ggX3_readNumber_X3_isDigit : GoodIn wsX3_readNumber wsX3_isDigit := goodIn_r _ [12, 13, 14, 15] (by decide +kernel) (by decide +kernel)
set_option maxRecDepth 20000 in
theorem gX3_readNumber_X3_isDigit : GoodIn wsX3_readNumber (va_wsS RX3 59 yX3_isDigit wsX3_isDigit) := goodIn_app (goodIn_of _ (by decide +kernel)) ggX3_readNumber_X3_isDigit
set_option maxRecDepth 20000 in
theorem ggX3_readNumber_X5_isIn : GoodIn wsX3_readNumber wsX5_isIn := goodIn_r _ [15] (by decide +kernel) (by decide +kernel)
set_option maxRecDepth 20000 in
theorem gX3_readNumber_X5_isIn_n63 : GoodIn wsX3_readNumber (wsX5_isIn) := ggX3_readNumber_X5_isIn
theorem dX3_readNumber_0 : decode cX3_readNumber 0 = .ok (.aload_n 0, 1) := by decide +kernel
theorem dX3_readNumber_1 : decode cX3_readNumber 1 = .ok (.getfield 22, 3) := by decide +kernel
theorem dX3_readNumber_4 : decode cX3_readNumber 4 = .ok (.iconst (-1), 1) := by decide +kernel
theorem dX3_readNumber_5 : decode cX3_readNumber 5 = .ok (.if_icmp .eq 5, 3) := by decide +kernel
theorem dX3_readNumber_8 : decode cX3_readNumber 8 = .ok (.iconst (-1), 1) := by decide +kernel
theorem dX3_readNumber_9 : decode cX3_readNumber 9 = .ok (.ireturn, 1) := by decide +kernel
theorem dX3_readNumber_10 : decode cX3_readNumber 10 = .ok (.aload_n 0, 1) := by decide +kernel
theorem dX3_readNumber_11 : decode cX3_readNumber 11 = .ok (.getfield 19, 3) := by decide +kernel
theorem dX3_readNumber_14 : decode cX3_readNumber 14 = .ok (.istore 4, 2) := by decide +kernel
theorem dX3_readNumber_16 : decode cX3_readNumber 16 = .ok (.iconst 0, 1) := by decide +kernel
theorem dX3_readNumber_17 : decode cX3_readNumber 17 = .ok (.istore 5, 2) := by decide +kernel
theorem dX3_readNumber_19 : decode cX3_readNumber 19 = .ok (.iconst 0, 1) := by decide +kernel
theorem dX3_readNumber_20 : decode cX3_readNumber 20 = .ok (.istore 6, 2) := by decide +kernel
theorem dX3_readNumber_22 : decode cX3_readNumber 22 = .ok (.iload 6, 2) := by decide +kernel
theorem dX3_readNumber_24 : decode cX3_readNumber 24 = .ok (.iconst 2, 1) := by decide +kernel
theorem dX3_readNumber_25 : decode cX3_readNumber 25 = .ok (.if_icmp .ge 52, 3) := by decide +kernel
theorem dX3_readNumber_28 : decode cX3_readNumber 28 = .ok (.aload_n 0, 1) := by decide +kernel
theorem dX3_readNumber_29 : decode cX3_readNumber 29 = .ok (.aload_n 0, 1) := by decide +kernel
theorem dX3_readNumber_30 : decode cX3_readNumber 30 = .ok (.getfield 19, 3) := by decide +kernel
theorem dX3_readNumber_33 : decode cX3_readNumber 33 = .ok (.invokevirtual 34, 3) := by decide +kernel
theorem dX3_readNumber_36 : decode cX3_readNumber 36 = .ok (.invokestatic 59, 3) := by decide +kernel
theorem dX3_readNumber_39 : decode cX3_readNumber 39 = .ok (.ifCond .eq 38, 3) := by decide +kernel
theorem dX3_readNumber_42 : decode cX3_readNumber 42 = .ok (.bipush 10, 2) := by decide +kernel
theorem dX3_readNumber_44 : decode cX3_readNumber 44 = .ok (.iload 5, 2) := by decide +kernel
theorem dX3_readNumber_46 : decode cX3_readNumber 46 = .ok (.imul, 1) := by decide +kernel
theorem dX3_readNumber_47 : decode cX3_readNumber 47 = .ok (.aload_n 0, 1) := by decide +kernel
theorem dX3_readNumber_48 : decode cX3_readNumber 48 = .ok (.aload_n 0, 1) := by decide +kernel
theorem dX3_readNumber_49 : decode cX3_readNumber 49 = .ok (.getfield 19, 3) := by decide +kernel
theorem dX3_readNumber_52 : decode cX3_readNumber 52 = .ok (.invokevirtual 34, 3) := by decide +kernel
theorem dX3_readNumber_55 : decode cX3_readNumber 55 = .ok (.iadd, 1) := by decide +kernel
theorem dX3_readNumber_56 : decode cX3_readNumber 56 = .ok (.bipush 48, 2) := by decide +kernel
theorem dX3_readNumber_58 : decode cX3_readNumber 58 = .ok (.isub, 1) := by decide +kernel
theorem dX3_readNumber_59 : decode cX3_readNumber 59 = .ok (.istore 5, 2) := by decide +kernel
theorem dX3_readNumber_61 : decode cX3_readNumber 61 = .ok (.aload_n 0, 1) := by decide +kernel
theorem dX3_readNumber_62 : decode cX3_readNumber 62 = .ok (.dup, 1) := by decide +kernel
theorem dX3_readNumber_63 : decode cX3_readNumber 63 = .ok (.getfield 19, 3) := by decide +kernel
theorem dX3_readNumber_66 : decode cX3_readNumber 66 = .ok (.iconst 1, 1) := by decide +kernel
theorem dX3_readNumber_67 : decode cX3_readNumber 67 = .ok (.iadd, 1) := by decide +kernel
theorem dX3_readNumber_68 : decode cX3_readNumber 68 = .ok (.putfield 19, 3) := by decide +kernel
theorem dX3_readNumber_71 : decode cX3_readNumber 71 = .ok (.iinc 6 1, 3) := by decide +kernel
theorem dX3_readNumber_74 : decode cX3_readNumber 74 = .ok (.goto (-52), 3) := by decide +kernel
theorem dX3_readNumber_77 : decode cX3_readNumber 77 = .ok (.aload_n 0, 1) := by decide +kernel
theorem dX3_readNumber_78 : decode cX3_readNumber 78 = .ok (.aload_n 0, 1) := by decide +kernel
theorem dX3_readNumber_79 : decode cX3_readNumber 79 = .ok (.getfield 19, 3) := by decide +kernel
theorem dX3_readNumber_82 : decode cX3_readNumber 82 = .ok (.invokevirtual 34, 3) := by decide +kernel
theorem dX3_readNumber_85 : decode cX3_readNumber 85 = .ok (.istore 6, 2) := by decide +kernel
theorem dX3_readNumber_87 : decode cX3_readNumber 87 = .ok (.aload_n 0, 1) := by decide +kernel
theorem dX3_readNumber_88 : decode cX3_readNumber 88 = .ok (.getfield 19, 3) := by decide +kernel
theorem dX3_readNumber_91 : decode cX3_readNumber 91 = .ok (.iload 4, 2) := by decide +kernel
theorem dX3_readNumber_93 : decode cX3_readNumber 93 = .ok (.if_icmp .eq 11, 3) := by decide +kernel
theorem dX3_readNumber_96 : decode cX3_readNumber 96 = .ok (.iload 6, 2) := by decide +kernel
theorem dX3_readNumber_98 : decode cX3_readNumber 98 = .ok (.invokestatic 59, 3) := by decide +kernel
theorem dX3_readNumber_101 : decode cX3_readNumber 101 = .ok (.ifCond .eq 14, 3) := by decide +kernel
theorem dX3_readNumber_104 : decode cX3_readNumber 104 = .ok (.aload_n 0, 1) := by decide +kernel
theorem dX3_readNumber_105 : decode cX3_readNumber 105 = .ok (.aload_n 0, 1) := by decide +kernel
theorem dX3_readNumber_106 : decode cX3_readNumber 106 = .ok (.getfield 19, 3) := by decide +kernel
theorem dX3_readNumber_109 : decode cX3_readNumber 109 = .ok (.putfield 22, 3) := by decide +kernel
theorem dX3_readNumber_112 : decode cX3_readNumber 112 = .ok (.goto 49, 3) := by decide +kernel
theorem dX3_readNumber_115 : decode cX3_readNumber 115 = .ok (.iload 5, 2) := by decide +kernel
theorem dX3_readNumber_117 : decode cX3_readNumber 117 = .ok (.iload_n 1, 1) := by decide +kernel
theorem dX3_readNumber_118 : decode cX3_readNumber 118 = .ok (.iload_n 2, 1) := by decide +kernel
theorem dX3_readNumber_119 : decode cX3_readNumber 119 = .ok (.invokestatic 63, 3) := by decide +kernel
theorem dX3_readNumber_122 : decode cX3_readNumber 122 = .ok (.ifCond .ne 12, 3) := by decide +kernel
theorem dX3_readNumber_125 : decode cX3_readNumber 125 = .ok (.aload_n 0, 1) := by decide +kernel
theorem dX3_readNumber_126 : decode cX3_readNumber 126 = .ok (.iload 4, 2) := by decide +kernel
theorem dX3_readNumber_128 : decode cX3_readNumber 128 = .ok (.putfield 22, 3) := by decide +kernel
theorem dX3_readNumber_131 : decode cX3_readNumber 131 = .ok (.goto 30, 3) := by decide +kernel
theorem dX3_readNumber_134 : decode cX3_readNumber 134 = .ok (.iload 6, 2) := by decide +kernel
theorem dX3_readNumber_136 : decode cX3_readNumber 136 = .ok (.iload_n 3, 1) := by decide +kernel
theorem dX3_readNumber_137 : decode cX3_readNumber 137 = .ok (.if_icmp .eq 14, 3) := by decide +kernel
theorem dX3_readNumber_140 : decode cX3_readNumber 140 = .ok (.aload_n 0, 1) := by decide +kernel
theorem dX3_readNumber_141 : decode cX3_readNumber 141 = .ok (.aload_n 0, 1) := by decide +kernel
theorem dX3_readNumber_142 : decode cX3_readNumber 142 = .ok (.getfield 19, 3) := by decide +kernel
theorem dX3_readNumber_145 : decode cX3_readNumber 145 = .ok (.putfield 22, 3) := by decide +kernel
theorem dX3_readNumber_148 : decode cX3_readNumber 148 = .ok (.goto 13, 3) := by decide +kernel
theorem dX3_readNumber_151 : decode cX3_readNumber 151 = .ok (.aload_n 0, 1) := by decide +kernel
theorem dX3_readNumber_152 : decode cX3_readNumber 152 = .ok (.dup, 1) := by decide +kernel
theorem dX3_readNumber_153 : decode cX3_readNumber 153 = .ok (.getfield 19, 3) := by decide +kernel
theorem dX3_readNumber_156 : decode cX3_readNumber 156 = .ok (.iconst 1, 1) := by decide +kernel
theorem dX3_readNumber_157 : decode cX3_readNumber 157 = .ok (.iadd, 1) := by decide +kernel
theorem dX3_readNumber_158 : decode cX3_readNumber 158 = .ok (.putfield 19, 3) := by decide +kernel
theorem dX3_readNumber_161 : decode cX3_readNumber 161 = .ok (.iload 5, 2) := by decide +kernel
theorem dX3_readNumber_163 : decode cX3_readNumber 163 = .ok (.ireturn, 1) := by decide +kernel
theorem dX3_byteAt_0 : decode cX3_byteAt 0 = .ok (.iload_n 1, 1) := by decide +kernel
theorem dX3_byteAt_1 : decode cX3_byteAt 1 = .ok (.ifCond .lt 11, 3) := by decide +kernel
theorem dX3_byteAt_4 : decode cX3_byteAt 4 = .ok (.iload_n 1, 1) := by decide +kernel
theorem dX3_byteAt_5 : decode cX3_byteAt 5 = .ok (.aload_n 0, 1) := by decide +kernel
theorem dX3_byteAt_6 : decode cX3_byteAt 6 = .ok (.getfield 15, 3) := by decide +kernel
theorem dX3_byteAt_9 : decode cX3_byteAt 9 = .ok (.if_icmp .lt 7, 3) := by decide +kernel
theorem dX3_byteAt_12 : decode cX3_byteAt 12 = .ok (.iconst (-1), 1) := by decide +kernel
theorem dX3_byteAt_13 : decode cX3_byteAt 13 = .ok (.goto 9, 3) := by decide +kernel
theorem dX3_byteAt_16 : decode cX3_byteAt 16 = .ok (.aload_n 0, 1) := by decide +kernel
theorem dX3_byteAt_17 : decode cX3_byteAt 17 = .ok (.getfield 9, 3) := by decide +kernel
theorem dX3_byteAt_20 : decode cX3_byteAt 20 = .ok (.iload_n 1, 1) := by decide +kernel
theorem dX3_byteAt_21 : decode cX3_byteAt 21 = .ok (.iaload, 1) := by decide +kernel
theorem dX3_byteAt_22 : decode cX3_byteAt 22 = .ok (.ireturn, 1) := by decide +kernel
set_option maxRecDepth 20000 in
theorem ggX3_isDigit_X5_isIn : GoodIn wsX3_isDigit wsX5_isIn := goodIn_r _ [3] (by decide +kernel) (by decide +kernel)
set_option maxRecDepth 20000 in
theorem gX3_isDigit_X5_isIn_n63 : GoodIn wsX3_isDigit (wsX5_isIn) := ggX3_isDigit_X5_isIn
theorem dX3_isDigit_0 : decode cX3_isDigit 0 = .ok (.iload_n 0, 1) := by decide +kernel
theorem dX3_isDigit_1 : decode cX3_isDigit 1 = .ok (.bipush 48, 2) := by decide +kernel
theorem dX3_isDigit_3 : decode cX3_isDigit 3 = .ok (.bipush 57, 2) := by decide +kernel
theorem dX3_isDigit_5 : decode cX3_isDigit 5 = .ok (.invokestatic 63, 3) := by decide +kernel
theorem dX3_isDigit_8 : decode cX3_isDigit 8 = .ok (.ireturn, 1) := by decide +kernel
theorem dX4_init_0 : decode cX4_init 0 = .ok (.aload_n 0, 1) := by decide +kernel
theorem dX4_init_1 : decode cX4_init 1 = .ok (.invokespecial 3, 3) := by decide +kernel
theorem dX4_init_4 : decode cX4_init 4 = .ok (.aload_n 0, 1) := by decide +kernel
theorem dX4_init_5 : decode cX4_init 5 = .ok (.bipush 40, 2) := by decide +kernel
theorem dX4_init_7 : decode cX4_init 7 = .ok (.newarray .int, 2) := by decide +kernel
theorem dX4_init_9 : decode cX4_init 9 = .ok (.putfield 9, 3) := by decide +kernel
theorem dX4_init_12 : decode cX4_init 12 = .ok (.aload_n 0, 1) := by decide +kernel
theorem dX4_init_13 : decode cX4_init 13 = .ok (.bipush 40, 2) := by decide +kernel
theorem dX4_init_15 : decode cX4_init 15 = .ok (.newarray .int, 2) := by decide +kernel
theorem dX4_init_17 : decode cX4_init 17 = .ok (.putfield 15, 3) := by decide +kernel
theorem dX4_init_20 : decode cX4_init 20 = .ok (.aload_n 0, 1) := by decide +kernel
theorem dX4_init_21 : decode cX4_init 21 = .ok (.bipush 40, 2) := by decide +kernel
theorem dX4_init_23 : decode cX4_init 23 = .ok (.newarray .int, 2) := by decide +kernel
theorem dX4_init_25 : decode cX4_init 25 = .ok (.putfield 18, 3) := by decide +kernel
theorem dX4_init_28 : decode cX4_init 28 = .ok (.return_, 1) := by decide +kernel
theorem dX4_copy_0 : decode cX4_copy 0 = .ok (.aload_n 0, 1) := by decide +kernel
theorem dX4_copy_1 : decode cX4_copy 1 = .ok (.getfield 21, 3) := by decide +kernel
theorem dX4_copy_4 : decode cX4_copy 4 = .ok (.istore_n 2, 1) := by decide +kernel
theorem dX4_copy_5 : decode cX4_copy 5 = .ok (.aload_n 0, 1) := by decide +kernel
theorem dX4_copy_6 : decode cX4_copy 6 = .ok (.getfield 9, 3) := by decide +kernel
theorem dX4_copy_9 : decode cX4_copy 9 = .ok (.iconst 0, 1) := by decide +kernel
theorem dX4_copy_10 : decode cX4_copy 10 = .ok (.aload_n 1, 1) := by decide +kernel
theorem dX4_copy_11 : decode cX4_copy 11 = .ok (.getfield 9, 3) := by decide +kernel
theorem dX4_copy_14 : decode cX4_copy 14 = .ok (.iconst 0, 1) := by decide +kernel
theorem dX4_copy_15 : decode cX4_copy 15 = .ok (.iload_n 2, 1) := by decide +kernel
theorem dX4_copy_16 : decode cX4_copy 16 = .ok (.invokestatic 25, 3) := by decide +kernel
theorem dX4_copy_19 : decode cX4_copy 19 = .ok (.aload_n 0, 1) := by decide +kernel
theorem dX4_copy_20 : decode cX4_copy 20 = .ok (.getfield 15, 3) := by decide +kernel
theorem dX4_copy_23 : decode cX4_copy 23 = .ok (.iconst 0, 1) := by decide +kernel
theorem dX4_copy_24 : decode cX4_copy 24 = .ok (.aload_n 1, 1) := by decide +kernel
theorem dX4_copy_25 : decode cX4_copy 25 = .ok (.getfield 15, 3) := by decide +kernel
theorem dX4_copy_28 : decode cX4_copy 28 = .ok (.iconst 0, 1) := by decide +kernel
theorem dX4_copy_29 : decode cX4_copy 29 = .ok (.iload_n 2, 1) := by decide +kernel
theorem dX4_copy_30 : decode cX4_copy 30 = .ok (.invokestatic 25, 3) := by decide +kernel
theorem dX4_copy_33 : decode cX4_copy 33 = .ok (.aload_n 0, 1) := by decide +kernel
theorem dX4_copy_34 : decode cX4_copy 34 = .ok (.getfield 18, 3) := by decide +kernel
theorem dX4_copy_37 : decode cX4_copy 37 = .ok (.iconst 0, 1) := by decide +kernel
theorem dX4_copy_38 : decode cX4_copy 38 = .ok (.aload_n 1, 1) := by decide +kernel
theorem dX4_copy_39 : decode cX4_copy 39 = .ok (.getfield 18, 3) := by decide +kernel
theorem dX4_copy_42 : decode cX4_copy 42 = .ok (.iconst 0, 1) := by decide +kernel
theorem dX4_copy_43 : decode cX4_copy 43 = .ok (.iload_n 2, 1) := by decide +kernel
theorem dX4_copy_44 : decode cX4_copy 44 = .ok (.invokestatic 25, 3) := by decide +kernel
theorem dX4_copy_47 : decode cX4_copy 47 = .ok (.aload_n 1, 1) := by decide +kernel
theorem dX4_copy_48 : decode cX4_copy 48 = .ok (.iload_n 2, 1) := by decide +kernel
theorem dX4_copy_49 : decode cX4_copy 49 = .ok (.putfield 21, 3) := by decide +kernel
theorem dX4_copy_52 : decode cX4_copy 52 = .ok (.return_, 1) := by decide +kernel
theorem dX4_plan_0 : decode cX4_plan 0 = .ok (.aload_n 0, 1) := by decide +kernel
theorem dX4_plan_1 : decode cX4_plan 1 = .ok (.getfield 21, 3) := by decide +kernel
theorem dX4_plan_4 : decode cX4_plan 4 = .ok (.bipush 40, 2) := by decide +kernel
theorem dX4_plan_6 : decode cX4_plan 6 = .ok (.if_icmp .ge 43, 3) := by decide +kernel
theorem dX4_plan_9 : decode cX4_plan 9 = .ok (.aload_n 0, 1) := by decide +kernel
theorem dX4_plan_10 : decode cX4_plan 10 = .ok (.getfield 9, 3) := by decide +kernel
theorem dX4_plan_13 : decode cX4_plan 13 = .ok (.aload_n 0, 1) := by decide +kernel
theorem dX4_plan_14 : decode cX4_plan 14 = .ok (.getfield 21, 3) := by decide +kernel
theorem dX4_plan_17 : decode cX4_plan 17 = .ok (.iload_n 1, 1) := by decide +kernel
theorem dX4_plan_18 : decode cX4_plan 18 = .ok (.iastore, 1) := by decide +kernel
theorem dX4_plan_19 : decode cX4_plan 19 = .ok (.aload_n 0, 1) := by decide +kernel
theorem dX4_plan_20 : decode cX4_plan 20 = .ok (.getfield 15, 3) := by decide +kernel
theorem dX4_plan_23 : decode cX4_plan 23 = .ok (.aload_n 0, 1) := by decide +kernel
theorem dX4_plan_24 : decode cX4_plan 24 = .ok (.getfield 21, 3) := by decide +kernel
theorem dX4_plan_27 : decode cX4_plan 27 = .ok (.iload_n 2, 1) := by decide +kernel
theorem dX4_plan_28 : decode cX4_plan 28 = .ok (.iastore, 1) := by decide +kernel
theorem dX4_plan_29 : decode cX4_plan 29 = .ok (.aload_n 0, 1) := by decide +kernel
theorem dX4_plan_30 : decode cX4_plan 30 = .ok (.getfield 18, 3) := by decide +kernel
theorem dX4_plan_33 : decode cX4_plan 33 = .ok (.aload_n 0, 1) := by decide +kernel
theorem dX4_plan_34 : decode cX4_plan 34 = .ok (.getfield 21, 3) := by decide +kernel
theorem dX4_plan_37 : decode cX4_plan 37 = .ok (.iload_n 3, 1) := by decide +kernel
theorem dX4_plan_38 : decode cX4_plan 38 = .ok (.iastore, 1) := by decide +kernel
theorem dX4_plan_39 : decode cX4_plan 39 = .ok (.aload_n 0, 1) := by decide +kernel
theorem dX4_plan_40 : decode cX4_plan 40 = .ok (.dup, 1) := by decide +kernel
theorem dX4_plan_41 : decode cX4_plan 41 = .ok (.getfield 21, 3) := by decide +kernel
theorem dX4_plan_44 : decode cX4_plan 44 = .ok (.iconst 1, 1) := by decide +kernel
theorem dX4_plan_45 : decode cX4_plan 45 = .ok (.iadd, 1) := by decide +kernel
theorem dX4_plan_46 : decode cX4_plan 46 = .ok (.putfield 21, 3) := by decide +kernel
theorem dX4_plan_49 : decode cX4_plan 49 = .ok (.return_, 1) := by decide +kernel
set_option maxRecDepth 20000 in
theorem ggX4_dropAfter_X4_plan : GoodIn wsX4_dropAfter wsX4_plan := goodIn_r _ [9, 1, 3, 2, 4, 10, 11, 12, 13, 14] (by decide +kernel) (by decide +kernel)
set_option maxRecDepth 20000 in
theorem gX4_dropAfter_X4_plan : GoodIn wsX4_dropAfter (wsV RX4 31 RX4 yX4_plan wsX4_plan) := goodIn_app (goodIn_of _ (by decide +kernel)) ggX4_dropAfter_X4_plan
theorem dX4_dropAfter_0 : decode cX4_dropAfter 0 = .ok (.aload_n 0, 1) := by decide +kernel
theorem dX4_dropAfter_1 : decode cX4_dropAfter 1 = .ok (.getfield 21, 3) := by decide +kernel
theorem dX4_dropAfter_4 : decode cX4_dropAfter 4 = .ok (.istore_n 2, 1) := by decide +kernel
theorem dX4_dropAfter_5 : decode cX4_dropAfter 5 = .ok (.aload_n 0, 1) := by decide +kernel
theorem dX4_dropAfter_6 : decode cX4_dropAfter 6 = .ok (.iconst 0, 1) := by decide +kernel
theorem dX4_dropAfter_7 : decode cX4_dropAfter 7 = .ok (.putfield 21, 3) := by decide +kernel
theorem dX4_dropAfter_10 : decode cX4_dropAfter 10 = .ok (.iconst 0, 1) := by decide +kernel
theorem dX4_dropAfter_11 : decode cX4_dropAfter 11 = .ok (.istore_n 3, 1) := by decide +kernel
theorem dX4_dropAfter_12 : decode cX4_dropAfter 12 = .ok (.iload_n 3, 1) := by decide +kernel
theorem dX4_dropAfter_13 : decode cX4_dropAfter 13 = .ok (.iload_n 2, 1) := by decide +kernel
theorem dX4_dropAfter_14 : decode cX4_dropAfter 14 = .ok (.if_icmp .ge 41, 3) := by decide +kernel
theorem dX4_dropAfter_17 : decode cX4_dropAfter 17 = .ok (.aload_n 0, 1) := by decide +kernel
theorem dX4_dropAfter_18 : decode cX4_dropAfter 18 = .ok (.getfield 15, 3) := by decide +kernel
theorem dX4_dropAfter_21 : decode cX4_dropAfter 21 = .ok (.iload_n 3, 1) := by decide +kernel
theorem dX4_dropAfter_22 : decode cX4_dropAfter 22 = .ok (.iaload, 1) := by decide +kernel
theorem dX4_dropAfter_23 : decode cX4_dropAfter 23 = .ok (.iload_n 1, 1) := by decide +kernel
theorem dX4_dropAfter_24 : decode cX4_dropAfter 24 = .ok (.if_icmp .gt 25, 3) := by decide +kernel
theorem dX4_dropAfter_27 : decode cX4_dropAfter 27 = .ok (.aload_n 0, 1) := by decide +kernel
theorem dX4_dropAfter_28 : decode cX4_dropAfter 28 = .ok (.aload_n 0, 1) := by decide +kernel
theorem dX4_dropAfter_29 : decode cX4_dropAfter 29 = .ok (.getfield 9, 3) := by decide +kernel
theorem dX4_dropAfter_32 : decode cX4_dropAfter 32 = .ok (.iload_n 3, 1) := by decide +kernel
theorem dX4_dropAfter_33 : decode cX4_dropAfter 33 = .ok (.iaload, 1) := by decide +kernel
theorem dX4_dropAfter_34 : decode cX4_dropAfter 34 = .ok (.aload_n 0, 1) := by decide +kernel
theorem dX4_dropAfter_35 : decode cX4_dropAfter 35 = .ok (.getfield 15, 3) := by decide +kernel
theorem dX4_dropAfter_38 : decode cX4_dropAfter 38 = .ok (.iload_n 3, 1) := by decide +kernel
theorem dX4_dropAfter_39 : decode cX4_dropAfter 39 = .ok (.iaload, 1) := by decide +kernel
theorem dX4_dropAfter_40 : decode cX4_dropAfter 40 = .ok (.aload_n 0, 1) := by decide +kernel
theorem dX4_dropAfter_41 : decode cX4_dropAfter 41 = .ok (.getfield 18, 3) := by decide +kernel
theorem dX4_dropAfter_44 : decode cX4_dropAfter 44 = .ok (.iload_n 3, 1) := by decide +kernel
theorem dX4_dropAfter_45 : decode cX4_dropAfter 45 = .ok (.iaload, 1) := by decide +kernel
theorem dX4_dropAfter_46 : decode cX4_dropAfter 46 = .ok (.invokevirtual 31, 3) := by decide +kernel
theorem dX4_dropAfter_49 : decode cX4_dropAfter 49 = .ok (.iinc 3 1, 3) := by decide +kernel
theorem dX4_dropAfter_52 : decode cX4_dropAfter 52 = .ok (.goto (-40), 3) := by decide +kernel
theorem dX4_dropAfter_55 : decode cX4_dropAfter 55 = .ok (.iload_n 2, 1) := by decide +kernel
theorem dX4_dropAfter_56 : decode cX4_dropAfter 56 = .ok (.aload_n 0, 1) := by decide +kernel
theorem dX4_dropAfter_57 : decode cX4_dropAfter 57 = .ok (.getfield 21, 3) := by decide +kernel
theorem dX4_dropAfter_60 : decode cX4_dropAfter 60 = .ok (.isub, 1) := by decide +kernel
theorem dX4_dropAfter_61 : decode cX4_dropAfter 61 = .ok (.ireturn, 1) := by decide +kernel
theorem dX4_value_0 : decode cX4_value 0 = .ok (.iload_n 2, 1) := by decide +kernel
theorem dX4_value_1 : decode cX4_value 1 = .ok (.ifCond .ne 10, 3) := by decide +kernel
theorem dX4_value_4 : decode cX4_value 4 = .ok (.aload_n 0, 1) := by decide +kernel
theorem dX4_value_5 : decode cX4_value 5 = .ok (.getfield 9, 3) := by decide +kernel
theorem dX4_value_8 : decode cX4_value 8 = .ok (.iload_n 1, 1) := by decide +kernel
theorem dX4_value_9 : decode cX4_value 9 = .ok (.iaload, 1) := by decide +kernel
theorem dX4_value_10 : decode cX4_value 10 = .ok (.ireturn, 1) := by decide +kernel
theorem dX4_value_11 : decode cX4_value 11 = .ok (.iload_n 2, 1) := by decide +kernel
theorem dX4_value_12 : decode cX4_value 12 = .ok (.iconst 1, 1) := by decide +kernel
theorem dX4_value_13 : decode cX4_value 13 = .ok (.if_icmp .ne 12, 3) := by decide +kernel
theorem dX4_value_16 : decode cX4_value 16 = .ok (.aload_n 0, 1) := by decide +kernel
theorem dX4_value_17 : decode cX4_value 17 = .ok (.getfield 15, 3) := by decide +kernel
theorem dX4_value_20 : decode cX4_value 20 = .ok (.iload_n 1, 1) := by decide +kernel
theorem dX4_value_21 : decode cX4_value 21 = .ok (.iaload, 1) := by decide +kernel
theorem dX4_value_22 : decode cX4_value 22 = .ok (.goto 9, 3) := by decide +kernel
theorem dX4_value_25 : decode cX4_value 25 = .ok (.aload_n 0, 1) := by decide +kernel
theorem dX4_value_26 : decode cX4_value 26 = .ok (.getfield 18, 3) := by decide +kernel
theorem dX4_value_29 : decode cX4_value 29 = .ok (.iload_n 1, 1) := by decide +kernel
theorem dX4_value_30 : decode cX4_value 30 = .ok (.iaload, 1) := by decide +kernel
theorem dX4_value_31 : decode cX4_value 31 = .ok (.ireturn, 1) := by decide +kernel
theorem dX4_lookAt_0 : decode cX4_lookAt 0 = .ok (.ldc 37, 2) := by decide +kernel
theorem dX4_lookAt_2 : decode cX4_lookAt 2 = .ok (.istore_n 2, 1) := by decide +kernel
theorem dX4_lookAt_3 : decode cX4_lookAt 3 = .ok (.aload_n 0, 1) := by decide +kernel
theorem dX4_lookAt_4 : decode cX4_lookAt 4 = .ok (.iconst 0, 1) := by decide +kernel
theorem dX4_lookAt_5 : decode cX4_lookAt 5 = .ok (.putfield 38, 3) := by decide +kernel
theorem dX4_lookAt_8 : decode cX4_lookAt 8 = .ok (.iconst 0, 1) := by decide +kernel
theorem dX4_lookAt_9 : decode cX4_lookAt 9 = .ok (.istore_n 3, 1) := by decide +kernel
theorem dX4_lookAt_10 : decode cX4_lookAt 10 = .ok (.iload_n 3, 1) := by decide +kernel
theorem dX4_lookAt_11 : decode cX4_lookAt 11 = .ok (.aload_n 0, 1) := by decide +kernel
theorem dX4_lookAt_12 : decode cX4_lookAt 12 = .ok (.getfield 21, 3) := by decide +kernel
theorem dX4_lookAt_15 : decode cX4_lookAt 15 = .ok (.if_icmp .ge 74, 3) := by decide +kernel
theorem dX4_lookAt_18 : decode cX4_lookAt 18 = .ok (.aload_n 0, 1) := by decide +kernel
theorem dX4_lookAt_19 : decode cX4_lookAt 19 = .ok (.getfield 15, 3) := by decide +kernel
theorem dX4_lookAt_22 : decode cX4_lookAt 22 = .ok (.iload_n 3, 1) := by decide +kernel
theorem dX4_lookAt_23 : decode cX4_lookAt 23 = .ok (.iaload, 1) := by decide +kernel
theorem dX4_lookAt_24 : decode cX4_lookAt 24 = .ok (.istore 4, 2) := by decide +kernel
theorem dX4_lookAt_26 : decode cX4_lookAt 26 = .ok (.iload 4, 2) := by decide +kernel
theorem dX4_lookAt_28 : decode cX4_lookAt 28 = .ok (.aload_n 0, 1) := by decide +kernel
theorem dX4_lookAt_29 : decode cX4_lookAt 29 = .ok (.getfield 18, 3) := by decide +kernel
theorem dX4_lookAt_32 : decode cX4_lookAt 32 = .ok (.iload_n 3, 1) := by decide +kernel
theorem dX4_lookAt_33 : decode cX4_lookAt 33 = .ok (.iaload, 1) := by decide +kernel
theorem dX4_lookAt_34 : decode cX4_lookAt 34 = .ok (.iadd, 1) := by decide +kernel
theorem dX4_lookAt_35 : decode cX4_lookAt 35 = .ok (.istore 5, 2) := by decide +kernel
theorem dX4_lookAt_37 : decode cX4_lookAt 37 = .ok (.iload 4, 2) := by decide +kernel
theorem dX4_lookAt_39 : decode cX4_lookAt 39 = .ok (.iload_n 1, 1) := by decide +kernel
theorem dX4_lookAt_40 : decode cX4_lookAt 40 = .ok (.if_icmp .le 13, 3) := by decide +kernel
theorem dX4_lookAt_43 : decode cX4_lookAt 43 = .ok (.iload_n 2, 1) := by decide +kernel
theorem dX4_lookAt_44 : decode cX4_lookAt 44 = .ok (.iload 4, 2) := by decide +kernel
theorem dX4_lookAt_46 : decode cX4_lookAt 46 = .ok (.invokestatic 41, 3) := by decide +kernel
theorem dX4_lookAt_49 : decode cX4_lookAt 49 = .ok (.istore_n 2, 1) := by decide +kernel
theorem dX4_lookAt_50 : decode cX4_lookAt 50 = .ok (.goto 33, 3) := by decide +kernel
theorem dX4_lookAt_53 : decode cX4_lookAt 53 = .ok (.iload 5, 2) := by decide +kernel
theorem dX4_lookAt_55 : decode cX4_lookAt 55 = .ok (.iload_n 1, 1) := by decide +kernel
theorem dX4_lookAt_56 : decode cX4_lookAt 56 = .ok (.if_icmp .le 27, 3) := by decide +kernel
theorem dX4_lookAt_59 : decode cX4_lookAt 59 = .ok (.aload_n 0, 1) := by decide +kernel
theorem dX4_lookAt_60 : decode cX4_lookAt 60 = .ok (.dup, 1) := by decide +kernel
theorem dX4_lookAt_61 : decode cX4_lookAt 61 = .ok (.getfield 38, 3) := by decide +kernel
theorem dX4_lookAt_64 : decode cX4_lookAt 64 = .ok (.iconst 1, 1) := by decide +kernel
theorem dX4_lookAt_65 : decode cX4_lookAt 65 = .ok (.aload_n 0, 1) := by decide +kernel
theorem dX4_lookAt_66 : decode cX4_lookAt 66 = .ok (.getfield 9, 3) := by decide +kernel
theorem dX4_lookAt_69 : decode cX4_lookAt 69 = .ok (.iload_n 3, 1) := by decide +kernel
theorem dX4_lookAt_70 : decode cX4_lookAt 70 = .ok (.iaload, 1) := by decide +kernel
theorem dX4_lookAt_71 : decode cX4_lookAt 71 = .ok (.ishl, 1) := by decide +kernel
theorem dX4_lookAt_72 : decode cX4_lookAt 72 = .ok (.ior, 1) := by decide +kernel
theorem dX4_lookAt_73 : decode cX4_lookAt 73 = .ok (.putfield 38, 3) := by decide +kernel
theorem dX4_lookAt_76 : decode cX4_lookAt 76 = .ok (.iload_n 2, 1) := by decide +kernel
theorem dX4_lookAt_77 : decode cX4_lookAt 77 = .ok (.iload 5, 2) := by decide +kernel
theorem dX4_lookAt_79 : decode cX4_lookAt 79 = .ok (.invokestatic 41, 3) := by decide +kernel
theorem dX4_lookAt_82 : decode cX4_lookAt 82 = .ok (.istore_n 2, 1) := by decide +kernel
theorem dX4_lookAt_83 : decode cX4_lookAt 83 = .ok (.iinc 3 1, 3) := by decide +kernel
theorem dX4_lookAt_86 : decode cX4_lookAt 86 = .ok (.goto (-76), 3) := by decide +kernel
theorem dX4_lookAt_89 : decode cX4_lookAt 89 = .ok (.iload_n 2, 1) := by decide +kernel
theorem dX4_lookAt_90 : decode cX4_lookAt 90 = .ok (.ireturn, 1) := by decide +kernel
theorem dX4_isDown_0 : decode cX4_isDown 0 = .ok (.aload_n 0, 1) := by decide +kernel
theorem dX4_isDown_1 : decode cX4_isDown 1 = .ok (.getfield 38, 3) := by decide +kernel
theorem dX4_isDown_4 : decode cX4_isDown 4 = .ok (.iload_n 1, 1) := by decide +kernel
theorem dX4_isDown_5 : decode cX4_isDown 5 = .ok (.ishr, 1) := by decide +kernel
theorem dX4_isDown_6 : decode cX4_isDown 6 = .ok (.iconst 1, 1) := by decide +kernel
theorem dX4_isDown_7 : decode cX4_isDown 7 = .ok (.iand, 1) := by decide +kernel
theorem dX4_isDown_8 : decode cX4_isDown 8 = .ok (.iconst 1, 1) := by decide +kernel
theorem dX4_isDown_9 : decode cX4_isDown 9 = .ok (.if_icmp .ne 7, 3) := by decide +kernel
theorem dX4_isDown_12 : decode cX4_isDown 12 = .ok (.iconst 1, 1) := by decide +kernel
theorem dX4_isDown_13 : decode cX4_isDown 13 = .ok (.goto 4, 3) := by decide +kernel
theorem dX4_isDown_16 : decode cX4_isDown 16 = .ok (.iconst 0, 1) := by decide +kernel
theorem dX4_isDown_17 : decode cX4_isDown 17 = .ok (.ireturn, 1) := by decide +kernel
set_option maxRecDepth 20000 in
theorem ggX4_mixInto_X4_value : GoodIn wsX4_mixInto wsX4_value := goodIn_r _ [7, 8, 9, 10, 11, 12, 13, 14, 15] (by decide +kernel) (by decide +kernel)
set_option maxRecDepth 20000 in
theorem gX4_mixInto_X4_value : GoodIn wsX4_mixInto (wsV RX4 49 RX4 yX4_value wsX4_value) := goodIn_app (goodIn_of _ (by decide +kernel)) ggX4_mixInto_X4_value
theorem dX4_mixInto_0 : decode cX4_mixInto 0 = .ok (.ldc2_w 47, 3) := by decide +kernel
theorem dX4_mixInto_3 : decode cX4_mixInto 3 = .ok (.lload_n 1, 1) := by decide +kernel
theorem dX4_mixInto_4 : decode cX4_mixInto 4 = .ok (.lmul, 1) := by decide +kernel
theorem dX4_mixInto_5 : decode cX4_mixInto 5 = .ok (.aload_n 0, 1) := by decide +kernel
theorem dX4_mixInto_6 : decode cX4_mixInto 6 = .ok (.getfield 21, 3) := by decide +kernel
theorem dX4_mixInto_9 : decode cX4_mixInto 9 = .ok (.i2l, 1) := by decide +kernel
theorem dX4_mixInto_10 : decode cX4_mixInto 10 = .ok (.ladd, 1) := by decide +kernel
theorem dX4_mixInto_11 : decode cX4_mixInto 11 = .ok (.lstore_n 3, 1) := by decide +kernel
theorem dX4_mixInto_12 : decode cX4_mixInto 12 = .ok (.iconst 0, 1) := by decide +kernel
theorem dX4_mixInto_13 : decode cX4_mixInto 13 = .ok (.istore 5, 2) := by decide +kernel
theorem dX4_mixInto_15 : decode cX4_mixInto 15 = .ok (.iload 5, 2) := by decide +kernel
theorem dX4_mixInto_17 : decode cX4_mixInto 17 = .ok (.aload_n 0, 1) := by decide +kernel
theorem dX4_mixInto_18 : decode cX4_mixInto 18 = .ok (.getfield 21, 3) := by decide +kernel
theorem dX4_mixInto_21 : decode cX4_mixInto 21 = .ok (.if_icmp .ge 40, 3) := by decide +kernel
theorem dX4_mixInto_24 : decode cX4_mixInto 24 = .ok (.iconst 0, 1) := by decide +kernel
theorem dX4_mixInto_25 : decode cX4_mixInto 25 = .ok (.istore 6, 2) := by decide +kernel
theorem dX4_mixInto_27 : decode cX4_mixInto 27 = .ok (.iload 6, 2) := by decide +kernel
theorem dX4_mixInto_29 : decode cX4_mixInto 29 = .ok (.iconst 3, 1) := by decide +kernel
theorem dX4_mixInto_30 : decode cX4_mixInto 30 = .ok (.if_icmp .ge 25, 3) := by decide +kernel
theorem dX4_mixInto_33 : decode cX4_mixInto 33 = .ok (.ldc2_w 47, 3) := by decide +kernel
theorem dX4_mixInto_36 : decode cX4_mixInto 36 = .ok (.lload_n 3, 1) := by decide +kernel
theorem dX4_mixInto_37 : decode cX4_mixInto 37 = .ok (.lmul, 1) := by decide +kernel
theorem dX4_mixInto_38 : decode cX4_mixInto 38 = .ok (.aload_n 0, 1) := by decide +kernel
theorem dX4_mixInto_39 : decode cX4_mixInto 39 = .ok (.iload 5, 2) := by decide +kernel
theorem dX4_mixInto_41 : decode cX4_mixInto 41 = .ok (.iload 6, 2) := by decide +kernel
theorem dX4_mixInto_43 : decode cX4_mixInto 43 = .ok (.invokevirtual 49, 3) := by decide +kernel
theorem dX4_mixInto_46 : decode cX4_mixInto 46 = .ok (.i2l, 1) := by decide +kernel
theorem dX4_mixInto_47 : decode cX4_mixInto 47 = .ok (.ladd, 1) := by decide +kernel
theorem dX4_mixInto_48 : decode cX4_mixInto 48 = .ok (.lstore_n 3, 1) := by decide +kernel
theorem dX4_mixInto_49 : decode cX4_mixInto 49 = .ok (.iinc 6 1, 3) := by decide +kernel
theorem dX4_mixInto_52 : decode cX4_mixInto 52 = .ok (.goto (-25), 3) := by decide +kernel
theorem dX4_mixInto_55 : decode cX4_mixInto 55 = .ok (.iinc 5 1, 3) := by decide +kernel
theorem dX4_mixInto_58 : decode cX4_mixInto 58 = .ok (.goto (-43), 3) := by decide +kernel
theorem dX4_mixInto_61 : decode cX4_mixInto 61 = .ok (.lload_n 3, 1) := by decide +kernel
theorem dX4_mixInto_62 : decode cX4_mixInto 62 = .ok (.lreturn, 1) := by decide +kernel
set_option maxRecDepth 20000 in
theorem ggX5_init_X2_init : GoodIn wsX5_init wsX2_init := goodIn_r _ [18, 19, 2, 3, 20, 21, 22, 23, 24, 25, 26, 27, 28, 29, 30, 31, 32, 43, 44, 45, 46, 58, 59, 60, 61, 62] (by decide +kernel) (by decide +kernel)
set_option maxRecDepth 20000 in
theorem gX5_init_X2_init_n9 : GoodIn wsX5_init (wsX2_init) := ggX5_init_X2_init
set_option maxRecDepth 20000 in
theorem ggX5_init_X1_init : GoodIn wsX5_init wsX1_init := goodIn_r _ [35, 36, 2, 3, 37, 38, 5, 6, 17, 18, 19, 20, 21, 22, 23, 24, 25, 26, 27, 28, 29, 30, 31, 32, 51, 52, 53, 43, 44, 45, 46, 58, 59, 60, 61, 62] (by decide +kernel) (by decide +kernel)
set_option maxRecDepth 20000 in
theorem gX5_init_X1_init : GoodIn wsX5_init (wsX1_init) := ggX5_init_X1_init
set_option maxRecDepth 20000 in
theorem ggX5_init_X3_init : GoodIn wsX5_init wsX3_init := goodIn_r _ [40, 41, 2, 3, 21, 42, 54, 55, 56, 57] (by decide +kernel) (by decide +kernel)
set_option maxRecDepth 20000 in
theorem gX5_init_X3_init_n28 : GoodIn wsX5_init (wsX3_init) := ggX5_init_X3_init
theorem dX5_init_0 : decode cX5_init 0 = .ok (.aload_n 0, 1) := by decide +kernel
theorem dX5_init_1 : decode cX5_init 1 = .ok (.invokespecial 1, 3) := by decide +kernel
theorem dX5_init_4 : decode cX5_init 4 = .ok (.aload_n 0, 1) := by decide +kernel
theorem dX5_init_5 : decode cX5_init 5 = .ok (.new 7, 3) := by decide +kernel
theorem dX5_init_8 : decode cX5_init 8 = .ok (.dup, 1) := by decide +kernel
theorem dX5_init_9 : decode cX5_init 9 = .ok (.invokespecial 9, 3) := by decide +kernel
theorem dX5_init_12 : decode cX5_init 12 = .ok (.putfield 10, 3) := by decide +kernel
theorem dX5_init_15 : decode cX5_init 15 = .ok (.aload_n 0, 1) := by decide +kernel
theorem dX5_init_16 : decode cX5_init 16 = .ok (.new 7, 3) := by decide +kernel
theorem dX5_init_19 : decode cX5_init 19 = .ok (.dup, 1) := by decide +kernel
theorem dX5_init_20 : decode cX5_init 20 = .ok (.invokespecial 9, 3) := by decide +kernel
theorem dX5_init_23 : decode cX5_init 23 = .ok (.putfield 16, 3) := by decide +kernel
theorem dX5_init_26 : decode cX5_init 26 = .ok (.aload_n 0, 1) := by decide +kernel
theorem dX5_init_27 : decode cX5_init 27 = .ok (.new 19, 3) := by decide +kernel
theorem dX5_init_30 : decode cX5_init 30 = .ok (.dup, 1) := by decide +kernel
theorem dX5_init_31 : decode cX5_init 31 = .ok (.invokespecial 21, 3) := by decide +kernel
theorem dX5_init_34 : decode cX5_init 34 = .ok (.putfield 22, 3) := by decide +kernel
theorem dX5_init_37 : decode cX5_init 37 = .ok (.aload_n 0, 1) := by decide +kernel
theorem dX5_init_38 : decode cX5_init 38 = .ok (.new 26, 3) := by decide +kernel
theorem dX5_init_41 : decode cX5_init 41 = .ok (.dup, 1) := by decide +kernel
theorem dX5_init_42 : decode cX5_init 42 = .ok (.invokespecial 28, 3) := by decide +kernel
theorem dX5_init_45 : decode cX5_init 45 = .ok (.putfield 29, 3) := by decide +kernel
theorem dX5_init_48 : decode cX5_init 48 = .ok (.return_, 1) := by decide +kernel
set_option maxRecDepth 20000 in
theorem ggX5_addMachine_X5_areCycles : GoodIn wsX5_addMachine wsX5_areCycles := goodIn_r _ [10, 11, 12, 9, 13] (by decide +kernel) (by decide +kernel)
set_option maxRecDepth 20000 in
theorem gX5_addMachine_X5_areCycles : GoodIn wsX5_addMachine (va_wsS RX5 33 yX5_areCycles wsX5_areCycles) := goodIn_app (goodIn_of _ (by decide +kernel)) ggX5_addMachine_X5_areCycles
set_option maxRecDepth 20000 in
theorem ggX5_addMachine_X5_isIn : GoodIn wsX5_addMachine wsX5_isIn := goodIn_r _ [13] (by decide +kernel) (by decide +kernel)
set_option maxRecDepth 20000 in
theorem gX5_addMachine_X5_isIn : GoodIn wsX5_addMachine (va_wsS RX5 37 yX5_isIn wsX5_isIn) := goodIn_app (goodIn_of _ (by decide +kernel)) ggX5_addMachine_X5_isIn
set_option maxRecDepth 20000 in
theorem ggX5_addMachine_X1_keep : GoodIn wsX5_addMachine wsX1_keep := goodIn_r _ [18, 19, 20, 21, 22, 23, 24, 25, 26, 27, 28, 29, 30, 31, 32, 33, 34, 35, 36, 37, 38, 39, 40, 41, 42, 58, 59, 60, 54, 55, 56, 57, 61, 62, 63, 64, 65] (by decide +kernel) (by decide +kernel)
set_option maxRecDepth 20000 in
theorem gX5_addMachine_X1_keep : GoodIn wsX5_addMachine (wsV RX5 60 RX1 yX1_keep wsX1_keep) := goodIn_app (goodIn_of _ (by decide +kernel)) ggX5_addMachine_X1_keep
set_option maxRecDepth 20000 in
theorem ggX5_addMachine_X2_join : GoodIn wsX5_addMachine wsX2_join := goodIn_r _ [46, 26, 27, 47, 48, 24, 49, 54, 55, 56, 57] (by decide +kernel) (by decide +kernel)
set_option maxRecDepth 20000 in
theorem gX5_addMachine_X2_join : GoodIn wsX5_addMachine (wsV RX5 64 RX2 yX2_join wsX2_join) := goodIn_app (goodIn_of _ (by decide +kernel)) ggX5_addMachine_X2_join
theorem dX5_addMachine_0 : decode cX5_addMachine 0 = .ok (.iload_n 1, 1) := by decide +kernel
theorem dX5_addMachine_1 : decode cX5_addMachine 1 = .ok (.iload_n 2, 1) := by decide +kernel
theorem dX5_addMachine_2 : decode cX5_addMachine 2 = .ok (.invokestatic 33, 3) := by decide +kernel
theorem dX5_addMachine_5 : decode cX5_addMachine 5 = .ok (.ifCond .eq 13, 3) := by decide +kernel
theorem dX5_addMachine_8 : decode cX5_addMachine 8 = .ok (.iload_n 3, 1) := by decide +kernel
theorem dX5_addMachine_9 : decode cX5_addMachine 9 = .ok (.iconst 0, 1) := by decide +kernel
theorem dX5_addMachine_10 : decode cX5_addMachine 10 = .ok (.bipush 40, 2) := by decide +kernel
theorem dX5_addMachine_12 : decode cX5_addMachine 12 = .ok (.invokestatic 37, 3) := by decide +kernel
theorem dX5_addMachine_15 : decode cX5_addMachine 15 = .ok (.ifCond .ne 13, 3) := by decide +kernel
theorem dX5_addMachine_18 : decode cX5_addMachine 18 = .ok (.new 41, 3) := by decide +kernel
theorem dX5_addMachine_21 : decode cX5_addMachine 21 = .ok (.dup, 1) := by decide +kernel
theorem dX5_addMachine_22 : decode cX5_addMachine 22 = .ok (.ldc 43, 2) := by decide +kernel
theorem dX5_addMachine_24 : decode cX5_addMachine 24 = .ok (.invokespecial 45, 3) := by decide +kernel
theorem dX5_addMachine_27 : decode cX5_addMachine 27 = .ok (.athrow, 1) := by decide +kernel
theorem dX5_addMachine_28 : decode cX5_addMachine 28 = .ok (.aload_n 0, 1) := by decide +kernel
theorem dX5_addMachine_29 : decode cX5_addMachine 29 = .ok (.getfield 10, 3) := by decide +kernel
theorem dX5_addMachine_32 : decode cX5_addMachine 32 = .ok (.getfield 48, 3) := by decide +kernel
theorem dX5_addMachine_35 : decode cX5_addMachine 35 = .ok (.bipush 8, 2) := by decide +kernel
theorem dX5_addMachine_37 : decode cX5_addMachine 37 = .ok (.if_icmp .ge 13, 3) := by decide +kernel
theorem dX5_addMachine_40 : decode cX5_addMachine 40 = .ok (.aload_n 0, 1) := by decide +kernel
theorem dX5_addMachine_41 : decode cX5_addMachine 41 = .ok (.getfield 10, 3) := by decide +kernel
theorem dX5_addMachine_44 : decode cX5_addMachine 44 = .ok (.getfield 52, 3) := by decide +kernel
theorem dX5_addMachine_47 : decode cX5_addMachine 47 = .ok (.ifCond .eq 13, 3) := by decide +kernel
theorem dX5_addMachine_50 : decode cX5_addMachine 50 = .ok (.new 55, 3) := by decide +kernel
theorem dX5_addMachine_53 : decode cX5_addMachine 53 = .ok (.dup, 1) := by decide +kernel
theorem dX5_addMachine_54 : decode cX5_addMachine 54 = .ok (.ldc 57, 2) := by decide +kernel
theorem dX5_addMachine_56 : decode cX5_addMachine 56 = .ok (.invokespecial 59, 3) := by decide +kernel
theorem dX5_addMachine_59 : decode cX5_addMachine 59 = .ok (.athrow, 1) := by decide +kernel
theorem dX5_addMachine_60 : decode cX5_addMachine 60 = .ok (.aload_n 0, 1) := by decide +kernel
theorem dX5_addMachine_61 : decode cX5_addMachine 61 = .ok (.getfield 22, 3) := by decide +kernel
theorem dX5_addMachine_64 : decode cX5_addMachine 64 = .ok (.aload_n 0, 1) := by decide +kernel
theorem dX5_addMachine_65 : decode cX5_addMachine 65 = .ok (.getfield 10, 3) := by decide +kernel
theorem dX5_addMachine_68 : decode cX5_addMachine 68 = .ok (.invokevirtual 60, 3) := by decide +kernel
theorem dX5_addMachine_71 : decode cX5_addMachine 71 = .ok (.aload_n 0, 1) := by decide +kernel
theorem dX5_addMachine_72 : decode cX5_addMachine 72 = .ok (.getfield 10, 3) := by decide +kernel
theorem dX5_addMachine_75 : decode cX5_addMachine 75 = .ok (.iload_n 1, 1) := by decide +kernel
theorem dX5_addMachine_76 : decode cX5_addMachine 76 = .ok (.iload_n 2, 1) := by decide +kernel
theorem dX5_addMachine_77 : decode cX5_addMachine 77 = .ok (.iload_n 3, 1) := by decide +kernel
theorem dX5_addMachine_78 : decode cX5_addMachine 78 = .ok (.invokevirtual 64, 3) := by decide +kernel
theorem dX5_addMachine_81 : decode cX5_addMachine 81 = .ok (.ireturn, 1) := by decide +kernel
set_option maxRecDepth 20000 in
theorem ggX5_setMachine_X5_needMachine : GoodIn wsX5_setMachine wsX5_needMachine := goodIn_ca (goodIn_r _ [9, 10, 11, 4, 51, 52, 53, 54, 55, 56, 57, 58] (by decide +kernel) (by decide +kernel)) (goodIn_sub (fun _ h => List.mem_cons_of_mem _ (List.mem_append_right _ h)) (by decide +kernel))
set_option maxRecDepth 20000 in
theorem gX5_setMachine_X5_needMachine : GoodIn wsX5_setMachine (wsV RX5 68 RX5 yX5_needMachine wsX5_needMachine) := goodIn_app (goodIn_of _ (by decide +kernel)) ggX5_setMachine_X5_needMachine
set_option maxRecDepth 20000 in
theorem ggX5_setMachine_X5_areCycles : GoodIn wsX5_setMachine wsX5_areCycles := goodIn_r _ [14, 15, 16, 8, 17] (by decide +kernel) (by decide +kernel)
set_option maxRecDepth 20000 in
theorem gX5_setMachine_X5_areCycles : GoodIn wsX5_setMachine (va_wsS RX5 33 yX5_areCycles wsX5_areCycles) := goodIn_app (goodIn_of _ (by decide +kernel)) ggX5_setMachine_X5_areCycles
set_option maxRecDepth 20000 in
theorem ggX5_setMachine_X5_isIn : GoodIn wsX5_setMachine wsX5_isIn := goodIn_r _ [17] (by decide +kernel) (by decide +kernel)
set_option maxRecDepth 20000 in
theorem gX5_setMachine_X5_isIn : GoodIn wsX5_setMachine (va_wsS RX5 37 yX5_isIn wsX5_isIn) := goodIn_app (goodIn_of _ (by decide +kernel)) ggX5_setMachine_X5_isIn
set_option maxRecDepth 20000 in
theorem ggX5_setMachine_X1_keep : GoodIn wsX5_setMachine wsX1_keep := goodIn_r _ [22, 23, 24, 25, 26, 27, 28, 29, 30, 31, 32, 33, 34, 35, 36, 37, 38, 39, 40, 41, 42, 43, 44, 45, 46, 59, 60, 61, 55, 56, 57, 58, 62, 63, 64, 65, 66] (by decide +kernel) (by decide +kernel)
set_option maxRecDepth 20000 in
theorem gX5_setMachine_X1_keep : GoodIn wsX5_setMachine (wsV RX5 60 RX1 yX1_keep wsX1_keep) := goodIn_app (goodIn_of _ (by decide +kernel)) ggX5_setMachine_X1_keep
set_option maxRecDepth 20000 in
theorem ggX5_setMachine_X2_mark : GoodIn wsX5_setMachine wsX2_mark := goodIn_r _ [50, 30, 31, 55, 56, 57, 58] (by decide +kernel) (by decide +kernel)
set_option maxRecDepth 20000 in
theorem gX5_setMachine_X2_mark : GoodIn wsX5_setMachine (wsV RX5 78 RX2 yX2_mark wsX2_mark) := goodIn_app (goodIn_of _ (by decide +kernel)) ggX5_setMachine_X2_mark
theorem dX5_setMachine_0 : decode cX5_setMachine 0 = .ok (.aload_n 0, 1) := by decide +kernel
theorem dX5_setMachine_1 : decode cX5_setMachine 1 = .ok (.iload_n 1, 1) := by decide +kernel
theorem dX5_setMachine_2 : decode cX5_setMachine 2 = .ok (.invokevirtual 68, 3) := by decide +kernel
theorem dX5_setMachine_5 : decode cX5_setMachine 5 = .ok (.iload_n 2, 1) := by decide +kernel
theorem dX5_setMachine_6 : decode cX5_setMachine 6 = .ok (.iload_n 3, 1) := by decide +kernel
theorem dX5_setMachine_7 : decode cX5_setMachine 7 = .ok (.invokestatic 33, 3) := by decide +kernel
theorem dX5_setMachine_10 : decode cX5_setMachine 10 = .ok (.ifCond .eq 25, 3) := by decide +kernel
theorem dX5_setMachine_13 : decode cX5_setMachine 13 = .ok (.iload 5, 2) := by decide +kernel
theorem dX5_setMachine_15 : decode cX5_setMachine 15 = .ok (.iconst 0, 1) := by decide +kernel
theorem dX5_setMachine_16 : decode cX5_setMachine 16 = .ok (.bipush 40, 2) := by decide +kernel
theorem dX5_setMachine_18 : decode cX5_setMachine 18 = .ok (.invokestatic 37, 3) := by decide +kernel
theorem dX5_setMachine_21 : decode cX5_setMachine 21 = .ok (.ifCond .eq 14, 3) := by decide +kernel
theorem dX5_setMachine_24 : decode cX5_setMachine 24 = .ok (.iload 4, 2) := by decide +kernel
theorem dX5_setMachine_26 : decode cX5_setMachine 26 = .ok (.iconst 0, 1) := by decide +kernel
theorem dX5_setMachine_27 : decode cX5_setMachine 27 = .ok (.iload 5, 2) := by decide +kernel
theorem dX5_setMachine_29 : decode cX5_setMachine 29 = .ok (.invokestatic 37, 3) := by decide +kernel
theorem dX5_setMachine_32 : decode cX5_setMachine 32 = .ok (.ifCond .ne 13, 3) := by decide +kernel
theorem dX5_setMachine_35 : decode cX5_setMachine 35 = .ok (.new 41, 3) := by decide +kernel
theorem dX5_setMachine_38 : decode cX5_setMachine 38 = .ok (.dup, 1) := by decide +kernel
theorem dX5_setMachine_39 : decode cX5_setMachine 39 = .ok (.ldc 72, 2) := by decide +kernel
theorem dX5_setMachine_41 : decode cX5_setMachine 41 = .ok (.invokespecial 45, 3) := by decide +kernel
theorem dX5_setMachine_44 : decode cX5_setMachine 44 = .ok (.athrow, 1) := by decide +kernel
theorem dX5_setMachine_45 : decode cX5_setMachine 45 = .ok (.aload_n 0, 1) := by decide +kernel
theorem dX5_setMachine_46 : decode cX5_setMachine 46 = .ok (.getfield 22, 3) := by decide +kernel
theorem dX5_setMachine_49 : decode cX5_setMachine 49 = .ok (.aload_n 0, 1) := by decide +kernel
theorem dX5_setMachine_50 : decode cX5_setMachine 50 = .ok (.getfield 10, 3) := by decide +kernel
theorem dX5_setMachine_53 : decode cX5_setMachine 53 = .ok (.invokevirtual 60, 3) := by decide +kernel
theorem dX5_setMachine_56 : decode cX5_setMachine 56 = .ok (.aload_n 0, 1) := by decide +kernel
theorem dX5_setMachine_57 : decode cX5_setMachine 57 = .ok (.getfield 10, 3) := by decide +kernel
theorem dX5_setMachine_60 : decode cX5_setMachine 60 = .ok (.getfield 74, 3) := by decide +kernel
theorem dX5_setMachine_63 : decode cX5_setMachine 63 = .ok (.iload_n 1, 1) := by decide +kernel
theorem dX5_setMachine_64 : decode cX5_setMachine 64 = .ok (.aaload, 1) := by decide +kernel
theorem dX5_setMachine_65 : decode cX5_setMachine 65 = .ok (.iconst 1, 1) := by decide +kernel
theorem dX5_setMachine_66 : decode cX5_setMachine 66 = .ok (.iaload, 1) := by decide +kernel
theorem dX5_setMachine_67 : decode cX5_setMachine 67 = .ok (.istore 6, 2) := by decide +kernel
theorem dX5_setMachine_69 : decode cX5_setMachine 69 = .ok (.aload_n 0, 1) := by decide +kernel
theorem dX5_setMachine_70 : decode cX5_setMachine 70 = .ok (.getfield 10, 3) := by decide +kernel
theorem dX5_setMachine_73 : decode cX5_setMachine 73 = .ok (.getfield 74, 3) := by decide +kernel
theorem dX5_setMachine_76 : decode cX5_setMachine 76 = .ok (.iload_n 1, 1) := by decide +kernel
theorem dX5_setMachine_77 : decode cX5_setMachine 77 = .ok (.aaload, 1) := by decide +kernel
theorem dX5_setMachine_78 : decode cX5_setMachine 78 = .ok (.iconst 0, 1) := by decide +kernel
theorem dX5_setMachine_79 : decode cX5_setMachine 79 = .ok (.iload_n 2, 1) := by decide +kernel
theorem dX5_setMachine_80 : decode cX5_setMachine 80 = .ok (.iastore, 1) := by decide +kernel
theorem dX5_setMachine_81 : decode cX5_setMachine 81 = .ok (.aload_n 0, 1) := by decide +kernel
theorem dX5_setMachine_82 : decode cX5_setMachine 82 = .ok (.getfield 10, 3) := by decide +kernel
theorem dX5_setMachine_85 : decode cX5_setMachine 85 = .ok (.getfield 74, 3) := by decide +kernel
theorem dX5_setMachine_88 : decode cX5_setMachine 88 = .ok (.iload_n 1, 1) := by decide +kernel
theorem dX5_setMachine_89 : decode cX5_setMachine 89 = .ok (.aaload, 1) := by decide +kernel
theorem dX5_setMachine_90 : decode cX5_setMachine 90 = .ok (.iconst 1, 1) := by decide +kernel
theorem dX5_setMachine_91 : decode cX5_setMachine 91 = .ok (.iload_n 3, 1) := by decide +kernel
theorem dX5_setMachine_92 : decode cX5_setMachine 92 = .ok (.iastore, 1) := by decide +kernel
theorem dX5_setMachine_93 : decode cX5_setMachine 93 = .ok (.aload_n 0, 1) := by decide +kernel
theorem dX5_setMachine_94 : decode cX5_setMachine 94 = .ok (.getfield 10, 3) := by decide +kernel
theorem dX5_setMachine_97 : decode cX5_setMachine 97 = .ok (.iload_n 1, 1) := by decide +kernel
theorem dX5_setMachine_98 : decode cX5_setMachine 98 = .ok (.iload 4, 2) := by decide +kernel
theorem dX5_setMachine_100 : decode cX5_setMachine 100 = .ok (.iload 5, 2) := by decide +kernel
theorem dX5_setMachine_102 : decode cX5_setMachine 102 = .ok (.invokevirtual 78, 3) := by decide +kernel
theorem dX5_setMachine_105 : decode cX5_setMachine 105 = .ok (.iload 6, 2) := by decide +kernel
theorem dX5_setMachine_107 : decode cX5_setMachine 107 = .ok (.ireturn, 1) := by decide +kernel
set_option maxRecDepth 20000 in
theorem ggX5_setCapacity_X5_needMachine : GoodIn wsX5_setCapacity wsX5_needMachine := goodIn_ca (goodIn_r _ [9, 10, 11, 4, 44, 45, 46, 47, 48, 49, 50, 51] (by decide +kernel) (by decide +kernel)) (goodIn_sub (fun _ h => List.mem_cons_of_mem _ (List.mem_append_right _ h)) (by decide +kernel))
set_option maxRecDepth 20000 in
theorem gX5_setCapacity_X5_needMachine : GoodIn wsX5_setCapacity (wsV RX5 68 RX5 yX5_needMachine wsX5_needMachine) := goodIn_app (goodIn_of _ (by decide +kernel)) ggX5_setCapacity_X5_needMachine
set_option maxRecDepth 20000 in
theorem ggX5_setCapacity_X5_isIn : GoodIn wsX5_setCapacity wsX5_isIn := goodIn_r _ [14] (by decide +kernel) (by decide +kernel)
set_option maxRecDepth 20000 in
theorem gX5_setCapacity_X5_isIn : GoodIn wsX5_setCapacity (va_wsS RX5 37 yX5_isIn wsX5_isIn) := goodIn_app (goodIn_of _ (by decide +kernel)) ggX5_setCapacity_X5_isIn
set_option maxRecDepth 20000 in
theorem ggX5_setCapacity_X1_keep : GoodIn wsX5_setCapacity wsX1_keep := goodIn_r _ [19, 20, 21, 22, 23, 24, 25, 26, 27, 28, 29, 30, 31, 32, 33, 34, 35, 36, 37, 38, 39, 40, 41, 42, 43, 52, 53, 54, 48, 49, 50, 51, 55, 56, 57, 58, 59] (by decide +kernel) (by decide +kernel)
set_option maxRecDepth 20000 in
theorem gX5_setCapacity_X1_keep : GoodIn wsX5_setCapacity (wsV RX5 60 RX1 yX1_keep wsX1_keep) := goodIn_app (goodIn_of _ (by decide +kernel)) ggX5_setCapacity_X1_keep
theorem dX5_setCapacity_0 : decode cX5_setCapacity 0 = .ok (.aload_n 0, 1) := by decide +kernel
theorem dX5_setCapacity_1 : decode cX5_setCapacity 1 = .ok (.iload_n 1, 1) := by decide +kernel
theorem dX5_setCapacity_2 : decode cX5_setCapacity 2 = .ok (.invokevirtual 68, 3) := by decide +kernel
theorem dX5_setCapacity_5 : decode cX5_setCapacity 5 = .ok (.iload_n 2, 1) := by decide +kernel
theorem dX5_setCapacity_6 : decode cX5_setCapacity 6 = .ok (.iconst 0, 1) := by decide +kernel
theorem dX5_setCapacity_7 : decode cX5_setCapacity 7 = .ok (.bipush 40, 2) := by decide +kernel
theorem dX5_setCapacity_9 : decode cX5_setCapacity 9 = .ok (.invokestatic 37, 3) := by decide +kernel
theorem dX5_setCapacity_12 : decode cX5_setCapacity 12 = .ok (.ifCond .ne 13, 3) := by decide +kernel
theorem dX5_setCapacity_15 : decode cX5_setCapacity 15 = .ok (.new 41, 3) := by decide +kernel
theorem dX5_setCapacity_18 : decode cX5_setCapacity 18 = .ok (.dup, 1) := by decide +kernel
theorem dX5_setCapacity_19 : decode cX5_setCapacity 19 = .ok (.ldc 82, 2) := by decide +kernel
theorem dX5_setCapacity_21 : decode cX5_setCapacity 21 = .ok (.invokespecial 45, 3) := by decide +kernel
theorem dX5_setCapacity_24 : decode cX5_setCapacity 24 = .ok (.athrow, 1) := by decide +kernel
theorem dX5_setCapacity_25 : decode cX5_setCapacity 25 = .ok (.aload_n 0, 1) := by decide +kernel
theorem dX5_setCapacity_26 : decode cX5_setCapacity 26 = .ok (.getfield 22, 3) := by decide +kernel
theorem dX5_setCapacity_29 : decode cX5_setCapacity 29 = .ok (.aload_n 0, 1) := by decide +kernel
theorem dX5_setCapacity_30 : decode cX5_setCapacity 30 = .ok (.getfield 10, 3) := by decide +kernel
theorem dX5_setCapacity_33 : decode cX5_setCapacity 33 = .ok (.invokevirtual 60, 3) := by decide +kernel
theorem dX5_setCapacity_36 : decode cX5_setCapacity 36 = .ok (.aload_n 0, 1) := by decide +kernel
theorem dX5_setCapacity_37 : decode cX5_setCapacity 37 = .ok (.getfield 10, 3) := by decide +kernel
theorem dX5_setCapacity_40 : decode cX5_setCapacity 40 = .ok (.getfield 74, 3) := by decide +kernel
theorem dX5_setCapacity_43 : decode cX5_setCapacity 43 = .ok (.iload_n 1, 1) := by decide +kernel
theorem dX5_setCapacity_44 : decode cX5_setCapacity 44 = .ok (.aaload, 1) := by decide +kernel
theorem dX5_setCapacity_45 : decode cX5_setCapacity 45 = .ok (.iconst 4, 1) := by decide +kernel
theorem dX5_setCapacity_46 : decode cX5_setCapacity 46 = .ok (.iaload, 1) := by decide +kernel
theorem dX5_setCapacity_47 : decode cX5_setCapacity 47 = .ok (.istore_n 3, 1) := by decide +kernel
theorem dX5_setCapacity_48 : decode cX5_setCapacity 48 = .ok (.aload_n 0, 1) := by decide +kernel
theorem dX5_setCapacity_49 : decode cX5_setCapacity 49 = .ok (.getfield 10, 3) := by decide +kernel
theorem dX5_setCapacity_52 : decode cX5_setCapacity 52 = .ok (.getfield 74, 3) := by decide +kernel
theorem dX5_setCapacity_55 : decode cX5_setCapacity 55 = .ok (.iload_n 1, 1) := by decide +kernel
theorem dX5_setCapacity_56 : decode cX5_setCapacity 56 = .ok (.aaload, 1) := by decide +kernel
theorem dX5_setCapacity_57 : decode cX5_setCapacity 57 = .ok (.iconst 4, 1) := by decide +kernel
theorem dX5_setCapacity_58 : decode cX5_setCapacity 58 = .ok (.iload_n 2, 1) := by decide +kernel
theorem dX5_setCapacity_59 : decode cX5_setCapacity 59 = .ok (.iastore, 1) := by decide +kernel
theorem dX5_setCapacity_60 : decode cX5_setCapacity 60 = .ok (.iload_n 3, 1) := by decide +kernel
theorem dX5_setCapacity_61 : decode cX5_setCapacity 61 = .ok (.ireturn, 1) := by decide +kernel
set_option maxRecDepth 20000 in
theorem ggX5_addStop_X5_needMachine : GoodIn wsX5_addStop wsX5_needMachine := goodIn_ca (goodIn_r _ [11, 12, 13, 5, 50, 51, 52, 53, 54, 55, 56, 57] (by decide +kernel) (by decide +kernel)) (goodIn_sub (fun _ h => List.mem_cons_of_mem _ (List.mem_append_right _ h)) (by decide +kernel))
set_option maxRecDepth 20000 in
theorem gX5_addStop_X5_needMachine : GoodIn wsX5_addStop (wsV RX5 68 RX5 yX5_needMachine wsX5_needMachine) := goodIn_app (goodIn_of _ (by decide +kernel)) ggX5_addStop_X5_needMachine
set_option maxRecDepth 20000 in
theorem ggX5_addStop_X5_isIn : GoodIn wsX5_addStop wsX5_isIn := goodIn_r _ [16] (by decide +kernel) (by decide +kernel)
set_option maxRecDepth 20000 in
theorem gX5_addStop_X5_isIn : GoodIn wsX5_addStop (va_wsS RX5 37 yX5_isIn wsX5_isIn) := goodIn_app (goodIn_of _ (by decide +kernel)) ggX5_addStop_X5_isIn
set_option maxRecDepth 20000 in
theorem ggX5_addStop_X1_keep : GoodIn wsX5_addStop wsX1_keep := goodIn_r _ [21, 22, 23, 24, 25, 26, 27, 28, 29, 30, 31, 32, 33, 34, 35, 36, 37, 38, 39, 40, 41, 42, 43, 44, 45, 63, 64, 65, 54, 55, 56, 57, 58, 59, 60, 61, 62] (by decide +kernel) (by decide +kernel)
set_option maxRecDepth 20000 in
theorem gX5_addStop_X1_keep : GoodIn wsX5_addStop (wsV RX5 60 RX1 yX1_keep wsX1_keep) := goodIn_app (goodIn_of _ (by decide +kernel)) ggX5_addStop_X1_keep
set_option maxRecDepth 20000 in
theorem ggX5_addStop_X4_plan : GoodIn wsX5_addStop wsX4_plan := goodIn_r _ [49, 41, 42, 44, 45, 58, 59, 60, 61, 62] (by decide +kernel) (by decide +kernel)
set_option maxRecDepth 20000 in
theorem gX5_addStop_X4_plan : GoodIn wsX5_addStop (wsV RX5 97 RX4 yX4_plan wsX4_plan) := goodIn_app (goodIn_of _ (by decide +kernel)) ggX5_addStop_X4_plan
theorem dX5_addStop_0 : decode cX5_addStop 0 = .ok (.aload_n 0, 1) := by decide +kernel
theorem dX5_addStop_1 : decode cX5_addStop 1 = .ok (.iload_n 1, 1) := by decide +kernel
theorem dX5_addStop_2 : decode cX5_addStop 2 = .ok (.invokevirtual 68, 3) := by decide +kernel
theorem dX5_addStop_5 : decode cX5_addStop 5 = .ok (.iload_n 2, 1) := by decide +kernel
theorem dX5_addStop_6 : decode cX5_addStop 6 = .ok (.aload_n 0, 1) := by decide +kernel
theorem dX5_addStop_7 : decode cX5_addStop 7 = .ok (.getfield 10, 3) := by decide +kernel
theorem dX5_addStop_10 : decode cX5_addStop 10 = .ok (.getfield 52, 3) := by decide +kernel
theorem dX5_addStop_13 : decode cX5_addStop 13 = .ok (.if_icmp .le 21, 3) := by decide +kernel
theorem dX5_addStop_16 : decode cX5_addStop 16 = .ok (.iload_n 2, 1) := by decide +kernel
theorem dX5_addStop_17 : decode cX5_addStop 17 = .ok (.sipush 10000, 3) := by decide +kernel
theorem dX5_addStop_20 : decode cX5_addStop 20 = .ok (.if_icmp .gt 14, 3) := by decide +kernel
theorem dX5_addStop_23 : decode cX5_addStop 23 = .ok (.iload_n 3, 1) := by decide +kernel
theorem dX5_addStop_24 : decode cX5_addStop 24 = .ok (.iconst 1, 1) := by decide +kernel
theorem dX5_addStop_25 : decode cX5_addStop 25 = .ok (.sipush 200, 3) := by decide +kernel
theorem dX5_addStop_28 : decode cX5_addStop 28 = .ok (.invokestatic 37, 3) := by decide +kernel
theorem dX5_addStop_31 : decode cX5_addStop 31 = .ok (.ifCond .ne 13, 3) := by decide +kernel
theorem dX5_addStop_34 : decode cX5_addStop 34 = .ok (.new 41, 3) := by decide +kernel
theorem dX5_addStop_37 : decode cX5_addStop 37 = .ok (.dup, 1) := by decide +kernel
theorem dX5_addStop_38 : decode cX5_addStop 38 = .ok (.ldc 84, 2) := by decide +kernel
theorem dX5_addStop_40 : decode cX5_addStop 40 = .ok (.invokespecial 45, 3) := by decide +kernel
theorem dX5_addStop_43 : decode cX5_addStop 43 = .ok (.athrow, 1) := by decide +kernel
theorem dX5_addStop_44 : decode cX5_addStop 44 = .ok (.aload_n 0, 1) := by decide +kernel
theorem dX5_addStop_45 : decode cX5_addStop 45 = .ok (.getfield 10, 3) := by decide +kernel
theorem dX5_addStop_48 : decode cX5_addStop 48 = .ok (.getfield 86, 3) := by decide +kernel
theorem dX5_addStop_51 : decode cX5_addStop 51 = .ok (.getfield 90, 3) := by decide +kernel
theorem dX5_addStop_54 : decode cX5_addStop 54 = .ok (.bipush 40, 2) := by decide +kernel
theorem dX5_addStop_56 : decode cX5_addStop 56 = .ok (.if_icmp .lt 13, 3) := by decide +kernel
theorem dX5_addStop_59 : decode cX5_addStop 59 = .ok (.new 55, 3) := by decide +kernel
theorem dX5_addStop_62 : decode cX5_addStop 62 = .ok (.dup, 1) := by decide +kernel
theorem dX5_addStop_63 : decode cX5_addStop 63 = .ok (.ldc 95, 2) := by decide +kernel
theorem dX5_addStop_65 : decode cX5_addStop 65 = .ok (.invokespecial 59, 3) := by decide +kernel
theorem dX5_addStop_68 : decode cX5_addStop 68 = .ok (.athrow, 1) := by decide +kernel
theorem dX5_addStop_69 : decode cX5_addStop 69 = .ok (.aload_n 0, 1) := by decide +kernel
theorem dX5_addStop_70 : decode cX5_addStop 70 = .ok (.getfield 22, 3) := by decide +kernel
theorem dX5_addStop_73 : decode cX5_addStop 73 = .ok (.aload_n 0, 1) := by decide +kernel
theorem dX5_addStop_74 : decode cX5_addStop 74 = .ok (.getfield 10, 3) := by decide +kernel
theorem dX5_addStop_77 : decode cX5_addStop 77 = .ok (.invokevirtual 60, 3) := by decide +kernel
theorem dX5_addStop_80 : decode cX5_addStop 80 = .ok (.aload_n 0, 1) := by decide +kernel
theorem dX5_addStop_81 : decode cX5_addStop 81 = .ok (.getfield 10, 3) := by decide +kernel
theorem dX5_addStop_84 : decode cX5_addStop 84 = .ok (.getfield 86, 3) := by decide +kernel
theorem dX5_addStop_87 : decode cX5_addStop 87 = .ok (.iload_n 1, 1) := by decide +kernel
theorem dX5_addStop_88 : decode cX5_addStop 88 = .ok (.iload_n 2, 1) := by decide +kernel
theorem dX5_addStop_89 : decode cX5_addStop 89 = .ok (.iload_n 3, 1) := by decide +kernel
theorem dX5_addStop_90 : decode cX5_addStop 90 = .ok (.invokevirtual 97, 3) := by decide +kernel
theorem dX5_addStop_93 : decode cX5_addStop 93 = .ok (.aload_n 0, 1) := by decide +kernel
theorem dX5_addStop_94 : decode cX5_addStop 94 = .ok (.getfield 10, 3) := by decide +kernel
theorem dX5_addStop_97 : decode cX5_addStop 97 = .ok (.getfield 86, 3) := by decide +kernel
theorem dX5_addStop_100 : decode cX5_addStop 100 = .ok (.getfield 90, 3) := by decide +kernel
theorem dX5_addStop_103 : decode cX5_addStop 103 = .ok (.ireturn, 1) := by decide +kernel
set_option maxRecDepth 20000 in
theorem ggX5_addRandomStops_X5_needMachine : GoodIn wsX5_addRandomStops wsX5_needMachine := goodIn_ca (goodIn_r _ [15, 16, 17, 6, 69, 70, 71, 72, 73, 74, 75, 76] (by decide +kernel) (by decide +kernel)) (goodIn_sub (fun _ h => List.mem_cons_of_mem _ (List.mem_append_right _ h)) (by decide +kernel))
set_option maxRecDepth 20000 in
theorem gX5_addRandomStops_X5_needMachine : GoodIn wsX5_addRandomStops (wsV RX5 68 RX5 yX5_needMachine wsX5_needMachine) := goodIn_app (goodIn_of _ (by decide +kernel)) ggX5_addRandomStops_X5_needMachine
set_option maxRecDepth 20000 in
theorem ggX5_addRandomStops_X5_isIn : GoodIn wsX5_addRandomStops wsX5_isIn := goodIn_r _ [20] (by decide +kernel) (by decide +kernel)
set_option maxRecDepth 20000 in
theorem gX5_addRandomStops_X5_isIn : GoodIn wsX5_addRandomStops (va_wsS RX5 37 yX5_isIn wsX5_isIn) := goodIn_app (goodIn_of _ (by decide +kernel)) ggX5_addRandomStops_X5_isIn
set_option maxRecDepth 20000 in
theorem ggX5_addRandomStops_X1_keep : GoodIn wsX5_addRandomStops wsX1_keep := goodIn_r _ [25, 26, 27, 28, 29, 30, 31, 32, 33, 34, 35, 36, 37, 38, 39, 40, 41, 42, 43, 44, 45, 46, 47, 48, 49, 83, 84, 85, 73, 74, 75, 76, 77, 78, 79, 80, 81] (by decide +kernel) (by decide +kernel)
set_option maxRecDepth 20000 in
theorem gX5_addRandomStops_X1_keep : GoodIn wsX5_addRandomStops (wsV RX5 60 RX1 yX1_keep wsX1_keep) := goodIn_app (goodIn_of _ (by decide +kernel)) ggX5_addRandomStops_X1_keep
set_option maxRecDepth 20000 in
theorem ggX5_addRandomStops_X0_init : GoodIn wsX5_addRandomStops wsX0_init := goodIn_r _ [52, 53, 54, 55, 56, 82] (by decide +kernel) (by decide +kernel)
set_option maxRecDepth 20000 in
theorem gX5_addRandomStops_X0_init : GoodIn wsX5_addRandomStops (wsX0_init) := ggX5_addRandomStops_X0_init
set_option maxRecDepth 20000 in
theorem ggX5_addRandomStops_X0_drawBelow : GoodIn wsX5_addRandomStops wsX0_drawBelow := goodIn_r _ [60, 61, 56, 62, 63, 64, 82] (by decide +kernel) (by decide +kernel)
set_option maxRecDepth 20000 in
theorem gX5_addRandomStops_X0_drawBelow : GoodIn wsX5_addRandomStops (wsV RX5 109 RX0 yX0_drawBelow wsX0_drawBelow) := goodIn_app (goodIn_of _ (by decide +kernel)) ggX5_addRandomStops_X0_drawBelow
set_option maxRecDepth 20000 in
theorem ggX5_addRandomStops_X4_plan : GoodIn wsX5_addRandomStops wsX4_plan := goodIn_r _ [68, 45, 46, 48, 49, 77, 78, 79, 80, 81] (by decide +kernel) (by decide +kernel)
set_option maxRecDepth 20000 in
theorem gX5_addRandomStops_X4_plan : GoodIn wsX5_addRandomStops (wsV RX5 97 RX4 yX4_plan wsX4_plan) := goodIn_app (goodIn_of _ (by decide +kernel)) ggX5_addRandomStops_X4_plan
theorem dX5_addRandomStops_0 : decode cX5_addRandomStops 0 = .ok (.aload_n 0, 1) := by decide +kernel
theorem dX5_addRandomStops_1 : decode cX5_addRandomStops 1 = .ok (.iload_n 1, 1) := by decide +kernel
theorem dX5_addRandomStops_2 : decode cX5_addRandomStops 2 = .ok (.invokevirtual 68, 3) := by decide +kernel
theorem dX5_addRandomStops_5 : decode cX5_addRandomStops 5 = .ok (.iload_n 2, 1) := by decide +kernel
theorem dX5_addRandomStops_6 : decode cX5_addRandomStops 6 = .ok (.iconst 0, 1) := by decide +kernel
theorem dX5_addRandomStops_7 : decode cX5_addRandomStops 7 = .ok (.ldc 100, 2) := by decide +kernel
theorem dX5_addRandomStops_9 : decode cX5_addRandomStops 9 = .ok (.invokestatic 37, 3) := by decide +kernel
theorem dX5_addRandomStops_12 : decode cX5_addRandomStops 12 = .ok (.ifCond .eq 36, 3) := by decide +kernel
theorem dX5_addRandomStops_15 : decode cX5_addRandomStops 15 = .ok (.iload_n 3, 1) := by decide +kernel
theorem dX5_addRandomStops_16 : decode cX5_addRandomStops 16 = .ok (.iconst 1, 1) := by decide +kernel
theorem dX5_addRandomStops_17 : decode cX5_addRandomStops 17 = .ok (.sipush 500, 3) := by decide +kernel
theorem dX5_addRandomStops_20 : decode cX5_addRandomStops 20 = .ok (.invokestatic 37, 3) := by decide +kernel
theorem dX5_addRandomStops_23 : decode cX5_addRandomStops 23 = .ok (.ifCond .eq 25, 3) := by decide +kernel
theorem dX5_addRandomStops_26 : decode cX5_addRandomStops 26 = .ok (.iload 4, 2) := by decide +kernel
theorem dX5_addRandomStops_28 : decode cX5_addRandomStops 28 = .ok (.iconst 1, 1) := by decide +kernel
theorem dX5_addRandomStops_29 : decode cX5_addRandomStops 29 = .ok (.bipush 100, 2) := by decide +kernel
theorem dX5_addRandomStops_31 : decode cX5_addRandomStops 31 = .ok (.invokestatic 37, 3) := by decide +kernel
theorem dX5_addRandomStops_34 : decode cX5_addRandomStops 34 = .ok (.ifCond .eq 14, 3) := by decide +kernel
theorem dX5_addRandomStops_37 : decode cX5_addRandomStops 37 = .ok (.iload 5, 2) := by decide +kernel
theorem dX5_addRandomStops_39 : decode cX5_addRandomStops 39 = .ok (.iconst 1, 1) := by decide +kernel
theorem dX5_addRandomStops_40 : decode cX5_addRandomStops 40 = .ok (.bipush 40, 2) := by decide +kernel
theorem dX5_addRandomStops_42 : decode cX5_addRandomStops 42 = .ok (.invokestatic 37, 3) := by decide +kernel
theorem dX5_addRandomStops_45 : decode cX5_addRandomStops 45 = .ok (.ifCond .ne 13, 3) := by decide +kernel
theorem dX5_addRandomStops_48 : decode cX5_addRandomStops 48 = .ok (.new 41, 3) := by decide +kernel
theorem dX5_addRandomStops_51 : decode cX5_addRandomStops 51 = .ok (.dup, 1) := by decide +kernel
theorem dX5_addRandomStops_52 : decode cX5_addRandomStops 52 = .ok (.ldc 101, 2) := by decide +kernel
theorem dX5_addRandomStops_54 : decode cX5_addRandomStops 54 = .ok (.invokespecial 45, 3) := by decide +kernel
theorem dX5_addRandomStops_57 : decode cX5_addRandomStops 57 = .ok (.athrow, 1) := by decide +kernel
theorem dX5_addRandomStops_58 : decode cX5_addRandomStops 58 = .ok (.aload_n 0, 1) := by decide +kernel
