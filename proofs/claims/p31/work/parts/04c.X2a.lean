set_option maxRecDepth 20000 in
theorem ggX2_init_X4_init : GoodIn wsX2_init wsX4_init := goodIn_r _ [12, 13, 2, 3, 5, 14, 15, 16, 21, 22, 23, 24, 25] (by decide +kernel) (by decide +kernel)
set_option maxRecDepth 20000 in
theorem gX2_init_X4_init_n18 : GoodIn wsX2_init (wsX4_init) := ggX2_init_X4_init
theorem dX2_init_0 : decode cX2_init 0 = .ok (.aload_n 0, 1) := by decide +kernel
theorem dX2_init_1 : decode cX2_init 1 = .ok (.invokespecial 3, 3) := by decide +kernel
theorem dX2_init_4 : decode cX2_init 4 = .ok (.aload_n 0, 1) := by decide +kernel
theorem dX2_init_5 : decode cX2_init 5 = .ok (.bipush 8, 2) := by decide +kernel
theorem dX2_init_7 : decode cX2_init 7 = .ok (.bipush 16, 2) := by decide +kernel
theorem dX2_init_9 : decode cX2_init 9 = .ok (.multianewarray 9 2, 4) := by decide +kernel
theorem dX2_init_13 : decode cX2_init 13 = .ok (.putfield 11, 3) := by decide +kernel
theorem dX2_init_16 : decode cX2_init 16 = .ok (.aload_n 0, 1) := by decide +kernel
theorem dX2_init_17 : decode cX2_init 17 = .ok (.new 16, 3) := by decide +kernel
theorem dX2_init_20 : decode cX2_init 20 = .ok (.dup, 1) := by decide +kernel
theorem dX2_init_21 : decode cX2_init 21 = .ok (.invokespecial 18, 3) := by decide +kernel
theorem dX2_init_24 : decode cX2_init 24 = .ok (.putfield 19, 3) := by decide +kernel
theorem dX2_init_27 : decode cX2_init 27 = .ok (.return_, 1) := by decide +kernel
set_option maxRecDepth 20000 in
theorem ggX2_copy_X4_copy : GoodIn wsX2_copy wsX4_copy := goodIn_r _ [12, 13, 14, 15, 4, 5, 6, 16, 17, 22, 23, 24, 25, 26] (by decide +kernel) (by decide +kernel)
set_option maxRecDepth 20000 in
theorem gX2_copy_X4_copy : GoodIn wsX2_copy (va_wsS RX2 33 yX4_copy wsX4_copy) := goodIn_app (goodIn_of _ (by decide +kernel)) ggX2_copy_X4_copy
theorem dX2_copy_0 : decode cX2_copy 0 = .ok (.aload_n 0, 1) := by decide +kernel
theorem dX2_copy_1 : decode cX2_copy 1 = .ok (.ifnull 7, 3) := by decide +kernel
theorem dX2_copy_4 : decode cX2_copy 4 = .ok (.aload_n 1, 1) := by decide +kernel
theorem dX2_copy_5 : decode cX2_copy 5 = .ok (.ifnonnull 4, 3) := by decide +kernel
theorem dX2_copy_8 : decode cX2_copy 8 = .ok (.return_, 1) := by decide +kernel
theorem dX2_copy_9 : decode cX2_copy 9 = .ok (.iconst 0, 1) := by decide +kernel
theorem dX2_copy_10 : decode cX2_copy 10 = .ok (.istore_n 2, 1) := by decide +kernel
theorem dX2_copy_11 : decode cX2_copy 11 = .ok (.iload_n 2, 1) := by decide +kernel
theorem dX2_copy_12 : decode cX2_copy 12 = .ok (.aload_n 0, 1) := by decide +kernel
theorem dX2_copy_13 : decode cX2_copy 13 = .ok (.getfield 23, 3) := by decide +kernel
theorem dX2_copy_16 : decode cX2_copy 16 = .ok (.if_icmp .ge 28, 3) := by decide +kernel
theorem dX2_copy_19 : decode cX2_copy 19 = .ok (.aload_n 0, 1) := by decide +kernel
theorem dX2_copy_20 : decode cX2_copy 20 = .ok (.getfield 11, 3) := by decide +kernel
theorem dX2_copy_23 : decode cX2_copy 23 = .ok (.iload_n 2, 1) := by decide +kernel
theorem dX2_copy_24 : decode cX2_copy 24 = .ok (.aaload, 1) := by decide +kernel
theorem dX2_copy_25 : decode cX2_copy 25 = .ok (.iconst 0, 1) := by decide +kernel
theorem dX2_copy_26 : decode cX2_copy 26 = .ok (.aload_n 1, 1) := by decide +kernel
theorem dX2_copy_27 : decode cX2_copy 27 = .ok (.getfield 11, 3) := by decide +kernel
theorem dX2_copy_30 : decode cX2_copy 30 = .ok (.iload_n 2, 1) := by decide +kernel
theorem dX2_copy_31 : decode cX2_copy 31 = .ok (.aaload, 1) := by decide +kernel
theorem dX2_copy_32 : decode cX2_copy 32 = .ok (.iconst 0, 1) := by decide +kernel
theorem dX2_copy_33 : decode cX2_copy 33 = .ok (.bipush 16, 2) := by decide +kernel
theorem dX2_copy_35 : decode cX2_copy 35 = .ok (.invokestatic 27, 3) := by decide +kernel
theorem dX2_copy_38 : decode cX2_copy 38 = .ok (.iinc 2 1, 3) := by decide +kernel
theorem dX2_copy_41 : decode cX2_copy 41 = .ok (.goto (-30), 3) := by decide +kernel
theorem dX2_copy_44 : decode cX2_copy 44 = .ok (.aload_n 0, 1) := by decide +kernel
theorem dX2_copy_45 : decode cX2_copy 45 = .ok (.getfield 19, 3) := by decide +kernel
theorem dX2_copy_48 : decode cX2_copy 48 = .ok (.aload_n 1, 1) := by decide +kernel
theorem dX2_copy_49 : decode cX2_copy 49 = .ok (.getfield 19, 3) := by decide +kernel
theorem dX2_copy_52 : decode cX2_copy 52 = .ok (.invokestatic 33, 3) := by decide +kernel
theorem dX2_copy_55 : decode cX2_copy 55 = .ok (.aload_n 1, 1) := by decide +kernel
theorem dX2_copy_56 : decode cX2_copy 56 = .ok (.aload_n 0, 1) := by decide +kernel
theorem dX2_copy_57 : decode cX2_copy 57 = .ok (.getfield 23, 3) := by decide +kernel
theorem dX2_copy_60 : decode cX2_copy 60 = .ok (.putfield 23, 3) := by decide +kernel
theorem dX2_copy_63 : decode cX2_copy 63 = .ok (.aload_n 1, 1) := by decide +kernel
theorem dX2_copy_64 : decode cX2_copy 64 = .ok (.aload_n 0, 1) := by decide +kernel
theorem dX2_copy_65 : decode cX2_copy 65 = .ok (.getfield 37, 3) := by decide +kernel
theorem dX2_copy_68 : decode cX2_copy 68 = .ok (.putfield 37, 3) := by decide +kernel
theorem dX2_copy_71 : decode cX2_copy 71 = .ok (.return_, 1) := by decide +kernel
set_option maxRecDepth 20000 in
theorem ggX2_join_X2_empty : GoodIn wsX2_join wsX2_empty := goodIn_r _ [6] (by decide +kernel) (by decide +kernel)
set_option maxRecDepth 20000 in
theorem gX2_join_X2_empty : GoodIn wsX2_join (va_wsS RX2 43 yX2_empty wsX2_empty) := goodIn_app (goodIn_of _ (by decide +kernel)) ggX2_join_X2_empty
theorem dX2_join_0 : decode cX2_join 0 = .ok (.aload_n 0, 1) := by decide +kernel
theorem dX2_join_1 : decode cX2_join 1 = .ok (.getfield 23, 3) := by decide +kernel
theorem dX2_join_4 : decode cX2_join 4 = .ok (.bipush 8, 2) := by decide +kernel
theorem dX2_join_6 : decode cX2_join 6 = .ok (.if_icmp .lt 5, 3) := by decide +kernel
theorem dX2_join_9 : decode cX2_join 9 = .ok (.iconst (-1), 1) := by decide +kernel
theorem dX2_join_10 : decode cX2_join 10 = .ok (.ireturn, 1) := by decide +kernel
theorem dX2_join_11 : decode cX2_join 11 = .ok (.aload_n 0, 1) := by decide +kernel
theorem dX2_join_12 : decode cX2_join 12 = .ok (.getfield 11, 3) := by decide +kernel
theorem dX2_join_15 : decode cX2_join 15 = .ok (.aload_n 0, 1) := by decide +kernel
theorem dX2_join_16 : decode cX2_join 16 = .ok (.getfield 23, 3) := by decide +kernel
theorem dX2_join_19 : decode cX2_join 19 = .ok (.aaload, 1) := by decide +kernel
theorem dX2_join_20 : decode cX2_join 20 = .ok (.astore 4, 2) := by decide +kernel
theorem dX2_join_22 : decode cX2_join 22 = .ok (.aload 4, 2) := by decide +kernel
theorem dX2_join_24 : decode cX2_join 24 = .ok (.iconst 0, 1) := by decide +kernel
theorem dX2_join_25 : decode cX2_join 25 = .ok (.iload_n 1, 1) := by decide +kernel
theorem dX2_join_26 : decode cX2_join 26 = .ok (.iastore, 1) := by decide +kernel
theorem dX2_join_27 : decode cX2_join 27 = .ok (.aload 4, 2) := by decide +kernel
theorem dX2_join_29 : decode cX2_join 29 = .ok (.iconst 1, 1) := by decide +kernel
theorem dX2_join_30 : decode cX2_join 30 = .ok (.iload_n 2, 1) := by decide +kernel
theorem dX2_join_31 : decode cX2_join 31 = .ok (.iastore, 1) := by decide +kernel
theorem dX2_join_32 : decode cX2_join 32 = .ok (.aload 4, 2) := by decide +kernel
theorem dX2_join_34 : decode cX2_join 34 = .ok (.iconst 2, 1) := by decide +kernel
theorem dX2_join_35 : decode cX2_join 35 = .ok (.iconst 0, 1) := by decide +kernel
theorem dX2_join_36 : decode cX2_join 36 = .ok (.iastore, 1) := by decide +kernel
theorem dX2_join_37 : decode cX2_join 37 = .ok (.aload 4, 2) := by decide +kernel
theorem dX2_join_39 : decode cX2_join 39 = .ok (.iconst 3, 1) := by decide +kernel
theorem dX2_join_40 : decode cX2_join 40 = .ok (.bipush 40, 2) := by decide +kernel
theorem dX2_join_42 : decode cX2_join 42 = .ok (.iastore, 1) := by decide +kernel
theorem dX2_join_43 : decode cX2_join 43 = .ok (.aload 4, 2) := by decide +kernel
theorem dX2_join_45 : decode cX2_join 45 = .ok (.iconst 4, 1) := by decide +kernel
theorem dX2_join_46 : decode cX2_join 46 = .ok (.iload_n 3, 1) := by decide +kernel
theorem dX2_join_47 : decode cX2_join 47 = .ok (.iastore, 1) := by decide +kernel
theorem dX2_join_48 : decode cX2_join 48 = .ok (.aload 4, 2) := by decide +kernel
theorem dX2_join_50 : decode cX2_join 50 = .ok (.invokestatic 43, 3) := by decide +kernel
theorem dX2_join_53 : decode cX2_join 53 = .ok (.aload_n 0, 1) := by decide +kernel
theorem dX2_join_54 : decode cX2_join 54 = .ok (.dup, 1) := by decide +kernel
theorem dX2_join_55 : decode cX2_join 55 = .ok (.getfield 23, 3) := by decide +kernel
theorem dX2_join_58 : decode cX2_join 58 = .ok (.iconst 1, 1) := by decide +kernel
theorem dX2_join_59 : decode cX2_join 59 = .ok (.iadd, 1) := by decide +kernel
theorem dX2_join_60 : decode cX2_join 60 = .ok (.putfield 23, 3) := by decide +kernel
theorem dX2_join_63 : decode cX2_join 63 = .ok (.aload_n 0, 1) := by decide +kernel
theorem dX2_join_64 : decode cX2_join 64 = .ok (.getfield 23, 3) := by decide +kernel
theorem dX2_join_67 : decode cX2_join 67 = .ok (.iconst 1, 1) := by decide +kernel
theorem dX2_join_68 : decode cX2_join 68 = .ok (.isub, 1) := by decide +kernel
theorem dX2_join_69 : decode cX2_join 69 = .ok (.ireturn, 1) := by decide +kernel
theorem dX2_mark_0 : decode cX2_mark 0 = .ok (.iload_n 1, 1) := by decide +kernel
theorem dX2_mark_1 : decode cX2_mark 1 = .ok (.ifCond .lt 29, 3) := by decide +kernel
theorem dX2_mark_4 : decode cX2_mark 4 = .ok (.iload_n 1, 1) := by decide +kernel
theorem dX2_mark_5 : decode cX2_mark 5 = .ok (.aload_n 0, 1) := by decide +kernel
theorem dX2_mark_6 : decode cX2_mark 6 = .ok (.getfield 23, 3) := by decide +kernel
theorem dX2_mark_9 : decode cX2_mark 9 = .ok (.if_icmp .ge 21, 3) := by decide +kernel
theorem dX2_mark_12 : decode cX2_mark 12 = .ok (.aload_n 0, 1) := by decide +kernel
theorem dX2_mark_13 : decode cX2_mark 13 = .ok (.getfield 11, 3) := by decide +kernel
theorem dX2_mark_16 : decode cX2_mark 16 = .ok (.iload_n 1, 1) := by decide +kernel
theorem dX2_mark_17 : decode cX2_mark 17 = .ok (.aaload, 1) := by decide +kernel
theorem dX2_mark_18 : decode cX2_mark 18 = .ok (.iconst 2, 1) := by decide +kernel
theorem dX2_mark_19 : decode cX2_mark 19 = .ok (.iload_n 2, 1) := by decide +kernel
theorem dX2_mark_20 : decode cX2_mark 20 = .ok (.iastore, 1) := by decide +kernel
theorem dX2_mark_21 : decode cX2_mark 21 = .ok (.aload_n 0, 1) := by decide +kernel
theorem dX2_mark_22 : decode cX2_mark 22 = .ok (.getfield 11, 3) := by decide +kernel
theorem dX2_mark_25 : decode cX2_mark 25 = .ok (.iload_n 1, 1) := by decide +kernel
theorem dX2_mark_26 : decode cX2_mark 26 = .ok (.aaload, 1) := by decide +kernel
theorem dX2_mark_27 : decode cX2_mark 27 = .ok (.iconst 3, 1) := by decide +kernel
theorem dX2_mark_28 : decode cX2_mark 28 = .ok (.iload_n 3, 1) := by decide +kernel
theorem dX2_mark_29 : decode cX2_mark 29 = .ok (.iastore, 1) := by decide +kernel
theorem dX2_mark_30 : decode cX2_mark 30 = .ok (.return_, 1) := by decide +kernel
set_option maxRecDepth 20000 in
theorem ggX2_beginAnew_X2_empty : GoodIn wsX2_beginAnew wsX2_empty := goodIn_r _ [7] (by decide +kernel) (by decide +kernel)
set_option maxRecDepth 20000 in
theorem gX2_beginAnew_X2_empty : GoodIn wsX2_beginAnew (va_wsS RX2 43 yX2_empty wsX2_empty) := goodIn_app (goodIn_of _ (by decide +kernel)) ggX2_beginAnew_X2_empty
theorem dX2_beginAnew_0 : decode cX2_beginAnew 0 = .ok (.aload_n 0, 1) := by decide +kernel
theorem dX2_beginAnew_1 : decode cX2_beginAnew 1 = .ok (.iconst 0, 1) := by decide +kernel
theorem dX2_beginAnew_2 : decode cX2_beginAnew 2 = .ok (.putfield 37, 3) := by decide +kernel
theorem dX2_beginAnew_5 : decode cX2_beginAnew 5 = .ok (.iconst 0, 1) := by decide +kernel
theorem dX2_beginAnew_6 : decode cX2_beginAnew 6 = .ok (.istore_n 1, 1) := by decide +kernel
theorem dX2_beginAnew_7 : decode cX2_beginAnew 7 = .ok (.iload_n 1, 1) := by decide +kernel
theorem dX2_beginAnew_8 : decode cX2_beginAnew 8 = .ok (.aload_n 0, 1) := by decide +kernel
theorem dX2_beginAnew_9 : decode cX2_beginAnew 9 = .ok (.getfield 23, 3) := by decide +kernel
theorem dX2_beginAnew_12 : decode cX2_beginAnew 12 = .ok (.if_icmp .ge 18, 3) := by decide +kernel
theorem dX2_beginAnew_15 : decode cX2_beginAnew 15 = .ok (.aload_n 0, 1) := by decide +kernel
theorem dX2_beginAnew_16 : decode cX2_beginAnew 16 = .ok (.getfield 11, 3) := by decide +kernel
theorem dX2_beginAnew_19 : decode cX2_beginAnew 19 = .ok (.iload_n 1, 1) := by decide +kernel
theorem dX2_beginAnew_20 : decode cX2_beginAnew 20 = .ok (.aaload, 1) := by decide +kernel
theorem dX2_beginAnew_21 : decode cX2_beginAnew 21 = .ok (.invokestatic 43, 3) := by decide +kernel
theorem dX2_beginAnew_24 : decode cX2_beginAnew 24 = .ok (.iinc 1 1, 3) := by decide +kernel
theorem dX2_beginAnew_27 : decode cX2_beginAnew 27 = .ok (.goto (-20), 3) := by decide +kernel
theorem dX2_beginAnew_30 : decode cX2_beginAnew 30 = .ok (.return_, 1) := by decide +kernel
theorem dX2_empty_0 : decode cX2_empty 0 = .ok (.iconst 5, 1) := by decide +kernel
theorem dX2_empty_1 : decode cX2_empty 1 = .ok (.istore_n 1, 1) := by decide +kernel
theorem dX2_empty_2 : decode cX2_empty 2 = .ok (.iload_n 1, 1) := by decide +kernel
theorem dX2_empty_3 : decode cX2_empty 3 = .ok (.bipush 16, 2) := by decide +kernel
theorem dX2_empty_5 : decode cX2_empty 5 = .ok (.if_icmp .ge 13, 3) := by decide +kernel
theorem dX2_empty_8 : decode cX2_empty 8 = .ok (.aload_n 0, 1) := by decide +kernel
theorem dX2_empty_9 : decode cX2_empty 9 = .ok (.iload_n 1, 1) := by decide +kernel
theorem dX2_empty_10 : decode cX2_empty 10 = .ok (.iconst 0, 1) := by decide +kernel
theorem dX2_empty_11 : decode cX2_empty 11 = .ok (.iastore, 1) := by decide +kernel
theorem dX2_empty_12 : decode cX2_empty 12 = .ok (.iinc 1 1, 3) := by decide +kernel
theorem dX2_empty_15 : decode cX2_empty 15 = .ok (.goto (-13), 3) := by decide +kernel
theorem dX2_empty_18 : decode cX2_empty 18 = .ok (.aload_n 0, 1) := by decide +kernel
theorem dX2_empty_19 : decode cX2_empty 19 = .ok (.bipush 6, 2) := by decide +kernel
theorem dX2_empty_21 : decode cX2_empty 21 = .ok (.iconst (-1), 1) := by decide +kernel
theorem dX2_empty_22 : decode cX2_empty 22 = .ok (.iastore, 1) := by decide +kernel
theorem dX2_empty_23 : decode cX2_empty 23 = .ok (.aload_n 0, 1) := by decide +kernel
theorem dX2_empty_24 : decode cX2_empty 24 = .ok (.bipush 7, 2) := by decide +kernel
theorem dX2_empty_26 : decode cX2_empty 26 = .ok (.iconst 1, 1) := by decide +kernel
theorem dX2_empty_27 : decode cX2_empty 27 = .ok (.iastore, 1) := by decide +kernel
theorem dX2_empty_28 : decode cX2_empty 28 = .ok (.return_, 1) := by decide +kernel
set_option maxRecDepth 20000 in
theorem ggX2_pass_X4_lookAt : GoodIn wsX2_pass wsX4_lookAt := goodIn_r _ [8, 9, 10, 11, 12, 13, 14, 15, 16, 17, 18, 55, 56, 57, 58, 59] (by decide +kernel) (by decide +kernel)
set_option maxRecDepth 20000 in
theorem gX2_pass_X4_lookAt : GoodIn wsX2_pass (wsV RX2 47 RX4 yX4_lookAt wsX4_lookAt) := goodIn_app (goodIn_of _ (by decide +kernel)) ggX2_pass_X4_lookAt
set_option maxRecDepth 20000 in
theorem ggX2_pass_X2_takeTurn : GoodIn wsX2_pass wsX2_takeTurn := goodIn_r _ [23, 24, 2, 25, 26, 27, 22, 28, 3, 29, 30, 31, 7, 32, 10, 33, 34, 35, 36, 37, 38, 39, 40, 41, 42, 43, 44, 45, 46, 51, 52, 53, 54, 55, 56, 57, 58, 59] (by decide +kernel) (by decide +kernel)
set_option maxRecDepth 20000 in
theorem gX2_pass_X2_takeTurn : GoodIn wsX2_pass (wsV RX2 51 RX2 yX2_takeTurn wsX2_takeTurn) := goodIn_app (goodIn_of _ (by decide +kernel)) ggX2_pass_X2_takeTurn
set_option maxRecDepth 20000 in
theorem ggX2_pass_X2_countFills : GoodIn wsX2_pass wsX2_countFills := goodIn_r _ [50, 3, 24, 51, 52, 53, 54] (by decide +kernel) (by decide +kernel)
set_option maxRecDepth 20000 in
theorem gX2_pass_X2_countFills : GoodIn wsX2_pass (wsV RX2 55 RX2 yX2_countFills wsX2_countFills) := goodIn_app (goodIn_of _ (by decide +kernel)) ggX2_pass_X2_countFills
theorem dX2_pass_0 : decode cX2_pass 0 = .ok (.aload_n 0, 1) := by decide +kernel
theorem dX2_pass_1 : decode cX2_pass 1 = .ok (.getfield 37, 3) := by decide +kernel
theorem dX2_pass_4 : decode cX2_pass 4 = .ok (.iconst 1, 1) := by decide +kernel
theorem dX2_pass_5 : decode cX2_pass 5 = .ok (.iadd, 1) := by decide +kernel
theorem dX2_pass_6 : decode cX2_pass 6 = .ok (.istore_n 2, 1) := by decide +kernel
theorem dX2_pass_7 : decode cX2_pass 7 = .ok (.iconst 0, 1) := by decide +kernel
theorem dX2_pass_8 : decode cX2_pass 8 = .ok (.istore_n 3, 1) := by decide +kernel
theorem dX2_pass_9 : decode cX2_pass 9 = .ok (.iload_n 3, 1) := by decide +kernel
theorem dX2_pass_10 : decode cX2_pass 10 = .ok (.iload_n 1, 1) := by decide +kernel
theorem dX2_pass_11 : decode cX2_pass 11 = .ok (.if_icmp .ge 68, 3) := by decide +kernel
theorem dX2_pass_14 : decode cX2_pass 14 = .ok (.aload_n 0, 1) := by decide +kernel
theorem dX2_pass_15 : decode cX2_pass 15 = .ok (.dup, 1) := by decide +kernel
theorem dX2_pass_16 : decode cX2_pass 16 = .ok (.getfield 37, 3) := by decide +kernel
theorem dX2_pass_19 : decode cX2_pass 19 = .ok (.iconst 1, 1) := by decide +kernel
theorem dX2_pass_20 : decode cX2_pass 20 = .ok (.iadd, 1) := by decide +kernel
theorem dX2_pass_21 : decode cX2_pass 21 = .ok (.putfield 37, 3) := by decide +kernel
theorem dX2_pass_24 : decode cX2_pass 24 = .ok (.aload_n 0, 1) := by decide +kernel
theorem dX2_pass_25 : decode cX2_pass 25 = .ok (.getfield 37, 3) := by decide +kernel
theorem dX2_pass_28 : decode cX2_pass 28 = .ok (.iload_n 2, 1) := by decide +kernel
theorem dX2_pass_29 : decode cX2_pass 29 = .ok (.if_icmp .lt 15, 3) := by decide +kernel
theorem dX2_pass_32 : decode cX2_pass 32 = .ok (.aload_n 0, 1) := by decide +kernel
theorem dX2_pass_33 : decode cX2_pass 33 = .ok (.getfield 19, 3) := by decide +kernel
theorem dX2_pass_36 : decode cX2_pass 36 = .ok (.aload_n 0, 1) := by decide +kernel
theorem dX2_pass_37 : decode cX2_pass 37 = .ok (.getfield 37, 3) := by decide +kernel
theorem dX2_pass_40 : decode cX2_pass 40 = .ok (.invokevirtual 47, 3) := by decide +kernel
theorem dX2_pass_43 : decode cX2_pass 43 = .ok (.istore_n 2, 1) := by decide +kernel
theorem dX2_pass_44 : decode cX2_pass 44 = .ok (.aload_n 0, 1) := by decide +kernel
theorem dX2_pass_45 : decode cX2_pass 45 = .ok (.getfield 23, 3) := by decide +kernel
theorem dX2_pass_48 : decode cX2_pass 48 = .ok (.iconst 1, 1) := by decide +kernel
theorem dX2_pass_49 : decode cX2_pass 49 = .ok (.isub, 1) := by decide +kernel
theorem dX2_pass_50 : decode cX2_pass 50 = .ok (.istore 4, 2) := by decide +kernel
theorem dX2_pass_52 : decode cX2_pass 52 = .ok (.iload 4, 2) := by decide +kernel
theorem dX2_pass_54 : decode cX2_pass 54 = .ok (.ifCond .lt 15, 3) := by decide +kernel
theorem dX2_pass_57 : decode cX2_pass 57 = .ok (.aload_n 0, 1) := by decide +kernel
theorem dX2_pass_58 : decode cX2_pass 58 = .ok (.iload 4, 2) := by decide +kernel
theorem dX2_pass_60 : decode cX2_pass 60 = .ok (.invokevirtual 51, 3) := by decide +kernel
theorem dX2_pass_63 : decode cX2_pass 63 = .ok (.iinc 4 (-1), 3) := by decide +kernel
theorem dX2_pass_66 : decode cX2_pass 66 = .ok (.goto (-14), 3) := by decide +kernel
theorem dX2_pass_69 : decode cX2_pass 69 = .ok (.aload_n 0, 1) := by decide +kernel
theorem dX2_pass_70 : decode cX2_pass 70 = .ok (.invokevirtual 55, 3) := by decide +kernel
theorem dX2_pass_73 : decode cX2_pass 73 = .ok (.iinc 3 1, 3) := by decide +kernel
theorem dX2_pass_76 : decode cX2_pass 76 = .ok (.goto (-67), 3) := by decide +kernel
theorem dX2_pass_79 : decode cX2_pass 79 = .ok (.return_, 1) := by decide +kernel
set_option maxRecDepth 20000 in
theorem ggX2_takeTurn_X2_chooseSpeed : GoodIn wsX2_takeTurn wsX2_chooseSpeed := goodIn_r _ [7, 1, 8, 29, 30, 31, 32] (by decide +kernel) (by decide +kernel)
set_option maxRecDepth 20000 in
theorem gX2_takeTurn_X2_chooseSpeed : GoodIn wsX2_takeTurn (wsV RX2 58 RX2 yX2_chooseSpeed wsX2_chooseSpeed) := goodIn_app (goodIn_of _ (by decide +kernel)) ggX2_takeTurn_X2_chooseSpeed
set_option maxRecDepth 20000 in
theorem ggX2_takeTurn_X4_isDown : GoodIn wsX2_takeTurn wsX4_isDown := goodIn_r _ [13, 14, 33, 34, 35, 36, 37] (by decide +kernel) (by decide +kernel)
set_option maxRecDepth 20000 in
theorem gX2_takeTurn_X4_isDown : GoodIn wsX2_takeTurn (wsV RX2 61 RX4 yX4_isDown wsX4_isDown) := goodIn_app (goodIn_of _ (by decide +kernel)) ggX2_takeTurn_X4_isDown
set_option maxRecDepth 20000 in
theorem ggX2_takeTurn_X2_noteTurn : GoodIn wsX2_takeTurn wsX2_noteTurn := goodIn_r _ [17] (by decide +kernel) (by decide +kernel)
set_option maxRecDepth 20000 in
theorem gX2_takeTurn_X2_noteTurn : GoodIn wsX2_takeTurn (va_wsS RX2 65 yX2_noteTurn wsX2_noteTurn) := goodIn_app (goodIn_of _ (by decide +kernel)) ggX2_takeTurn_X2_noteTurn
set_option maxRecDepth 20000 in
theorem ggX2_takeTurn_X2_release : GoodIn wsX2_takeTurn wsX2_release := goodIn_r _ [21, 1, 8, 2, 9, 10, 11, 12, 13, 14, 22, 23, 6, 24, 29, 30, 31, 32, 33, 34, 35, 36, 37] (by decide +kernel) (by decide +kernel)
set_option maxRecDepth 20000 in
theorem gX2_takeTurn_X2_release : GoodIn wsX2_takeTurn (wsV RX2 69 RX2 yX2_release wsX2_release) := goodIn_app (goodIn_of _ (by decide +kernel)) ggX2_takeTurn_X2_release
set_option maxRecDepth 20000 in
theorem ggX2_takeTurn_X2_takeBottle : GoodIn wsX2_takeTurn wsX2_takeBottle := goodIn_r _ [28, 1, 22, 23, 6, 24, 29, 30, 31, 32] (by decide +kernel) (by decide +kernel)
set_option maxRecDepth 20000 in
theorem gX2_takeTurn_X2_takeBottle : GoodIn wsX2_takeTurn (wsV RX2 72 RX2 yX2_takeBottle wsX2_takeBottle) := goodIn_app (goodIn_of _ (by decide +kernel)) ggX2_takeTurn_X2_takeBottle
theorem dX2_takeTurn_0 : decode cX2_takeTurn 0 = .ok (.aload_n 0, 1) := by decide +kernel
theorem dX2_takeTurn_1 : decode cX2_takeTurn 1 = .ok (.getfield 11, 3) := by decide +kernel
theorem dX2_takeTurn_4 : decode cX2_takeTurn 4 = .ok (.iload_n 1, 1) := by decide +kernel
theorem dX2_takeTurn_5 : decode cX2_takeTurn 5 = .ok (.aaload, 1) := by decide +kernel
theorem dX2_takeTurn_6 : decode cX2_takeTurn 6 = .ok (.astore_n 2, 1) := by decide +kernel
theorem dX2_takeTurn_7 : decode cX2_takeTurn 7 = .ok (.aload_n 0, 1) := by decide +kernel
theorem dX2_takeTurn_8 : decode cX2_takeTurn 8 = .ok (.iload_n 1, 1) := by decide +kernel
theorem dX2_takeTurn_9 : decode cX2_takeTurn 9 = .ok (.invokevirtual 58, 3) := by decide +kernel
theorem dX2_takeTurn_12 : decode cX2_takeTurn 12 = .ok (.aload_n 0, 1) := by decide +kernel
theorem dX2_takeTurn_13 : decode cX2_takeTurn 13 = .ok (.getfield 19, 3) := by decide +kernel
theorem dX2_takeTurn_16 : decode cX2_takeTurn 16 = .ok (.iload_n 1, 1) := by decide +kernel
theorem dX2_takeTurn_17 : decode cX2_takeTurn 17 = .ok (.invokevirtual 61, 3) := by decide +kernel
theorem dX2_takeTurn_20 : decode cX2_takeTurn 20 = .ok (.ifCond .eq 9, 3) := by decide +kernel
theorem dX2_takeTurn_23 : decode cX2_takeTurn 23 = .ok (.aload_n 2, 1) := by decide +kernel
theorem dX2_takeTurn_24 : decode cX2_takeTurn 24 = .ok (.iconst 4, 1) := by decide +kernel
theorem dX2_takeTurn_25 : decode cX2_takeTurn 25 = .ok (.invokestatic 65, 3) := by decide +kernel
theorem dX2_takeTurn_28 : decode cX2_takeTurn 28 = .ok (.return_, 1) := by decide +kernel
theorem dX2_takeTurn_29 : decode cX2_takeTurn 29 = .ok (.aload_n 2, 1) := by decide +kernel
theorem dX2_takeTurn_30 : decode cX2_takeTurn 30 = .ok (.bipush 6, 2) := by decide +kernel
theorem dX2_takeTurn_32 : decode cX2_takeTurn 32 = .ok (.iaload, 1) := by decide +kernel
theorem dX2_takeTurn_33 : decode cX2_takeTurn 33 = .ok (.ifCond .ne 8, 3) := by decide +kernel
theorem dX2_takeTurn_36 : decode cX2_takeTurn 36 = .ok (.aload_n 0, 1) := by decide +kernel
theorem dX2_takeTurn_37 : decode cX2_takeTurn 37 = .ok (.iload_n 1, 1) := by decide +kernel
theorem dX2_takeTurn_38 : decode cX2_takeTurn 38 = .ok (.invokevirtual 69, 3) := by decide +kernel
theorem dX2_takeTurn_41 : decode cX2_takeTurn 41 = .ok (.aload_n 2, 1) := by decide +kernel
theorem dX2_takeTurn_42 : decode cX2_takeTurn 42 = .ok (.bipush 6, 2) := by decide +kernel
theorem dX2_takeTurn_44 : decode cX2_takeTurn 44 = .ok (.iaload, 1) := by decide +kernel
theorem dX2_takeTurn_45 : decode cX2_takeTurn 45 = .ok (.iconst (-1), 1) := by decide +kernel
theorem dX2_takeTurn_46 : decode cX2_takeTurn 46 = .ok (.if_icmp .ne 8, 3) := by decide +kernel
theorem dX2_takeTurn_49 : decode cX2_takeTurn 49 = .ok (.aload_n 0, 1) := by decide +kernel
theorem dX2_takeTurn_50 : decode cX2_takeTurn 50 = .ok (.iload_n 1, 1) := by decide +kernel
theorem dX2_takeTurn_51 : decode cX2_takeTurn 51 = .ok (.invokevirtual 72, 3) := by decide +kernel
theorem dX2_takeTurn_54 : decode cX2_takeTurn 54 = .ok (.aload_n 2, 1) := by decide +kernel
theorem dX2_takeTurn_55 : decode cX2_takeTurn 55 = .ok (.bipush 6, 2) := by decide +kernel
theorem dX2_takeTurn_57 : decode cX2_takeTurn 57 = .ok (.iaload, 1) := by decide +kernel
theorem dX2_takeTurn_58 : decode cX2_takeTurn 58 = .ok (.ifCond .le 31, 3) := by decide +kernel
theorem dX2_takeTurn_61 : decode cX2_takeTurn 61 = .ok (.aload_n 2, 1) := by decide +kernel
theorem dX2_takeTurn_62 : decode cX2_takeTurn 62 = .ok (.bipush 6, 2) := by decide +kernel
theorem dX2_takeTurn_64 : decode cX2_takeTurn 64 = .ok (.dup2, 1) := by decide +kernel
theorem dX2_takeTurn_65 : decode cX2_takeTurn 65 = .ok (.iaload, 1) := by decide +kernel
theorem dX2_takeTurn_66 : decode cX2_takeTurn 66 = .ok (.iconst 1, 1) := by decide +kernel
theorem dX2_takeTurn_67 : decode cX2_takeTurn 67 = .ok (.isub, 1) := by decide +kernel
theorem dX2_takeTurn_68 : decode cX2_takeTurn 68 = .ok (.iastore, 1) := by decide +kernel
theorem dX2_takeTurn_69 : decode cX2_takeTurn 69 = .ok (.aload_n 2, 1) := by decide +kernel
theorem dX2_takeTurn_70 : decode cX2_takeTurn 70 = .ok (.iconst 1, 1) := by decide +kernel
theorem dX2_takeTurn_71 : decode cX2_takeTurn 71 = .ok (.invokestatic 65, 3) := by decide +kernel
theorem dX2_takeTurn_74 : decode cX2_takeTurn 74 = .ok (.aload_n 2, 1) := by decide +kernel
theorem dX2_takeTurn_75 : decode cX2_takeTurn 75 = .ok (.bipush 6, 2) := by decide +kernel
theorem dX2_takeTurn_77 : decode cX2_takeTurn 77 = .ok (.iaload, 1) := by decide +kernel
theorem dX2_takeTurn_78 : decode cX2_takeTurn 78 = .ok (.ifCond .ne 27, 3) := by decide +kernel
theorem dX2_takeTurn_81 : decode cX2_takeTurn 81 = .ok (.aload_n 0, 1) := by decide +kernel
theorem dX2_takeTurn_82 : decode cX2_takeTurn 82 = .ok (.iload_n 1, 1) := by decide +kernel
theorem dX2_takeTurn_83 : decode cX2_takeTurn 83 = .ok (.invokevirtual 69, 3) := by decide +kernel
theorem dX2_takeTurn_86 : decode cX2_takeTurn 86 = .ok (.goto 19, 3) := by decide +kernel
theorem dX2_takeTurn_89 : decode cX2_takeTurn 89 = .ok (.aload_n 2, 1) := by decide +kernel
theorem dX2_takeTurn_90 : decode cX2_takeTurn 90 = .ok (.aload_n 2, 1) := by decide +kernel
theorem dX2_takeTurn_91 : decode cX2_takeTurn 91 = .ok (.bipush 6, 2) := by decide +kernel
theorem dX2_takeTurn_93 : decode cX2_takeTurn 93 = .ok (.iaload, 1) := by decide +kernel
theorem dX2_takeTurn_94 : decode cX2_takeTurn 94 = .ok (.ifCond .ne 7, 3) := by decide +kernel
theorem dX2_takeTurn_97 : decode cX2_takeTurn 97 = .ok (.iconst 3, 1) := by decide +kernel
theorem dX2_takeTurn_98 : decode cX2_takeTurn 98 = .ok (.goto 4, 3) := by decide +kernel
theorem dX2_takeTurn_101 : decode cX2_takeTurn 101 = .ok (.iconst 2, 1) := by decide +kernel
theorem dX2_takeTurn_102 : decode cX2_takeTurn 102 = .ok (.invokestatic 65, 3) := by decide +kernel
theorem dX2_takeTurn_105 : decode cX2_takeTurn 105 = .ok (.return_, 1) := by decide +kernel
theorem dX2_chooseSpeed_0 : decode cX2_chooseSpeed 0 = .ok (.aload_n 0, 1) := by decide +kernel
theorem dX2_chooseSpeed_1 : decode cX2_chooseSpeed 1 = .ok (.getfield 11, 3) := by decide +kernel
theorem dX2_chooseSpeed_4 : decode cX2_chooseSpeed 4 = .ok (.iload_n 1, 1) := by decide +kernel
theorem dX2_chooseSpeed_5 : decode cX2_chooseSpeed 5 = .ok (.aaload, 1) := by decide +kernel
theorem dX2_chooseSpeed_6 : decode cX2_chooseSpeed 6 = .ok (.astore_n 2, 1) := by decide +kernel
theorem dX2_chooseSpeed_7 : decode cX2_chooseSpeed 7 = .ok (.iload_n 1, 1) := by decide +kernel
theorem dX2_chooseSpeed_8 : decode cX2_chooseSpeed 8 = .ok (.aload_n 0, 1) := by decide +kernel
theorem dX2_chooseSpeed_9 : decode cX2_chooseSpeed 9 = .ok (.getfield 23, 3) := by decide +kernel
theorem dX2_chooseSpeed_12 : decode cX2_chooseSpeed 12 = .ok (.iconst 1, 1) := by decide +kernel
theorem dX2_chooseSpeed_13 : decode cX2_chooseSpeed 13 = .ok (.isub, 1) := by decide +kernel
theorem dX2_chooseSpeed_14 : decode cX2_chooseSpeed 14 = .ok (.if_icmp .eq 12, 3) := by decide +kernel
theorem dX2_chooseSpeed_17 : decode cX2_chooseSpeed 17 = .ok (.aload_n 2, 1) := by decide +kernel
theorem dX2_chooseSpeed_18 : decode cX2_chooseSpeed 18 = .ok (.iconst 5, 1) := by decide +kernel
theorem dX2_chooseSpeed_19 : decode cX2_chooseSpeed 19 = .ok (.iaload, 1) := by decide +kernel
theorem dX2_chooseSpeed_20 : decode cX2_chooseSpeed 20 = .ok (.aload_n 2, 1) := by decide +kernel
theorem dX2_chooseSpeed_21 : decode cX2_chooseSpeed 21 = .ok (.iconst 2, 1) := by decide +kernel
theorem dX2_chooseSpeed_22 : decode cX2_chooseSpeed 22 = .ok (.iaload, 1) := by decide +kernel
theorem dX2_chooseSpeed_23 : decode cX2_chooseSpeed 23 = .ok (.if_icmp .gt 11, 3) := by decide +kernel
theorem dX2_chooseSpeed_26 : decode cX2_chooseSpeed 26 = .ok (.aload_n 2, 1) := by decide +kernel
theorem dX2_chooseSpeed_27 : decode cX2_chooseSpeed 27 = .ok (.bipush 7, 2) := by decide +kernel
theorem dX2_chooseSpeed_29 : decode cX2_chooseSpeed 29 = .ok (.iconst 1, 1) := by decide +kernel
theorem dX2_chooseSpeed_30 : decode cX2_chooseSpeed 30 = .ok (.iastore, 1) := by decide +kernel
theorem dX2_chooseSpeed_31 : decode cX2_chooseSpeed 31 = .ok (.goto 17, 3) := by decide +kernel
theorem dX2_chooseSpeed_34 : decode cX2_chooseSpeed 34 = .ok (.aload_n 2, 1) := by decide +kernel
theorem dX2_chooseSpeed_35 : decode cX2_chooseSpeed 35 = .ok (.iconst 5, 1) := by decide +kernel
theorem dX2_chooseSpeed_36 : decode cX2_chooseSpeed 36 = .ok (.iaload, 1) := by decide +kernel
theorem dX2_chooseSpeed_37 : decode cX2_chooseSpeed 37 = .ok (.aload_n 2, 1) := by decide +kernel
theorem dX2_chooseSpeed_38 : decode cX2_chooseSpeed 38 = .ok (.iconst 3, 1) := by decide +kernel
theorem dX2_chooseSpeed_39 : decode cX2_chooseSpeed 39 = .ok (.iaload, 1) := by decide +kernel
theorem dX2_chooseSpeed_40 : decode cX2_chooseSpeed 40 = .ok (.if_icmp .lt 8, 3) := by decide +kernel
theorem dX2_chooseSpeed_43 : decode cX2_chooseSpeed 43 = .ok (.aload_n 2, 1) := by decide +kernel
theorem dX2_chooseSpeed_44 : decode cX2_chooseSpeed 44 = .ok (.bipush 7, 2) := by decide +kernel
theorem dX2_chooseSpeed_46 : decode cX2_chooseSpeed 46 = .ok (.iconst 0, 1) := by decide +kernel
theorem dX2_chooseSpeed_47 : decode cX2_chooseSpeed 47 = .ok (.iastore, 1) := by decide +kernel
theorem dX2_chooseSpeed_48 : decode cX2_chooseSpeed 48 = .ok (.return_, 1) := by decide +kernel
theorem dX2_noteTurn_0 : decode cX2_noteTurn 0 = .ok (.aload_n 0, 1) := by decide +kernel
theorem dX2_noteTurn_1 : decode cX2_noteTurn 1 = .ok (.bipush 8, 2) := by decide +kernel
theorem dX2_noteTurn_3 : decode cX2_noteTurn 3 = .ok (.iload_n 1, 1) := by decide +kernel
theorem dX2_noteTurn_4 : decode cX2_noteTurn 4 = .ok (.iastore, 1) := by decide +kernel
theorem dX2_noteTurn_5 : decode cX2_noteTurn 5 = .ok (.aload_n 0, 1) := by decide +kernel
theorem dX2_noteTurn_6 : decode cX2_noteTurn 6 = .ok (.bipush 9, 2) := by decide +kernel
theorem dX2_noteTurn_8 : decode cX2_noteTurn 8 = .ok (.iload_n 1, 1) := by decide +kernel
theorem dX2_noteTurn_9 : decode cX2_noteTurn 9 = .ok (.iadd, 1) := by decide +kernel
theorem dX2_noteTurn_10 : decode cX2_noteTurn 10 = .ok (.iconst 1, 1) := by decide +kernel
theorem dX2_noteTurn_11 : decode cX2_noteTurn 11 = .ok (.isub, 1) := by decide +kernel
theorem dX2_noteTurn_12 : decode cX2_noteTurn 12 = .ok (.dup2, 1) := by decide +kernel
theorem dX2_noteTurn_13 : decode cX2_noteTurn 13 = .ok (.iaload, 1) := by decide +kernel
theorem dX2_noteTurn_14 : decode cX2_noteTurn 14 = .ok (.iconst 1, 1) := by decide +kernel
theorem dX2_noteTurn_15 : decode cX2_noteTurn 15 = .ok (.iadd, 1) := by decide +kernel
theorem dX2_noteTurn_16 : decode cX2_noteTurn 16 = .ok (.iastore, 1) := by decide +kernel
theorem dX2_noteTurn_17 : decode cX2_noteTurn 17 = .ok (.return_, 1) := by decide +kernel
set_option maxRecDepth 20000 in
theorem ggX2_release_X4_isDown : GoodIn wsX2_release wsX4_isDown := goodIn_r _ [8, 9, 18, 19, 20, 21, 22] (by decide +kernel) (by decide +kernel)
set_option maxRecDepth 20000 in
theorem gX2_release_X4_isDown : GoodIn wsX2_release (wsV RX2 61 RX4 yX4_isDown wsX4_isDown) := goodIn_app (goodIn_of _ (by decide +kernel)) ggX2_release_X4_isDown
set_option maxRecDepth 20000 in
theorem ggX2_release_X2_presentCycle : GoodIn wsX2_release wsX2_presentCycle := goodIn_r _ [13] (by decide +kernel) (by decide +kernel)
set_option maxRecDepth 20000 in
theorem gX2_release_X2_presentCycle : GoodIn wsX2_release (va_wsS RX2 75 yX2_presentCycle wsX2_presentCycle) := goodIn_app (goodIn_of _ (by decide +kernel)) ggX2_release_X2_presentCycle
theorem dX2_release_0 : decode cX2_release 0 = .ok (.aload_n 0, 1) := by decide +kernel
theorem dX2_release_1 : decode cX2_release 1 = .ok (.getfield 11, 3) := by decide +kernel
theorem dX2_release_4 : decode cX2_release 4 = .ok (.iload_n 1, 1) := by decide +kernel
theorem dX2_release_5 : decode cX2_release 5 = .ok (.aaload, 1) := by decide +kernel
theorem dX2_release_6 : decode cX2_release 6 = .ok (.astore_n 2, 1) := by decide +kernel
theorem dX2_release_7 : decode cX2_release 7 = .ok (.iload_n 1, 1) := by decide +kernel
theorem dX2_release_8 : decode cX2_release 8 = .ok (.aload_n 0, 1) := by decide +kernel
theorem dX2_release_9 : decode cX2_release 9 = .ok (.getfield 23, 3) := by decide +kernel
theorem dX2_release_12 : decode cX2_release 12 = .ok (.iconst 1, 1) := by decide +kernel
theorem dX2_release_13 : decode cX2_release 13 = .ok (.isub, 1) := by decide +kernel
theorem dX2_release_14 : decode cX2_release 14 = .ok (.if_icmp .ge 70, 3) := by decide +kernel
theorem dX2_release_17 : decode cX2_release 17 = .ok (.aload_n 0, 1) := by decide +kernel
theorem dX2_release_18 : decode cX2_release 18 = .ok (.getfield 11, 3) := by decide +kernel
theorem dX2_release_21 : decode cX2_release 21 = .ok (.iload_n 1, 1) := by decide +kernel
theorem dX2_release_22 : decode cX2_release 22 = .ok (.iconst 1, 1) := by decide +kernel
theorem dX2_release_23 : decode cX2_release 23 = .ok (.iadd, 1) := by decide +kernel
theorem dX2_release_24 : decode cX2_release 24 = .ok (.aaload, 1) := by decide +kernel
theorem dX2_release_25 : decode cX2_release 25 = .ok (.astore_n 3, 1) := by decide +kernel
theorem dX2_release_26 : decode cX2_release 26 = .ok (.aload_n 2, 1) := by decide +kernel
theorem dX2_release_27 : decode cX2_release 27 = .ok (.iconst 5, 1) := by decide +kernel
theorem dX2_release_28 : decode cX2_release 28 = .ok (.iaload, 1) := by decide +kernel
theorem dX2_release_29 : decode cX2_release 29 = .ok (.ifCond .ne 35, 3) := by decide +kernel
theorem dX2_release_32 : decode cX2_release 32 = .ok (.aload_n 3, 1) := by decide +kernel
theorem dX2_release_33 : decode cX2_release 33 = .ok (.bipush 6, 2) := by decide +kernel
theorem dX2_release_35 : decode cX2_release 35 = .ok (.iaload, 1) := by decide +kernel
theorem dX2_release_36 : decode cX2_release 36 = .ok (.iconst (-1), 1) := by decide +kernel
theorem dX2_release_37 : decode cX2_release 37 = .ok (.if_icmp .ne 27, 3) := by decide +kernel
theorem dX2_release_40 : decode cX2_release 40 = .ok (.aload_n 0, 1) := by decide +kernel
theorem dX2_release_41 : decode cX2_release 41 = .ok (.getfield 19, 3) := by decide +kernel
theorem dX2_release_44 : decode cX2_release 44 = .ok (.iload_n 1, 1) := by decide +kernel
theorem dX2_release_45 : decode cX2_release 45 = .ok (.iconst 1, 1) := by decide +kernel
theorem dX2_release_46 : decode cX2_release 46 = .ok (.iadd, 1) := by decide +kernel
theorem dX2_release_47 : decode cX2_release 47 = .ok (.invokevirtual 61, 3) := by decide +kernel
theorem dX2_release_50 : decode cX2_release 50 = .ok (.ifCond .ne 14, 3) := by decide +kernel
theorem dX2_release_53 : decode cX2_release 53 = .ok (.aload_n 3, 1) := by decide +kernel
theorem dX2_release_54 : decode cX2_release 54 = .ok (.bipush 6, 2) := by decide +kernel
theorem dX2_release_56 : decode cX2_release 56 = .ok (.aload_n 3, 1) := by decide +kernel
theorem dX2_release_57 : decode cX2_release 57 = .ok (.invokestatic 75, 3) := by decide +kernel
theorem dX2_release_60 : decode cX2_release 60 = .ok (.iastore, 1) := by decide +kernel
theorem dX2_release_61 : decode cX2_release 61 = .ok (.goto 23, 3) := by decide +kernel
theorem dX2_release_64 : decode cX2_release 64 = .ok (.aload_n 2, 1) := by decide +kernel
theorem dX2_release_65 : decode cX2_release 65 = .ok (.iconst 5, 1) := by decide +kernel
theorem dX2_release_66 : decode cX2_release 66 = .ok (.iaload, 1) := by decide +kernel
theorem dX2_release_67 : decode cX2_release 67 = .ok (.aload_n 2, 1) := by decide +kernel
theorem dX2_release_68 : decode cX2_release 68 = .ok (.iconst 4, 1) := by decide +kernel
theorem dX2_release_69 : decode cX2_release 69 = .ok (.iaload, 1) := by decide +kernel
theorem dX2_release_70 : decode cX2_release 70 = .ok (.if_icmp .ge 13, 3) := by decide +kernel
theorem dX2_release_73 : decode cX2_release 73 = .ok (.aload_n 2, 1) := by decide +kernel
theorem dX2_release_74 : decode cX2_release 74 = .ok (.iconst 5, 1) := by decide +kernel
theorem dX2_release_75 : decode cX2_release 75 = .ok (.dup2, 1) := by decide +kernel
theorem dX2_release_76 : decode cX2_release 76 = .ok (.iaload, 1) := by decide +kernel
theorem dX2_release_77 : decode cX2_release 77 = .ok (.iconst 1, 1) := by decide +kernel
theorem dX2_release_78 : decode cX2_release 78 = .ok (.iadd, 1) := by decide +kernel
theorem dX2_release_79 : decode cX2_release 79 = .ok (.iastore, 1) := by decide +kernel
theorem dX2_release_80 : decode cX2_release 80 = .ok (.goto 4, 3) := by decide +kernel
theorem dX2_release_83 : decode cX2_release 83 = .ok (.return_, 1) := by decide +kernel
theorem dX2_release_84 : decode cX2_release 84 = .ok (.aload_n 2, 1) := by decide +kernel
theorem dX2_release_85 : decode cX2_release 85 = .ok (.bipush 6, 2) := by decide +kernel
theorem dX2_release_87 : decode cX2_release 87 = .ok (.iconst (-1), 1) := by decide +kernel
theorem dX2_release_88 : decode cX2_release 88 = .ok (.iastore, 1) := by decide +kernel
theorem dX2_release_89 : decode cX2_release 89 = .ok (.aload_n 2, 1) := by decide +kernel
theorem dX2_release_90 : decode cX2_release 90 = .ok (.bipush 13, 2) := by decide +kernel
theorem dX2_release_92 : decode cX2_release 92 = .ok (.dup2, 1) := by decide +kernel
theorem dX2_release_93 : decode cX2_release 93 = .ok (.iaload, 1) := by decide +kernel
theorem dX2_release_94 : decode cX2_release 94 = .ok (.iconst 1, 1) := by decide +kernel
theorem dX2_release_95 : decode cX2_release 95 = .ok (.iadd, 1) := by decide +kernel
theorem dX2_release_96 : decode cX2_release 96 = .ok (.iastore, 1) := by decide +kernel
theorem dX2_release_97 : decode cX2_release 97 = .ok (.return_, 1) := by decide +kernel
set_option maxRecDepth 20000 in
theorem ggX2_takeBottle_X2_presentCycle : GoodIn wsX2_takeBottle wsX2_presentCycle := goodIn_r _ [5] (by decide +kernel) (by decide +kernel)
set_option maxRecDepth 20000 in
theorem gX2_takeBottle_X2_presentCycle : GoodIn wsX2_takeBottle (va_wsS RX2 75 yX2_presentCycle wsX2_presentCycle) := goodIn_app (goodIn_of _ (by decide +kernel)) ggX2_takeBottle_X2_presentCycle
theorem dX2_takeBottle_0 : decode cX2_takeBottle 0 = .ok (.aload_n 0, 1) := by decide +kernel
theorem dX2_takeBottle_1 : decode cX2_takeBottle 1 = .ok (.getfield 11, 3) := by decide +kernel
theorem dX2_takeBottle_4 : decode cX2_takeBottle 4 = .ok (.iload_n 1, 1) := by decide +kernel
theorem dX2_takeBottle_5 : decode cX2_takeBottle 5 = .ok (.aaload, 1) := by decide +kernel
theorem dX2_takeBottle_6 : decode cX2_takeBottle 6 = .ok (.astore_n 2, 1) := by decide +kernel
theorem dX2_takeBottle_7 : decode cX2_takeBottle 7 = .ok (.iload_n 1, 1) := by decide +kernel
theorem dX2_takeBottle_8 : decode cX2_takeBottle 8 = .ok (.ifCond .le 26, 3) := by decide +kernel
theorem dX2_takeBottle_11 : decode cX2_takeBottle 11 = .ok (.aload_n 0, 1) := by decide +kernel
theorem dX2_takeBottle_12 : decode cX2_takeBottle 12 = .ok (.getfield 11, 3) := by decide +kernel
theorem dX2_takeBottle_15 : decode cX2_takeBottle 15 = .ok (.iload_n 1, 1) := by decide +kernel
theorem dX2_takeBottle_16 : decode cX2_takeBottle 16 = .ok (.iconst 1, 1) := by decide +kernel
theorem dX2_takeBottle_17 : decode cX2_takeBottle 17 = .ok (.isub, 1) := by decide +kernel
theorem dX2_takeBottle_18 : decode cX2_takeBottle 18 = .ok (.aaload, 1) := by decide +kernel
theorem dX2_takeBottle_19 : decode cX2_takeBottle 19 = .ok (.astore_n 3, 1) := by decide +kernel
theorem dX2_takeBottle_20 : decode cX2_takeBottle 20 = .ok (.aload_n 3, 1) := by decide +kernel
theorem dX2_takeBottle_21 : decode cX2_takeBottle 21 = .ok (.iconst 5, 1) := by decide +kernel
theorem dX2_takeBottle_22 : decode cX2_takeBottle 22 = .ok (.iaload, 1) := by decide +kernel
theorem dX2_takeBottle_23 : decode cX2_takeBottle 23 = .ok (.ifCond .ne 4, 3) := by decide +kernel
theorem dX2_takeBottle_26 : decode cX2_takeBottle 26 = .ok (.return_, 1) := by decide +kernel
theorem dX2_takeBottle_27 : decode cX2_takeBottle 27 = .ok (.aload_n 3, 1) := by decide +kernel
theorem dX2_takeBottle_28 : decode cX2_takeBottle 28 = .ok (.iconst 5, 1) := by decide +kernel
theorem dX2_takeBottle_29 : decode cX2_takeBottle 29 = .ok (.dup2, 1) := by decide +kernel
theorem dX2_takeBottle_30 : decode cX2_takeBottle 30 = .ok (.iaload, 1) := by decide +kernel
theorem dX2_takeBottle_31 : decode cX2_takeBottle 31 = .ok (.iconst 1, 1) := by decide +kernel
theorem dX2_takeBottle_32 : decode cX2_takeBottle 32 = .ok (.isub, 1) := by decide +kernel
theorem dX2_takeBottle_33 : decode cX2_takeBottle 33 = .ok (.iastore, 1) := by decide +kernel
theorem dX2_takeBottle_34 : decode cX2_takeBottle 34 = .ok (.aload_n 2, 1) := by decide +kernel
theorem dX2_takeBottle_35 : decode cX2_takeBottle 35 = .ok (.bipush 6, 2) := by decide +kernel
theorem dX2_takeBottle_37 : decode cX2_takeBottle 37 = .ok (.aload_n 2, 1) := by decide +kernel
theorem dX2_takeBottle_38 : decode cX2_takeBottle 38 = .ok (.invokestatic 75, 3) := by decide +kernel
theorem dX2_takeBottle_41 : decode cX2_takeBottle 41 = .ok (.iastore, 1) := by decide +kernel
theorem dX2_takeBottle_42 : decode cX2_takeBottle 42 = .ok (.return_, 1) := by decide +kernel
theorem dX2_presentCycle_0 : decode cX2_presentCycle 0 = .ok (.aload_n 0, 1) := by decide +kernel
theorem dX2_presentCycle_1 : decode cX2_presentCycle 1 = .ok (.bipush 7, 2) := by decide +kernel
theorem dX2_presentCycle_3 : decode cX2_presentCycle 3 = .ok (.iaload, 1) := by decide +kernel
theorem dX2_presentCycle_4 : decode cX2_presentCycle 4 = .ok (.iconst 1, 1) := by decide +kernel
theorem dX2_presentCycle_5 : decode cX2_presentCycle 5 = .ok (.if_icmp .ne 9, 3) := by decide +kernel
theorem dX2_presentCycle_8 : decode cX2_presentCycle 8 = .ok (.aload_n 0, 1) := by decide +kernel
theorem dX2_presentCycle_9 : decode cX2_presentCycle 9 = .ok (.iconst 1, 1) := by decide +kernel
theorem dX2_presentCycle_10 : decode cX2_presentCycle 10 = .ok (.iaload, 1) := by decide +kernel
theorem dX2_presentCycle_11 : decode cX2_presentCycle 11 = .ok (.goto 6, 3) := by decide +kernel
theorem dX2_presentCycle_14 : decode cX2_presentCycle 14 = .ok (.aload_n 0, 1) := by decide +kernel
theorem dX2_presentCycle_15 : decode cX2_presentCycle 15 = .ok (.iconst 0, 1) := by decide +kernel
theorem dX2_presentCycle_16 : decode cX2_presentCycle 16 = .ok (.iaload, 1) := by decide +kernel
theorem dX2_presentCycle_17 : decode cX2_presentCycle 17 = .ok (.ireturn, 1) := by decide +kernel
theorem dX2_countFills_0 : decode cX2_countFills 0 = .ok (.iconst 0, 1) := by decide +kernel
theorem dX2_countFills_1 : decode cX2_countFills 1 = .ok (.istore_n 1, 1) := by decide +kernel
theorem dX2_countFills_2 : decode cX2_countFills 2 = .ok (.iload_n 1, 1) := by decide +kernel
theorem dX2_countFills_3 : decode cX2_countFills 3 = .ok (.aload_n 0, 1) := by decide +kernel
theorem dX2_countFills_4 : decode cX2_countFills 4 = .ok (.getfield 23, 3) := by decide +kernel
theorem dX2_countFills_7 : decode cX2_countFills 7 = .ok (.iconst 1, 1) := by decide +kernel
theorem dX2_countFills_8 : decode cX2_countFills 8 = .ok (.isub, 1) := by decide +kernel
theorem dX2_countFills_9 : decode cX2_countFills 9 = .ok (.if_icmp .ge 43, 3) := by decide +kernel
theorem dX2_countFills_12 : decode cX2_countFills 12 = .ok (.aload_n 0, 1) := by decide +kernel
theorem dX2_countFills_13 : decode cX2_countFills 13 = .ok (.getfield 11, 3) := by decide +kernel
theorem dX2_countFills_16 : decode cX2_countFills 16 = .ok (.iload_n 1, 1) := by decide +kernel
theorem dX2_countFills_17 : decode cX2_countFills 17 = .ok (.aaload, 1) := by decide +kernel
theorem dX2_countFills_18 : decode cX2_countFills 18 = .ok (.astore_n 2, 1) := by decide +kernel
theorem dX2_countFills_19 : decode cX2_countFills 19 = .ok (.aload_n 2, 1) := by decide +kernel
theorem dX2_countFills_20 : decode cX2_countFills 20 = .ok (.bipush 15, 2) := by decide +kernel
theorem dX2_countFills_22 : decode cX2_countFills 22 = .ok (.dup2, 1) := by decide +kernel
theorem dX2_countFills_23 : decode cX2_countFills 23 = .ok (.iaload, 1) := by decide +kernel
theorem dX2_countFills_24 : decode cX2_countFills 24 = .ok (.aload_n 2, 1) := by decide +kernel
theorem dX2_countFills_25 : decode cX2_countFills 25 = .ok (.iconst 5, 1) := by decide +kernel
theorem dX2_countFills_26 : decode cX2_countFills 26 = .ok (.iaload, 1) := by decide +kernel
theorem dX2_countFills_27 : decode cX2_countFills 27 = .ok (.iadd, 1) := by decide +kernel
theorem dX2_countFills_28 : decode cX2_countFills 28 = .ok (.iastore, 1) := by decide +kernel
theorem dX2_countFills_29 : decode cX2_countFills 29 = .ok (.aload_n 2, 1) := by decide +kernel
theorem dX2_countFills_30 : decode cX2_countFills 30 = .ok (.iconst 5, 1) := by decide +kernel
theorem dX2_countFills_31 : decode cX2_countFills 31 = .ok (.iaload, 1) := by decide +kernel
theorem dX2_countFills_32 : decode cX2_countFills 32 = .ok (.aload_n 2, 1) := by decide +kernel
theorem dX2_countFills_33 : decode cX2_countFills 33 = .ok (.iconst 4, 1) := by decide +kernel
theorem dX2_countFills_34 : decode cX2_countFills 34 = .ok (.iaload, 1) := by decide +kernel
theorem dX2_countFills_35 : decode cX2_countFills 35 = .ok (.if_icmp .lt 11, 3) := by decide +kernel
theorem dX2_countFills_38 : decode cX2_countFills 38 = .ok (.aload_n 2, 1) := by decide +kernel
theorem dX2_countFills_39 : decode cX2_countFills 39 = .ok (.bipush 14, 2) := by decide +kernel
theorem dX2_countFills_41 : decode cX2_countFills 41 = .ok (.dup2, 1) := by decide +kernel
theorem dX2_countFills_42 : decode cX2_countFills 42 = .ok (.iaload, 1) := by decide +kernel
theorem dX2_countFills_43 : decode cX2_countFills 43 = .ok (.iconst 1, 1) := by decide +kernel
theorem dX2_countFills_44 : decode cX2_countFills 44 = .ok (.iadd, 1) := by decide +kernel
theorem dX2_countFills_45 : decode cX2_countFills 45 = .ok (.iastore, 1) := by decide +kernel
theorem dX2_countFills_46 : decode cX2_countFills 46 = .ok (.iinc 1 1, 3) := by decide +kernel
theorem dX2_countFills_49 : decode cX2_countFills 49 = .ok (.goto (-47), 3) := by decide +kernel
theorem dX2_countFills_52 : decode cX2_countFills 52 = .ok (.return_, 1) := by decide +kernel
theorem dX2_bottlesOut_0 : decode cX2_bottlesOut 0 = .ok (.aload_n 0, 1) := by decide +kernel
theorem dX2_bottlesOut_1 : decode cX2_bottlesOut 1 = .ok (.getfield 23, 3) := by decide +kernel
theorem dX2_bottlesOut_4 : decode cX2_bottlesOut 4 = .ok (.ifCond .ne 7, 3) := by decide +kernel
theorem dX2_bottlesOut_7 : decode cX2_bottlesOut 7 = .ok (.iconst 0, 1) := by decide +kernel
theorem dX2_bottlesOut_8 : decode cX2_bottlesOut 8 = .ok (.goto 17, 3) := by decide +kernel
theorem dX2_bottlesOut_11 : decode cX2_bottlesOut 11 = .ok (.aload_n 0, 1) := by decide +kernel
theorem dX2_bottlesOut_12 : decode cX2_bottlesOut 12 = .ok (.getfield 11, 3) := by decide +kernel
theorem dX2_bottlesOut_15 : decode cX2_bottlesOut 15 = .ok (.aload_n 0, 1) := by decide +kernel
theorem dX2_bottlesOut_16 : decode cX2_bottlesOut 16 = .ok (.getfield 23, 3) := by decide +kernel
theorem dX2_bottlesOut_19 : decode cX2_bottlesOut 19 = .ok (.iconst 1, 1) := by decide +kernel
theorem dX2_bottlesOut_20 : decode cX2_bottlesOut 20 = .ok (.isub, 1) := by decide +kernel
theorem dX2_bottlesOut_21 : decode cX2_bottlesOut 21 = .ok (.aaload, 1) := by decide +kernel
theorem dX2_bottlesOut_22 : decode cX2_bottlesOut 22 = .ok (.bipush 13, 2) := by decide +kernel
theorem dX2_bottlesOut_24 : decode cX2_bottlesOut 24 = .ok (.iaload, 1) := by decide +kernel
theorem dX2_bottlesOut_25 : decode cX2_bottlesOut 25 = .ok (.ireturn, 1) := by decide +kernel
theorem dX2_bottlesInside_0 : decode cX2_bottlesInside 0 = .ok (.iconst 0, 1) := by decide +kernel
theorem dX2_bottlesInside_1 : decode cX2_bottlesInside 1 = .ok (.istore_n 1, 1) := by decide +kernel
theorem dX2_bottlesInside_2 : decode cX2_bottlesInside 2 = .ok (.iconst 0, 1) := by decide +kernel
theorem dX2_bottlesInside_3 : decode cX2_bottlesInside 3 = .ok (.istore_n 2, 1) := by decide +kernel
theorem dX2_bottlesInside_4 : decode cX2_bottlesInside 4 = .ok (.iload_n 2, 1) := by decide +kernel
theorem dX2_bottlesInside_5 : decode cX2_bottlesInside 5 = .ok (.aload_n 0, 1) := by decide +kernel
theorem dX2_bottlesInside_6 : decode cX2_bottlesInside 6 = .ok (.getfield 23, 3) := by decide +kernel
theorem dX2_bottlesInside_9 : decode cX2_bottlesInside 9 = .ok (.if_icmp .ge 39, 3) := by decide +kernel
theorem dX2_bottlesInside_12 : decode cX2_bottlesInside 12 = .ok (.iload_n 1, 1) := by decide +kernel
theorem dX2_bottlesInside_13 : decode cX2_bottlesInside 13 = .ok (.aload_n 0, 1) := by decide +kernel
theorem dX2_bottlesInside_14 : decode cX2_bottlesInside 14 = .ok (.getfield 11, 3) := by decide +kernel
theorem dX2_bottlesInside_17 : decode cX2_bottlesInside 17 = .ok (.iload_n 2, 1) := by decide +kernel
theorem dX2_bottlesInside_18 : decode cX2_bottlesInside 18 = .ok (.aaload, 1) := by decide +kernel
theorem dX2_bottlesInside_19 : decode cX2_bottlesInside 19 = .ok (.iconst 5, 1) := by decide +kernel
theorem dX2_bottlesInside_20 : decode cX2_bottlesInside 20 = .ok (.iaload, 1) := by decide +kernel
theorem dX2_bottlesInside_21 : decode cX2_bottlesInside 21 = .ok (.aload_n 0, 1) := by decide +kernel
theorem dX2_bottlesInside_22 : decode cX2_bottlesInside 22 = .ok (.getfield 11, 3) := by decide +kernel
theorem dX2_bottlesInside_25 : decode cX2_bottlesInside 25 = .ok (.iload_n 2, 1) := by decide +kernel
theorem dX2_bottlesInside_26 : decode cX2_bottlesInside 26 = .ok (.aaload, 1) := by decide +kernel
theorem dX2_bottlesInside_27 : decode cX2_bottlesInside 27 = .ok (.bipush 6, 2) := by decide +kernel
theorem dX2_bottlesInside_29 : decode cX2_bottlesInside 29 = .ok (.iaload, 1) := by decide +kernel
theorem dX2_bottlesInside_30 : decode cX2_bottlesInside 30 = .ok (.iconst (-1), 1) := by decide +kernel
theorem dX2_bottlesInside_31 : decode cX2_bottlesInside 31 = .ok (.if_icmp .ne 7, 3) := by decide +kernel
theorem dX2_bottlesInside_34 : decode cX2_bottlesInside 34 = .ok (.iconst 0, 1) := by decide +kernel
theorem dX2_bottlesInside_35 : decode cX2_bottlesInside 35 = .ok (.goto 4, 3) := by decide +kernel
theorem dX2_bottlesInside_38 : decode cX2_bottlesInside 38 = .ok (.iconst 1, 1) := by decide +kernel
theorem dX2_bottlesInside_39 : decode cX2_bottlesInside 39 = .ok (.iadd, 1) := by decide +kernel
theorem dX2_bottlesInside_40 : decode cX2_bottlesInside 40 = .ok (.iadd, 1) := by decide +kernel
theorem dX2_bottlesInside_41 : decode cX2_bottlesInside 41 = .ok (.istore_n 1, 1) := by decide +kernel
theorem dX2_bottlesInside_42 : decode cX2_bottlesInside 42 = .ok (.iinc 2 1, 3) := by decide +kernel
theorem dX2_bottlesInside_45 : decode cX2_bottlesInside 45 = .ok (.goto (-41), 3) := by decide +kernel
theorem dX2_bottlesInside_48 : decode cX2_bottlesInside 48 = .ok (.iload_n 1, 1) := by decide +kernel
theorem dX2_bottlesInside_49 : decode cX2_bottlesInside 49 = .ok (.ireturn, 1) := by decide +kernel
theorem dX2_findLimiting_0 : decode cX2_findLimiting 0 = .ok (.iconst 0, 1) := by decide +kernel
theorem dX2_findLimiting_1 : decode cX2_findLimiting 1 = .ok (.istore_n 1, 1) := by decide +kernel
theorem dX2_findLimiting_2 : decode cX2_findLimiting 2 = .ok (.ldc 79, 2) := by decide +kernel
theorem dX2_findLimiting_4 : decode cX2_findLimiting 4 = .ok (.istore_n 2, 1) := by decide +kernel
theorem dX2_findLimiting_5 : decode cX2_findLimiting 5 = .ok (.iconst 0, 1) := by decide +kernel
theorem dX2_findLimiting_6 : decode cX2_findLimiting 6 = .ok (.istore_n 3, 1) := by decide +kernel
theorem dX2_findLimiting_7 : decode cX2_findLimiting 7 = .ok (.iload_n 3, 1) := by decide +kernel
theorem dX2_findLimiting_8 : decode cX2_findLimiting 8 = .ok (.aload_n 0, 1) := by decide +kernel
theorem dX2_findLimiting_9 : decode cX2_findLimiting 9 = .ok (.getfield 23, 3) := by decide +kernel
theorem dX2_findLimiting_12 : decode cX2_findLimiting 12 = .ok (.if_icmp .ge 41, 3) := by decide +kernel
theorem dX2_findLimiting_15 : decode cX2_findLimiting 15 = .ok (.aload_n 0, 1) := by decide +kernel
theorem dX2_findLimiting_16 : decode cX2_findLimiting 16 = .ok (.getfield 11, 3) := by decide +kernel
theorem dX2_findLimiting_19 : decode cX2_findLimiting 19 = .ok (.iload_n 3, 1) := by decide +kernel
theorem dX2_findLimiting_20 : decode cX2_findLimiting 20 = .ok (.aaload, 1) := by decide +kernel
theorem dX2_findLimiting_21 : decode cX2_findLimiting 21 = .ok (.bipush 10, 2) := by decide +kernel
theorem dX2_findLimiting_23 : decode cX2_findLimiting 23 = .ok (.iaload, 1) := by decide +kernel
theorem dX2_findLimiting_24 : decode cX2_findLimiting 24 = .ok (.aload_n 0, 1) := by decide +kernel
theorem dX2_findLimiting_25 : decode cX2_findLimiting 25 = .ok (.getfield 11, 3) := by decide +kernel
theorem dX2_findLimiting_28 : decode cX2_findLimiting 28 = .ok (.iload_n 3, 1) := by decide +kernel
theorem dX2_findLimiting_29 : decode cX2_findLimiting 29 = .ok (.aaload, 1) := by decide +kernel
theorem dX2_findLimiting_30 : decode cX2_findLimiting 30 = .ok (.bipush 11, 2) := by decide +kernel
theorem dX2_findLimiting_32 : decode cX2_findLimiting 32 = .ok (.iaload, 1) := by decide +kernel
theorem dX2_findLimiting_33 : decode cX2_findLimiting 33 = .ok (.iadd, 1) := by decide +kernel
theorem dX2_findLimiting_34 : decode cX2_findLimiting 34 = .ok (.istore 4, 2) := by decide +kernel
theorem dX2_findLimiting_36 : decode cX2_findLimiting 36 = .ok (.iload 4, 2) := by decide +kernel
theorem dX2_findLimiting_38 : decode cX2_findLimiting 38 = .ok (.iload_n 2, 1) := by decide +kernel
theorem dX2_findLimiting_39 : decode cX2_findLimiting 39 = .ok (.if_icmp .ge 8, 3) := by decide +kernel
theorem dX2_findLimiting_42 : decode cX2_findLimiting 42 = .ok (.iload 4, 2) := by decide +kernel
theorem dX2_findLimiting_44 : decode cX2_findLimiting 44 = .ok (.istore_n 2, 1) := by decide +kernel
theorem dX2_findLimiting_45 : decode cX2_findLimiting 45 = .ok (.iload_n 3, 1) := by decide +kernel
theorem dX2_findLimiting_46 : decode cX2_findLimiting 46 = .ok (.istore_n 1, 1) := by decide +kernel
theorem dX2_findLimiting_47 : decode cX2_findLimiting 47 = .ok (.iinc 3 1, 3) := by decide +kernel
theorem dX2_findLimiting_50 : decode cX2_findLimiting 50 = .ok (.goto (-43), 3) := by decide +kernel
theorem dX2_findLimiting_53 : decode cX2_findLimiting 53 = .ok (.iload_n 1, 1) := by decide +kernel
theorem dX2_findLimiting_54 : decode cX2_findLimiting 54 = .ok (.ireturn, 1) := by decide +kernel
set_option maxRecDepth 20000 in
theorem ggX2_findSlowest_X2_mostBottles : GoodIn wsX2_findSlowest wsX2_mostBottles := goodIn_r _ [7, 8, 9, 10, 11, 6, 12, 13, 14, 15, 16, 17, 18, 19, 20, 21, 22, 23, 24, 25, 26, 27, 28, 29, 30, 31, 32, 33, 34, 35, 36, 37, 38, 39, 40, 41, 42] (by decide +kernel) (by decide +kernel)
set_option maxRecDepth 20000 in
theorem gX2_findSlowest_X2_mostBottles : GoodIn wsX2_findSlowest (wsV RX2 80 RX2 yX2_mostBottles wsX2_mostBottles) := goodIn_app (goodIn_of _ (by decide +kernel)) ggX2_findSlowest_X2_mostBottles
theorem dX2_findSlowest_0 : decode cX2_findSlowest 0 = .ok (.iconst 0, 1) := by decide +kernel
theorem dX2_findSlowest_1 : decode cX2_findSlowest 1 = .ok (.istore_n 2, 1) := by decide +kernel
theorem dX2_findSlowest_2 : decode cX2_findSlowest 2 = .ok (.ldc 79, 2) := by decide +kernel
theorem dX2_findSlowest_4 : decode cX2_findSlowest 4 = .ok (.istore_n 3, 1) := by decide +kernel
theorem dX2_findSlowest_5 : decode cX2_findSlowest 5 = .ok (.iconst 0, 1) := by decide +kernel
theorem dX2_findSlowest_6 : decode cX2_findSlowest 6 = .ok (.istore 4, 2) := by decide +kernel
theorem dX2_findSlowest_8 : decode cX2_findSlowest 8 = .ok (.iload 4, 2) := by decide +kernel
theorem dX2_findSlowest_10 : decode cX2_findSlowest 10 = .ok (.aload_n 0, 1) := by decide +kernel
theorem dX2_findSlowest_11 : decode cX2_findSlowest 11 = .ok (.getfield 23, 3) := by decide +kernel
theorem dX2_findSlowest_14 : decode cX2_findSlowest 14 = .ok (.if_icmp .ge 30, 3) := by decide +kernel
theorem dX2_findSlowest_17 : decode cX2_findSlowest 17 = .ok (.aload_n 0, 1) := by decide +kernel
theorem dX2_findSlowest_18 : decode cX2_findSlowest 18 = .ok (.iload 4, 2) := by decide +kernel
theorem dX2_findSlowest_20 : decode cX2_findSlowest 20 = .ok (.iload_n 1, 1) := by decide +kernel
theorem dX2_findSlowest_21 : decode cX2_findSlowest 21 = .ok (.invokevirtual 80, 3) := by decide +kernel
theorem dX2_findSlowest_24 : decode cX2_findSlowest 24 = .ok (.istore 5, 2) := by decide +kernel
theorem dX2_findSlowest_26 : decode cX2_findSlowest 26 = .ok (.iload 5, 2) := by decide +kernel
theorem dX2_findSlowest_28 : decode cX2_findSlowest 28 = .ok (.iload_n 3, 1) := by decide +kernel
theorem dX2_findSlowest_29 : decode cX2_findSlowest 29 = .ok (.if_icmp .ge 9, 3) := by decide +kernel
theorem dX2_findSlowest_32 : decode cX2_findSlowest 32 = .ok (.iload 5, 2) := by decide +kernel
theorem dX2_findSlowest_34 : decode cX2_findSlowest 34 = .ok (.istore_n 3, 1) := by decide +kernel
theorem dX2_findSlowest_35 : decode cX2_findSlowest 35 = .ok (.iload 4, 2) := by decide +kernel
theorem dX2_findSlowest_37 : decode cX2_findSlowest 37 = .ok (.istore_n 2, 1) := by decide +kernel
theorem dX2_findSlowest_38 : decode cX2_findSlowest 38 = .ok (.iinc 4 1, 3) := by decide +kernel
theorem dX2_findSlowest_41 : decode cX2_findSlowest 41 = .ok (.goto (-33), 3) := by decide +kernel
theorem dX2_findSlowest_44 : decode cX2_findSlowest 44 = .ok (.iload_n 2, 1) := by decide +kernel
theorem dX2_findSlowest_45 : decode cX2_findSlowest 45 = .ok (.ireturn, 1) := by decide +kernel
set_option maxRecDepth 20000 in
theorem ggX2_mostBottles_X2_upTicks : GoodIn wsX2_mostBottles wsX2_upTicks := goodIn_r _ [6, 7, 8, 9, 10, 11, 12, 13, 14, 15, 16, 17, 18, 19, 20, 21, 22, 23, 24, 25, 26, 27, 28, 29, 30, 31, 32, 33, 34, 35, 36] (by decide +kernel) (by decide +kernel)
set_option maxRecDepth 20000 in
theorem gX2_mostBottles_X2_upTicks : GoodIn wsX2_mostBottles (wsV RX2 84 RX2 yX2_upTicks wsX2_upTicks) := goodIn_app (goodIn_of _ (by decide +kernel)) ggX2_mostBottles_X2_upTicks
theorem dX2_mostBottles_0 : decode cX2_mostBottles 0 = .ok (.aload_n 0, 1) := by decide +kernel
theorem dX2_mostBottles_1 : decode cX2_mostBottles 1 = .ok (.getfield 11, 3) := by decide +kernel
theorem dX2_mostBottles_4 : decode cX2_mostBottles 4 = .ok (.iload_n 1, 1) := by decide +kernel
theorem dX2_mostBottles_5 : decode cX2_mostBottles 5 = .ok (.aaload, 1) := by decide +kernel
theorem dX2_mostBottles_6 : decode cX2_mostBottles 6 = .ok (.iconst 1, 1) := by decide +kernel
theorem dX2_mostBottles_7 : decode cX2_mostBottles 7 = .ok (.iaload, 1) := by decide +kernel
theorem dX2_mostBottles_8 : decode cX2_mostBottles 8 = .ok (.istore_n 3, 1) := by decide +kernel
theorem dX2_mostBottles_9 : decode cX2_mostBottles 9 = .ok (.iload_n 3, 1) := by decide +kernel
theorem dX2_mostBottles_10 : decode cX2_mostBottles 10 = .ok (.iconst 1, 1) := by decide +kernel
theorem dX2_mostBottles_11 : decode cX2_mostBottles 11 = .ok (.if_icmp .ge 7, 3) := by decide +kernel
theorem dX2_mostBottles_14 : decode cX2_mostBottles 14 = .ok (.iconst 0, 1) := by decide +kernel
theorem dX2_mostBottles_15 : decode cX2_mostBottles 15 = .ok (.goto 11, 3) := by decide +kernel
theorem dX2_mostBottles_18 : decode cX2_mostBottles 18 = .ok (.aload_n 0, 1) := by decide +kernel
theorem dX2_mostBottles_19 : decode cX2_mostBottles 19 = .ok (.iload_n 1, 1) := by decide +kernel
theorem dX2_mostBottles_20 : decode cX2_mostBottles 20 = .ok (.iload_n 2, 1) := by decide +kernel
theorem dX2_mostBottles_21 : decode cX2_mostBottles 21 = .ok (.invokevirtual 84, 3) := by decide +kernel
theorem dX2_mostBottles_24 : decode cX2_mostBottles 24 = .ok (.iload_n 3, 1) := by decide +kernel
theorem dX2_mostBottles_25 : decode cX2_mostBottles 25 = .ok (.idiv, 1) := by decide +kernel
theorem dX2_mostBottles_26 : decode cX2_mostBottles 26 = .ok (.ireturn, 1) := by decide +kernel
set_option maxRecDepth 20000 in
theorem ggX2_upTicks_X4_lookAt : GoodIn wsX2_upTicks wsX4_lookAt := goodIn_r _ [10, 11, 12, 13, 14, 15, 16, 3, 4, 5, 17, 26, 27, 28, 29, 30] (by decide +kernel) (by decide +kernel)
set_option maxRecDepth 20000 in
theorem gX2_upTicks_X4_lookAt : GoodIn wsX2_upTicks (wsV RX2 47 RX4 yX4_lookAt wsX4_lookAt) := goodIn_app (goodIn_of _ (by decide +kernel)) ggX2_upTicks_X4_lookAt
set_option maxRecDepth 20000 in
theorem ggX2_upTicks_X4_isDown : GoodIn wsX2_upTicks wsX4_isDown := goodIn_r _ [21, 12, 26, 27, 28, 29, 30] (by decide +kernel) (by decide +kernel)
set_option maxRecDepth 20000 in
theorem gX2_upTicks_X4_isDown : GoodIn wsX2_upTicks (wsV RX2 61 RX4 yX4_isDown wsX4_isDown) := goodIn_app (goodIn_of _ (by decide +kernel)) ggX2_upTicks_X4_isDown
theorem dX2_upTicks_0 : decode cX2_upTicks 0 = .ok (.iconst 0, 1) := by decide +kernel
theorem dX2_upTicks_1 : decode cX2_upTicks 1 = .ok (.istore_n 3, 1) := by decide +kernel
theorem dX2_upTicks_2 : decode cX2_upTicks 2 = .ok (.iconst 1, 1) := by decide +kernel
theorem dX2_upTicks_3 : decode cX2_upTicks 3 = .ok (.istore 4, 2) := by decide +kernel
theorem dX2_upTicks_5 : decode cX2_upTicks 5 = .ok (.iconst 0, 1) := by decide +kernel
theorem dX2_upTicks_6 : decode cX2_upTicks 6 = .ok (.istore 5, 2) := by decide +kernel
theorem dX2_upTicks_8 : decode cX2_upTicks 8 = .ok (.iload 5, 2) := by decide +kernel
theorem dX2_upTicks_10 : decode cX2_upTicks 10 = .ok (.bipush 80, 2) := by decide +kernel
theorem dX2_upTicks_12 : decode cX2_upTicks 12 = .ok (.if_icmp .gt 55, 3) := by decide +kernel
theorem dX2_upTicks_15 : decode cX2_upTicks 15 = .ok (.iload 4, 2) := by decide +kernel
theorem dX2_upTicks_17 : decode cX2_upTicks 17 = .ok (.iload_n 2, 1) := by decide +kernel
theorem dX2_upTicks_18 : decode cX2_upTicks 18 = .ok (.if_icmp .gt 49, 3) := by decide +kernel
theorem dX2_upTicks_21 : decode cX2_upTicks 21 = .ok (.aload_n 0, 1) := by decide +kernel
theorem dX2_upTicks_22 : decode cX2_upTicks 22 = .ok (.getfield 19, 3) := by decide +kernel
theorem dX2_upTicks_25 : decode cX2_upTicks 25 = .ok (.iload 4, 2) := by decide +kernel
theorem dX2_upTicks_27 : decode cX2_upTicks 27 = .ok (.invokevirtual 47, 3) := by decide +kernel
theorem dX2_upTicks_30 : decode cX2_upTicks 30 = .ok (.iload_n 2, 1) := by decide +kernel
theorem dX2_upTicks_31 : decode cX2_upTicks 31 = .ok (.iconst 1, 1) := by decide +kernel
theorem dX2_upTicks_32 : decode cX2_upTicks 32 = .ok (.iadd, 1) := by decide +kernel
theorem dX2_upTicks_33 : decode cX2_upTicks 33 = .ok (.invokestatic 87, 3) := by decide +kernel
theorem dX2_upTicks_36 : decode cX2_upTicks 36 = .ok (.istore 6, 2) := by decide +kernel
theorem dX2_upTicks_38 : decode cX2_upTicks 38 = .ok (.aload_n 0, 1) := by decide +kernel
theorem dX2_upTicks_39 : decode cX2_upTicks 39 = .ok (.getfield 19, 3) := by decide +kernel
theorem dX2_upTicks_42 : decode cX2_upTicks 42 = .ok (.iload_n 1, 1) := by decide +kernel
theorem dX2_upTicks_43 : decode cX2_upTicks 43 = .ok (.invokevirtual 61, 3) := by decide +kernel
theorem dX2_upTicks_46 : decode cX2_upTicks 46 = .ok (.ifCond .ne 11, 3) := by decide +kernel
theorem dX2_upTicks_49 : decode cX2_upTicks 49 = .ok (.iload_n 3, 1) := by decide +kernel
theorem dX2_upTicks_50 : decode cX2_upTicks 50 = .ok (.iload 6, 2) := by decide +kernel
theorem dX2_upTicks_52 : decode cX2_upTicks 52 = .ok (.iload 4, 2) := by decide +kernel
theorem dX2_upTicks_54 : decode cX2_upTicks 54 = .ok (.isub, 1) := by decide +kernel
theorem dX2_upTicks_55 : decode cX2_upTicks 55 = .ok (.iadd, 1) := by decide +kernel
