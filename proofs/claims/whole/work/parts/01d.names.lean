theorem dX3_leastFor_22 : decode cX3_leastFor 22 = .ok (.iconst (-1), 1) := by decide +kernel
theorem dX3_leastFor_23 : decode cX3_leastFor 23 = .ok (.ireturn, 1) := by decide +kernel
theorem dX4_init_0 : decode cX4_init 0 = .ok (.aload_n 0, 1) := by decide +kernel
theorem dX4_init_1 : decode cX4_init 1 = .ok (.invokespecial 3, 3) := by decide +kernel
theorem dX4_init_4 : decode cX4_init 4 = .ok (.aload_n 0, 1) := by decide +kernel
theorem dX4_init_5 : decode cX4_init 5 = .ok (.iconst 0, 1) := by decide +kernel
theorem dX4_init_6 : decode cX4_init 6 = .ok (.newarray .int, 2) := by decide +kernel
theorem dX4_init_8 : decode cX4_init 8 = .ok (.putfield 9, 3) := by decide +kernel
theorem dX4_init_11 : decode cX4_init 11 = .ok (.aload_n 0, 1) := by decide +kernel
theorem dX4_init_12 : decode cX4_init 12 = .ok (.iconst 0, 1) := by decide +kernel
theorem dX4_init_13 : decode cX4_init 13 = .ok (.newarray .int, 2) := by decide +kernel
theorem dX4_init_15 : decode cX4_init 15 = .ok (.putfield 15, 3) := by decide +kernel
theorem dX4_init_18 : decode cX4_init 18 = .ok (.aload_n 0, 1) := by decide +kernel
theorem dX4_init_19 : decode cX4_init 19 = .ok (.iconst 0, 1) := by decide +kernel
theorem dX4_init_20 : decode cX4_init 20 = .ok (.newarray .int, 2) := by decide +kernel
theorem dX4_init_22 : decode cX4_init 22 = .ok (.putfield 18, 3) := by decide +kernel
theorem dX4_init_25 : decode cX4_init 25 = .ok (.aload_n 0, 1) := by decide +kernel
theorem dX4_init_26 : decode cX4_init 26 = .ok (.iconst 0, 1) := by decide +kernel
theorem dX4_init_27 : decode cX4_init 27 = .ok (.putfield 21, 3) := by decide +kernel
theorem dX4_init_30 : decode cX4_init 30 = .ok (.return_, 1) := by decide +kernel
theorem dX4_knows_0 : decode cX4_knows 0 = .ok (.iload_n 1, 1) := by decide +kernel
theorem dX4_knows_1 : decode cX4_knows 1 = .ok (.ifCond .lt 25, 3) := by decide +kernel
theorem dX4_knows_4 : decode cX4_knows 4 = .ok (.iload_n 1, 1) := by decide +kernel
theorem dX4_knows_5 : decode cX4_knows 5 = .ok (.aload_n 0, 1) := by decide +kernel
theorem dX4_knows_6 : decode cX4_knows 6 = .ok (.getfield 15, 3) := by decide +kernel
theorem dX4_knows_9 : decode cX4_knows 9 = .ok (.arraylength, 1) := by decide +kernel
theorem dX4_knows_10 : decode cX4_knows 10 = .ok (.if_icmp .ge 16, 3) := by decide +kernel
theorem dX4_knows_13 : decode cX4_knows 13 = .ok (.aload_n 0, 1) := by decide +kernel
theorem dX4_knows_14 : decode cX4_knows 14 = .ok (.getfield 15, 3) := by decide +kernel
theorem dX4_knows_17 : decode cX4_knows 17 = .ok (.iload_n 1, 1) := by decide +kernel
theorem dX4_knows_18 : decode cX4_knows 18 = .ok (.iaload, 1) := by decide +kernel
theorem dX4_knows_19 : decode cX4_knows 19 = .ok (.ifCond .lt 7, 3) := by decide +kernel
theorem dX4_knows_22 : decode cX4_knows 22 = .ok (.iconst 1, 1) := by decide +kernel
theorem dX4_knows_23 : decode cX4_knows 23 = .ok (.goto 4, 3) := by decide +kernel
theorem dX4_knows_26 : decode cX4_knows 26 = .ok (.iconst 0, 1) := by decide +kernel
theorem dX4_knows_27 : decode cX4_knows 27 = .ok (.ireturn, 1) := by decide +kernel
set_option maxRecDepth 20000 in
theorem ggX4_start_X5_lengthFor : GoodIn wsX4_start wsX5_lengthFor := goodIn_r _ [8, 9, 10, 11, 12, 13, 14, 15] (by decide +kernel) (by decide +kernel)
set_option maxRecDepth 20000 in
theorem gX4_start_X5_lengthFor_n25 : GoodIn wsX4_start (wsX5_lengthFor) := ggX4_start_X5_lengthFor
set_option maxRecDepth 20000 in
theorem ggX4_start_J7_fill_53178 : GoodIn wsX4_start wsJ7_fill_53178 := goodIn_r _ [19] (by decide +kernel) (by decide +kernel)
set_option maxRecDepth 20000 in
theorem gX4_start_J7_fill_53178 : GoodIn wsX4_start (va_wsS RX4 29 yJ7_fill_53178 wsJ7_fill_53178) := goodIn_app (goodIn_of _ (by decide +kernel)) ggX4_start_J7_fill_53178
theorem dX4_start_0 : decode cX4_start 0 = .ok (.aload_n 0, 1) := by decide +kernel
theorem dX4_start_1 : decode cX4_start 1 = .ok (.getfield 15, 3) := by decide +kernel
theorem dX4_start_4 : decode cX4_start 4 = .ok (.arraylength, 1) := by decide +kernel
theorem dX4_start_5 : decode cX4_start 5 = .ok (.iload_n 1, 1) := by decide +kernel
theorem dX4_start_6 : decode cX4_start 6 = .ok (.if_icmp .ge 34, 3) := by decide +kernel
theorem dX4_start_9 : decode cX4_start 9 = .ok (.iload_n 1, 1) := by decide +kernel
theorem dX4_start_10 : decode cX4_start 10 = .ok (.aload_n 0, 1) := by decide +kernel
theorem dX4_start_11 : decode cX4_start 11 = .ok (.getfield 15, 3) := by decide +kernel
theorem dX4_start_14 : decode cX4_start 14 = .ok (.arraylength, 1) := by decide +kernel
theorem dX4_start_15 : decode cX4_start 15 = .ok (.invokestatic 25, 3) := by decide +kernel
theorem dX4_start_18 : decode cX4_start 18 = .ok (.istore_n 3, 1) := by decide +kernel
theorem dX4_start_19 : decode cX4_start 19 = .ok (.aload_n 0, 1) := by decide +kernel
theorem dX4_start_20 : decode cX4_start 20 = .ok (.iload_n 3, 1) := by decide +kernel
theorem dX4_start_21 : decode cX4_start 21 = .ok (.newarray .int, 2) := by decide +kernel
theorem dX4_start_23 : decode cX4_start 23 = .ok (.putfield 9, 3) := by decide +kernel
theorem dX4_start_26 : decode cX4_start 26 = .ok (.aload_n 0, 1) := by decide +kernel
theorem dX4_start_27 : decode cX4_start 27 = .ok (.iload_n 3, 1) := by decide +kernel
theorem dX4_start_28 : decode cX4_start 28 = .ok (.newarray .int, 2) := by decide +kernel
theorem dX4_start_30 : decode cX4_start 30 = .ok (.putfield 15, 3) := by decide +kernel
theorem dX4_start_33 : decode cX4_start 33 = .ok (.aload_n 0, 1) := by decide +kernel
theorem dX4_start_34 : decode cX4_start 34 = .ok (.iload_n 3, 1) := by decide +kernel
theorem dX4_start_35 : decode cX4_start 35 = .ok (.newarray .int, 2) := by decide +kernel
theorem dX4_start_37 : decode cX4_start 37 = .ok (.putfield 18, 3) := by decide +kernel
theorem dX4_start_40 : decode cX4_start 40 = .ok (.aload_n 0, 1) := by decide +kernel
theorem dX4_start_41 : decode cX4_start 41 = .ok (.getfield 15, 3) := by decide +kernel
theorem dX4_start_44 : decode cX4_start 44 = .ok (.iconst (-1), 1) := by decide +kernel
theorem dX4_start_45 : decode cX4_start 45 = .ok (.invokestatic 29, 3) := by decide +kernel
theorem dX4_start_48 : decode cX4_start 48 = .ok (.aload_n 0, 1) := by decide +kernel
theorem dX4_start_49 : decode cX4_start 49 = .ok (.iconst 0, 1) := by decide +kernel
theorem dX4_start_50 : decode cX4_start 50 = .ok (.putfield 21, 3) := by decide +kernel
theorem dX4_start_53 : decode cX4_start 53 = .ok (.iload_n 2, 1) := by decide +kernel
theorem dX4_start_54 : decode cX4_start 54 = .ok (.ifCond .lt 31, 3) := by decide +kernel
theorem dX4_start_57 : decode cX4_start 57 = .ok (.iload_n 2, 1) := by decide +kernel
theorem dX4_start_58 : decode cX4_start 58 = .ok (.aload_n 0, 1) := by decide +kernel
theorem dX4_start_59 : decode cX4_start 59 = .ok (.getfield 15, 3) := by decide +kernel
theorem dX4_start_62 : decode cX4_start 62 = .ok (.arraylength, 1) := by decide +kernel
theorem dX4_start_63 : decode cX4_start 63 = .ok (.if_icmp .ge 22, 3) := by decide +kernel
theorem dX4_start_66 : decode cX4_start 66 = .ok (.aload_n 0, 1) := by decide +kernel
theorem dX4_start_67 : decode cX4_start 67 = .ok (.getfield 9, 3) := by decide +kernel
theorem dX4_start_70 : decode cX4_start 70 = .ok (.iconst 0, 1) := by decide +kernel
theorem dX4_start_71 : decode cX4_start 71 = .ok (.iload_n 2, 1) := by decide +kernel
theorem dX4_start_72 : decode cX4_start 72 = .ok (.iastore, 1) := by decide +kernel
theorem dX4_start_73 : decode cX4_start 73 = .ok (.aload_n 0, 1) := by decide +kernel
theorem dX4_start_74 : decode cX4_start 74 = .ok (.getfield 15, 3) := by decide +kernel
theorem dX4_start_77 : decode cX4_start 77 = .ok (.iload_n 2, 1) := by decide +kernel
theorem dX4_start_78 : decode cX4_start 78 = .ok (.iconst 0, 1) := by decide +kernel
theorem dX4_start_79 : decode cX4_start 79 = .ok (.iastore, 1) := by decide +kernel
theorem dX4_start_80 : decode cX4_start 80 = .ok (.aload_n 0, 1) := by decide +kernel
theorem dX4_start_81 : decode cX4_start 81 = .ok (.iconst 1, 1) := by decide +kernel
theorem dX4_start_82 : decode cX4_start 82 = .ok (.putfield 21, 3) := by decide +kernel
theorem dX4_start_85 : decode cX4_start 85 = .ok (.return_, 1) := by decide +kernel
set_option maxRecDepth 20000 in
theorem ggX4_walk_X1_code : GoodIn wsX4_walk wsX1_code := goodIn_r _ [9, 10, 11, 12, 67, 68, 69, 70, 71, 72, 73] (by decide +kernel) (by decide +kernel)
set_option maxRecDepth 20000 in
theorem gX4_walk_X1_code : GoodIn wsX4_walk (wsV RX4 40 RX1 yX1_code wsX1_code) := goodIn_app (goodIn_of _ (by decide +kernel)) ggX4_walk_X1_code
set_option maxRecDepth 20000 in
theorem ggX4_walk_X4_start : GoodIn wsX4_walk wsX4_start := goodIn_r _ [17, 4, 18, 3, 19, 2, 20, 21, 22, 23, 24, 25, 26, 27, 28, 29, 30, 31, 32, 33, 74, 75, 76, 77] (by decide +kernel) (by decide +kernel)
set_option maxRecDepth 20000 in
theorem gX4_walk_X4_start : GoodIn wsX4_walk (wsV RX4 44 RX4 yX4_start wsX4_start) := goodIn_app (goodIn_of _ (by decide +kernel)) ggX4_walk_X4_start
set_option maxRecDepth 20000 in
theorem ggX4_walk_X1_stand : GoodIn wsX4_walk wsX1_stand := goodIn_r _ [37, 10, 38, 11, 67, 68, 69, 70, 71, 72, 73] (by decide +kernel) (by decide +kernel)
set_option maxRecDepth 20000 in
theorem gX4_walk_X1_stand : GoodIn wsX4_walk (wsV RX4 48 RX1 yX1_stand wsX1_stand) := goodIn_app (goodIn_of _ (by decide +kernel)) ggX4_walk_X1_stand
set_option maxRecDepth 20000 in
theorem ggX4_walk_X1_shiftBy : GoodIn wsX4_walk wsX1_shiftBy := goodIn_r _ [42, 12, 43, 44, 45, 8, 46, 10, 11, 47, 38, 48, 67, 68, 69, 70, 71, 72, 73] (by decide +kernel) (by decide +kernel)
set_option maxRecDepth 20000 in
theorem gX4_walk_X1_shiftBy : GoodIn wsX4_walk (wsV RX4 52 RX1 yX1_shiftBy wsX1_shiftBy) := goodIn_app (goodIn_of _ (by decide +kernel)) ggX4_walk_X1_shiftBy
set_option maxRecDepth 20000 in
theorem ggX4_walk_X1_spiltBy : GoodIn wsX4_walk wsX1_spiltBy := goodIn_r _ [52, 11, 67, 68, 69, 70, 71, 72, 73] (by decide +kernel) (by decide +kernel)
set_option maxRecDepth 20000 in
theorem gX4_walk_X1_spiltBy : GoodIn wsX4_walk (wsV RX4 56 RX1 yX1_spiltBy wsX1_spiltBy) := goodIn_app (goodIn_of _ (by decide +kernel)) ggX4_walk_X1_spiltBy
set_option maxRecDepth 20000 in
theorem ggX4_walk_X3_isLeast : GoodIn wsX4_walk wsX3_isLeast := goodIn_r _ [57, 58, 78, 79] (by decide +kernel) (by decide +kernel)
set_option maxRecDepth 20000 in
theorem gX4_walk_X3_isLeast : GoodIn wsX4_walk (wsV RX4 59 RX3 yX3_isLeast wsX3_isLeast) := goodIn_app (goodIn_of _ (by decide +kernel)) ggX4_walk_X3_isLeast
set_option maxRecDepth 20000 in
theorem ggX4_walk_X4_enter : GoodIn wsX4_walk wsX4_enter := goodIn_r _ [62, 2, 3, 4, 19, 63, 64, 65, 16, 66, 74, 75, 76, 77] (by decide +kernel) (by decide +kernel)
set_option maxRecDepth 20000 in
theorem gX4_walk_X4_enter : GoodIn wsX4_walk (wsV RX4 65 RX4 yX4_enter wsX4_enter) := goodIn_app (goodIn_of _ (by decide +kernel)) ggX4_walk_X4_enter
theorem dX4_walk_0 : decode cX4_walk 0 = .ok (.aload_n 0, 1) := by decide +kernel
theorem dX4_walk_1 : decode cX4_walk 1 = .ok (.aload_n 1, 1) := by decide +kernel
theorem dX4_walk_2 : decode cX4_walk 2 = .ok (.getfield 35, 3) := by decide +kernel
theorem dX4_walk_5 : decode cX4_walk 5 = .ok (.aload_n 1, 1) := by decide +kernel
theorem dX4_walk_6 : decode cX4_walk 6 = .ok (.invokevirtual 40, 3) := by decide +kernel
theorem dX4_walk_9 : decode cX4_walk 9 = .ok (.invokevirtual 44, 3) := by decide +kernel
theorem dX4_walk_12 : decode cX4_walk 12 = .ok (.iconst 0, 1) := by decide +kernel
theorem dX4_walk_13 : decode cX4_walk 13 = .ok (.istore_n 3, 1) := by decide +kernel
theorem dX4_walk_14 : decode cX4_walk 14 = .ok (.iload_n 3, 1) := by decide +kernel
theorem dX4_walk_15 : decode cX4_walk 15 = .ok (.aload_n 0, 1) := by decide +kernel
theorem dX4_walk_16 : decode cX4_walk 16 = .ok (.getfield 21, 3) := by decide +kernel
theorem dX4_walk_19 : decode cX4_walk 19 = .ok (.if_icmp .ge 118, 3) := by decide +kernel
theorem dX4_walk_22 : decode cX4_walk 22 = .ok (.iload_n 3, 1) := by decide +kernel
theorem dX4_walk_23 : decode cX4_walk 23 = .ok (.aload_n 0, 1) := by decide +kernel
theorem dX4_walk_24 : decode cX4_walk 24 = .ok (.getfield 9, 3) := by decide +kernel
theorem dX4_walk_27 : decode cX4_walk 27 = .ok (.arraylength, 1) := by decide +kernel
theorem dX4_walk_28 : decode cX4_walk 28 = .ok (.if_icmp .ge 109, 3) := by decide +kernel
theorem dX4_walk_31 : decode cX4_walk 31 = .ok (.aload_n 0, 1) := by decide +kernel
theorem dX4_walk_32 : decode cX4_walk 32 = .ok (.getfield 9, 3) := by decide +kernel
theorem dX4_walk_35 : decode cX4_walk 35 = .ok (.iload_n 3, 1) := by decide +kernel
theorem dX4_walk_36 : decode cX4_walk 36 = .ok (.iaload, 1) := by decide +kernel
theorem dX4_walk_37 : decode cX4_walk 37 = .ok (.istore 4, 2) := by decide +kernel
theorem dX4_walk_39 : decode cX4_walk 39 = .ok (.aload_n 1, 1) := by decide +kernel
theorem dX4_walk_40 : decode cX4_walk 40 = .ok (.iload 4, 2) := by decide +kernel
theorem dX4_walk_42 : decode cX4_walk 42 = .ok (.invokevirtual 48, 3) := by decide +kernel
theorem dX4_walk_45 : decode cX4_walk 45 = .ok (.iconst 0, 1) := by decide +kernel
theorem dX4_walk_46 : decode cX4_walk 46 = .ok (.istore 5, 2) := by decide +kernel
theorem dX4_walk_48 : decode cX4_walk 48 = .ok (.iload 5, 2) := by decide +kernel
theorem dX4_walk_50 : decode cX4_walk 50 = .ok (.bipush 24, 2) := by decide +kernel
theorem dX4_walk_52 : decode cX4_walk 52 = .ok (.if_icmp .ge 79, 3) := by decide +kernel
theorem dX4_walk_55 : decode cX4_walk 55 = .ok (.iload 4, 2) := by decide +kernel
theorem dX4_walk_57 : decode cX4_walk 57 = .ok (.aload_n 1, 1) := by decide +kernel
theorem dX4_walk_58 : decode cX4_walk 58 = .ok (.iload 5, 2) := by decide +kernel
theorem dX4_walk_60 : decode cX4_walk 60 = .ok (.invokevirtual 52, 3) := by decide +kernel
theorem dX4_walk_63 : decode cX4_walk 63 = .ok (.iadd, 1) := by decide +kernel
theorem dX4_walk_64 : decode cX4_walk 64 = .ok (.istore 6, 2) := by decide +kernel
theorem dX4_walk_66 : decode cX4_walk 66 = .ok (.iload 6, 2) := by decide +kernel
theorem dX4_walk_68 : decode cX4_walk 68 = .ok (.ifCond .lt 57, 3) := by decide +kernel
theorem dX4_walk_71 : decode cX4_walk 71 = .ok (.iload 6, 2) := by decide +kernel
theorem dX4_walk_73 : decode cX4_walk 73 = .ok (.aload_n 0, 1) := by decide +kernel
theorem dX4_walk_74 : decode cX4_walk 74 = .ok (.getfield 15, 3) := by decide +kernel
theorem dX4_walk_77 : decode cX4_walk 77 = .ok (.arraylength, 1) := by decide +kernel
theorem dX4_walk_78 : decode cX4_walk 78 = .ok (.if_icmp .ge 47, 3) := by decide +kernel
theorem dX4_walk_81 : decode cX4_walk 81 = .ok (.aload_n 0, 1) := by decide +kernel
theorem dX4_walk_82 : decode cX4_walk 82 = .ok (.getfield 15, 3) := by decide +kernel
theorem dX4_walk_85 : decode cX4_walk 85 = .ok (.iload 6, 2) := by decide +kernel
theorem dX4_walk_87 : decode cX4_walk 87 = .ok (.iaload, 1) := by decide +kernel
theorem dX4_walk_88 : decode cX4_walk 88 = .ok (.ifCond .lt 6, 3) := by decide +kernel
theorem dX4_walk_91 : decode cX4_walk 91 = .ok (.goto 34, 3) := by decide +kernel
theorem dX4_walk_94 : decode cX4_walk 94 = .ok (.aload_n 2, 1) := by decide +kernel
theorem dX4_walk_95 : decode cX4_walk 95 = .ok (.ifnull 20, 3) := by decide +kernel
theorem dX4_walk_98 : decode cX4_walk 98 = .ok (.aload_n 2, 1) := by decide +kernel
theorem dX4_walk_99 : decode cX4_walk 99 = .ok (.iload 4, 2) := by decide +kernel
theorem dX4_walk_101 : decode cX4_walk 101 = .ok (.iload 6, 2) := by decide +kernel
theorem dX4_walk_103 : decode cX4_walk 103 = .ok (.aload_n 1, 1) := by decide +kernel
theorem dX4_walk_104 : decode cX4_walk 104 = .ok (.iload 5, 2) := by decide +kernel
theorem dX4_walk_106 : decode cX4_walk 106 = .ok (.invokevirtual 56, 3) := by decide +kernel
theorem dX4_walk_109 : decode cX4_walk 109 = .ok (.invokevirtual 59, 3) := by decide +kernel
theorem dX4_walk_112 : decode cX4_walk 112 = .ok (.ifCond .eq 13, 3) := by decide +kernel
theorem dX4_walk_115 : decode cX4_walk 115 = .ok (.aload_n 0, 1) := by decide +kernel
theorem dX4_walk_116 : decode cX4_walk 116 = .ok (.iload 4, 2) := by decide +kernel
theorem dX4_walk_118 : decode cX4_walk 118 = .ok (.iload 5, 2) := by decide +kernel
theorem dX4_walk_120 : decode cX4_walk 120 = .ok (.iload 6, 2) := by decide +kernel
theorem dX4_walk_122 : decode cX4_walk 122 = .ok (.invokevirtual 65, 3) := by decide +kernel
theorem dX4_walk_125 : decode cX4_walk 125 = .ok (.iinc 5 1, 3) := by decide +kernel
theorem dX4_walk_128 : decode cX4_walk 128 = .ok (.goto (-80), 3) := by decide +kernel
theorem dX4_walk_131 : decode cX4_walk 131 = .ok (.iinc 3 1, 3) := by decide +kernel
theorem dX4_walk_134 : decode cX4_walk 134 = .ok (.goto (-120), 3) := by decide +kernel
theorem dX4_walk_137 : decode cX4_walk 137 = .ok (.return_, 1) := by decide +kernel
set_option maxRecDepth 20000 in
theorem ggX4_enter_X4_knows : GoodIn wsX4_enter wsX4_knows := goodIn_r _ [9, 3, 10, 11, 12, 13] (by decide +kernel) (by decide +kernel)
set_option maxRecDepth 20000 in
theorem gX4_enter_X4_knows : GoodIn wsX4_enter (wsV RX4 69 RX4 yX4_knows wsX4_knows) := goodIn_app (goodIn_of _ (by decide +kernel)) ggX4_enter_X4_knows
theorem dX4_enter_0 : decode cX4_enter 0 = .ok (.aload_n 0, 1) := by decide +kernel
theorem dX4_enter_1 : decode cX4_enter 1 = .ok (.getfield 21, 3) := by decide +kernel
theorem dX4_enter_4 : decode cX4_enter 4 = .ok (.aload_n 0, 1) := by decide +kernel
theorem dX4_enter_5 : decode cX4_enter 5 = .ok (.getfield 9, 3) := by decide +kernel
theorem dX4_enter_8 : decode cX4_enter 8 = .ok (.arraylength, 1) := by decide +kernel
theorem dX4_enter_9 : decode cX4_enter 9 = .ok (.if_icmp .ge 24, 3) := by decide +kernel
theorem dX4_enter_12 : decode cX4_enter 12 = .ok (.aload_n 0, 1) := by decide +kernel
theorem dX4_enter_13 : decode cX4_enter 13 = .ok (.iload_n 1, 1) := by decide +kernel
theorem dX4_enter_14 : decode cX4_enter 14 = .ok (.invokevirtual 69, 3) := by decide +kernel
theorem dX4_enter_17 : decode cX4_enter 17 = .ok (.ifCond .eq 16, 3) := by decide +kernel
theorem dX4_enter_20 : decode cX4_enter 20 = .ok (.iload_n 3, 1) := by decide +kernel
theorem dX4_enter_21 : decode cX4_enter 21 = .ok (.ifCond .lt 12, 3) := by decide +kernel
theorem dX4_enter_24 : decode cX4_enter 24 = .ok (.iload_n 3, 1) := by decide +kernel
theorem dX4_enter_25 : decode cX4_enter 25 = .ok (.aload_n 0, 1) := by decide +kernel
theorem dX4_enter_26 : decode cX4_enter 26 = .ok (.getfield 15, 3) := by decide +kernel
theorem dX4_enter_29 : decode cX4_enter 29 = .ok (.arraylength, 1) := by decide +kernel
theorem dX4_enter_30 : decode cX4_enter 30 = .ok (.if_icmp .lt 4, 3) := by decide +kernel
theorem dX4_enter_33 : decode cX4_enter 33 = .ok (.return_, 1) := by decide +kernel
theorem dX4_enter_34 : decode cX4_enter 34 = .ok (.aload_n 0, 1) := by decide +kernel
theorem dX4_enter_35 : decode cX4_enter 35 = .ok (.getfield 9, 3) := by decide +kernel
theorem dX4_enter_38 : decode cX4_enter 38 = .ok (.aload_n 0, 1) := by decide +kernel
theorem dX4_enter_39 : decode cX4_enter 39 = .ok (.getfield 21, 3) := by decide +kernel
theorem dX4_enter_42 : decode cX4_enter 42 = .ok (.iload_n 3, 1) := by decide +kernel
theorem dX4_enter_43 : decode cX4_enter 43 = .ok (.iastore, 1) := by decide +kernel
theorem dX4_enter_44 : decode cX4_enter 44 = .ok (.aload_n 0, 1) := by decide +kernel
theorem dX4_enter_45 : decode cX4_enter 45 = .ok (.dup, 1) := by decide +kernel
theorem dX4_enter_46 : decode cX4_enter 46 = .ok (.getfield 21, 3) := by decide +kernel
theorem dX4_enter_49 : decode cX4_enter 49 = .ok (.iconst 1, 1) := by decide +kernel
theorem dX4_enter_50 : decode cX4_enter 50 = .ok (.iadd, 1) := by decide +kernel
theorem dX4_enter_51 : decode cX4_enter 51 = .ok (.putfield 21, 3) := by decide +kernel
theorem dX4_enter_54 : decode cX4_enter 54 = .ok (.aload_n 0, 1) := by decide +kernel
theorem dX4_enter_55 : decode cX4_enter 55 = .ok (.getfield 15, 3) := by decide +kernel
theorem dX4_enter_58 : decode cX4_enter 58 = .ok (.iload_n 3, 1) := by decide +kernel
theorem dX4_enter_59 : decode cX4_enter 59 = .ok (.aload_n 0, 1) := by decide +kernel
theorem dX4_enter_60 : decode cX4_enter 60 = .ok (.getfield 15, 3) := by decide +kernel
theorem dX4_enter_63 : decode cX4_enter 63 = .ok (.iload_n 1, 1) := by decide +kernel
theorem dX4_enter_64 : decode cX4_enter 64 = .ok (.iaload, 1) := by decide +kernel
theorem dX4_enter_65 : decode cX4_enter 65 = .ok (.iconst 1, 1) := by decide +kernel
theorem dX4_enter_66 : decode cX4_enter 66 = .ok (.iadd, 1) := by decide +kernel
theorem dX4_enter_67 : decode cX4_enter 67 = .ok (.iastore, 1) := by decide +kernel
theorem dX4_enter_68 : decode cX4_enter 68 = .ok (.aload_n 0, 1) := by decide +kernel
theorem dX4_enter_69 : decode cX4_enter 69 = .ok (.getfield 18, 3) := by decide +kernel
theorem dX4_enter_72 : decode cX4_enter 72 = .ok (.iload_n 3, 1) := by decide +kernel
theorem dX4_enter_73 : decode cX4_enter 73 = .ok (.iload_n 1, 1) := by decide +kernel
theorem dX4_enter_74 : decode cX4_enter 74 = .ok (.bipush 32, 2) := by decide +kernel
theorem dX4_enter_76 : decode cX4_enter 76 = .ok (.imul, 1) := by decide +kernel
theorem dX4_enter_77 : decode cX4_enter 77 = .ok (.iload_n 2, 1) := by decide +kernel
theorem dX4_enter_78 : decode cX4_enter 78 = .ok (.iadd, 1) := by decide +kernel
theorem dX4_enter_79 : decode cX4_enter 79 = .ok (.iastore, 1) := by decide +kernel
theorem dX4_enter_80 : decode cX4_enter 80 = .ok (.return_, 1) := by decide +kernel
set_option maxRecDepth 20000 in
theorem ggX4_acts_X4_knows : GoodIn wsX4_acts wsX4_knows := goodIn_r _ [6, 1, 7, 8, 9, 10] (by decide +kernel) (by decide +kernel)
set_option maxRecDepth 20000 in
theorem gX4_acts_X4_knows : GoodIn wsX4_acts (wsV RX4 69 RX4 yX4_knows wsX4_knows) := goodIn_app (goodIn_of _ (by decide +kernel)) ggX4_acts_X4_knows
theorem dX4_acts_0 : decode cX4_acts 0 = .ok (.aload_n 0, 1) := by decide +kernel
theorem dX4_acts_1 : decode cX4_acts 1 = .ok (.iload_n 1, 1) := by decide +kernel
theorem dX4_acts_2 : decode cX4_acts 2 = .ok (.invokevirtual 69, 3) := by decide +kernel
theorem dX4_acts_5 : decode cX4_acts 5 = .ok (.ifCond .eq 12, 3) := by decide +kernel
theorem dX4_acts_8 : decode cX4_acts 8 = .ok (.aload_n 0, 1) := by decide +kernel
theorem dX4_acts_9 : decode cX4_acts 9 = .ok (.getfield 15, 3) := by decide +kernel
theorem dX4_acts_12 : decode cX4_acts 12 = .ok (.iload_n 1, 1) := by decide +kernel
theorem dX4_acts_13 : decode cX4_acts 13 = .ok (.iaload, 1) := by decide +kernel
theorem dX4_acts_14 : decode cX4_acts 14 = .ok (.goto 4, 3) := by decide +kernel
theorem dX4_acts_17 : decode cX4_acts 17 = .ok (.iconst (-1), 1) := by decide +kernel
theorem dX4_acts_18 : decode cX4_acts 18 = .ok (.ireturn, 1) := by decide +kernel
set_option maxRecDepth 20000 in
theorem ggX4_actOfRow_X4_knows : GoodIn wsX4_actOfRow wsX4_knows := goodIn_r _ [7, 1, 8, 9, 10, 11] (by decide +kernel) (by decide +kernel)
set_option maxRecDepth 20000 in
theorem gX4_actOfRow_X4_knows : GoodIn wsX4_actOfRow (wsV RX4 69 RX4 yX4_knows wsX4_knows) := goodIn_app (goodIn_of _ (by decide +kernel)) ggX4_actOfRow_X4_knows
theorem dX4_actOfRow_0 : decode cX4_actOfRow 0 = .ok (.aload_n 0, 1) := by decide +kernel
theorem dX4_actOfRow_1 : decode cX4_actOfRow 1 = .ok (.iload_n 1, 1) := by decide +kernel
theorem dX4_actOfRow_2 : decode cX4_actOfRow 2 = .ok (.invokevirtual 69, 3) := by decide +kernel
theorem dX4_actOfRow_5 : decode cX4_actOfRow 5 = .ok (.ifCond .eq 17, 3) := by decide +kernel
theorem dX4_actOfRow_8 : decode cX4_actOfRow 8 = .ok (.iload_n 2, 1) := by decide +kernel
theorem dX4_actOfRow_9 : decode cX4_actOfRow 9 = .ok (.ifCond .lt 13, 3) := by decide +kernel
theorem dX4_actOfRow_12 : decode cX4_actOfRow 12 = .ok (.iload_n 2, 1) := by decide +kernel
theorem dX4_actOfRow_13 : decode cX4_actOfRow 13 = .ok (.aload_n 0, 1) := by decide +kernel
theorem dX4_actOfRow_14 : decode cX4_actOfRow 14 = .ok (.getfield 15, 3) := by decide +kernel
theorem dX4_actOfRow_17 : decode cX4_actOfRow 17 = .ok (.iload_n 1, 1) := by decide +kernel
theorem dX4_actOfRow_18 : decode cX4_actOfRow 18 = .ok (.iaload, 1) := by decide +kernel
theorem dX4_actOfRow_19 : decode cX4_actOfRow 19 = .ok (.if_icmp .lt 5, 3) := by decide +kernel
theorem dX4_actOfRow_22 : decode cX4_actOfRow 22 = .ok (.iconst (-1), 1) := by decide +kernel
theorem dX4_actOfRow_23 : decode cX4_actOfRow 23 = .ok (.ireturn, 1) := by decide +kernel
theorem dX4_actOfRow_24 : decode cX4_actOfRow 24 = .ok (.iload_n 1, 1) := by decide +kernel
theorem dX4_actOfRow_25 : decode cX4_actOfRow 25 = .ok (.istore_n 3, 1) := by decide +kernel
theorem dX4_actOfRow_26 : decode cX4_actOfRow 26 = .ok (.aload_n 0, 1) := by decide +kernel
theorem dX4_actOfRow_27 : decode cX4_actOfRow 27 = .ok (.getfield 15, 3) := by decide +kernel
theorem dX4_actOfRow_30 : decode cX4_actOfRow 30 = .ok (.iload_n 1, 1) := by decide +kernel
theorem dX4_actOfRow_31 : decode cX4_actOfRow 31 = .ok (.iaload, 1) := by decide +kernel
theorem dX4_actOfRow_32 : decode cX4_actOfRow 32 = .ok (.iconst 1, 1) := by decide +kernel
theorem dX4_actOfRow_33 : decode cX4_actOfRow 33 = .ok (.isub, 1) := by decide +kernel
theorem dX4_actOfRow_34 : decode cX4_actOfRow 34 = .ok (.istore 4, 2) := by decide +kernel
theorem dX4_actOfRow_36 : decode cX4_actOfRow 36 = .ok (.iload 4, 2) := by decide +kernel
theorem dX4_actOfRow_38 : decode cX4_actOfRow 38 = .ok (.iload_n 2, 1) := by decide +kernel
theorem dX4_actOfRow_39 : decode cX4_actOfRow 39 = .ok (.if_icmp .le 27, 3) := by decide +kernel
theorem dX4_actOfRow_42 : decode cX4_actOfRow 42 = .ok (.aload_n 0, 1) := by decide +kernel
theorem dX4_actOfRow_43 : decode cX4_actOfRow 43 = .ok (.iload_n 3, 1) := by decide +kernel
theorem dX4_actOfRow_44 : decode cX4_actOfRow 44 = .ok (.invokevirtual 69, 3) := by decide +kernel
theorem dX4_actOfRow_47 : decode cX4_actOfRow 47 = .ok (.ifCond .eq 19, 3) := by decide +kernel
theorem dX4_actOfRow_50 : decode cX4_actOfRow 50 = .ok (.aload_n 0, 1) := by decide +kernel
theorem dX4_actOfRow_51 : decode cX4_actOfRow 51 = .ok (.getfield 18, 3) := by decide +kernel
theorem dX4_actOfRow_54 : decode cX4_actOfRow 54 = .ok (.iload_n 3, 1) := by decide +kernel
theorem dX4_actOfRow_55 : decode cX4_actOfRow 55 = .ok (.iaload, 1) := by decide +kernel
theorem dX4_actOfRow_56 : decode cX4_actOfRow 56 = .ok (.bipush 32, 2) := by decide +kernel
theorem dX4_actOfRow_58 : decode cX4_actOfRow 58 = .ok (.idiv, 1) := by decide +kernel
theorem dX4_actOfRow_59 : decode cX4_actOfRow 59 = .ok (.istore_n 3, 1) := by decide +kernel
theorem dX4_actOfRow_60 : decode cX4_actOfRow 60 = .ok (.iinc 4 (-1), 3) := by decide +kernel
theorem dX4_actOfRow_63 : decode cX4_actOfRow 63 = .ok (.goto (-27), 3) := by decide +kernel
theorem dX4_actOfRow_66 : decode cX4_actOfRow 66 = .ok (.aload_n 0, 1) := by decide +kernel
theorem dX4_actOfRow_67 : decode cX4_actOfRow 67 = .ok (.iload_n 3, 1) := by decide +kernel
theorem dX4_actOfRow_68 : decode cX4_actOfRow 68 = .ok (.invokevirtual 69, 3) := by decide +kernel
theorem dX4_actOfRow_71 : decode cX4_actOfRow 71 = .ok (.ifCond .eq 15, 3) := by decide +kernel
theorem dX4_actOfRow_74 : decode cX4_actOfRow 74 = .ok (.aload_n 0, 1) := by decide +kernel
theorem dX4_actOfRow_75 : decode cX4_actOfRow 75 = .ok (.getfield 18, 3) := by decide +kernel
theorem dX4_actOfRow_78 : decode cX4_actOfRow 78 = .ok (.iload_n 3, 1) := by decide +kernel
theorem dX4_actOfRow_79 : decode cX4_actOfRow 79 = .ok (.iaload, 1) := by decide +kernel
theorem dX4_actOfRow_80 : decode cX4_actOfRow 80 = .ok (.bipush 32, 2) := by decide +kernel
theorem dX4_actOfRow_82 : decode cX4_actOfRow 82 = .ok (.irem, 1) := by decide +kernel
theorem dX4_actOfRow_83 : decode cX4_actOfRow 83 = .ok (.goto 4, 3) := by decide +kernel
theorem dX4_actOfRow_86 : decode cX4_actOfRow 86 = .ok (.iconst (-1), 1) := by decide +kernel
theorem dX4_actOfRow_87 : decode cX4_actOfRow 87 = .ok (.ireturn, 1) := by decide +kernel
set_option maxRecDepth 20000 in
theorem ggX5_init_X2_init : GoodIn wsX5_init wsX2_init := goodIn_r _ [15, 16, 2, 3, 17, 18, 19, 20, 21, 22, 23, 24, 25, 26, 27, 28, 29, 30, 31, 32, 33, 34, 35, 36, 37, 38, 39, 40, 41, 42, 43, 44, 45, 46, 47, 48, 49, 50, 51, 52, 53, 54, 55, 56, 57, 58, 99, 100, 101, 102, 103, 104, 105, 75, 76, 77, 78, 79, 80, 81, 82, 83, 106, 107, 108, 109, 110, 111] (by decide +kernel) (by decide +kernel)
set_option maxRecDepth 20000 in
theorem gX5_init_X2_init_n9 : GoodIn wsX5_init (wsX2_init) := ggX5_init_X2_init
set_option maxRecDepth 20000 in
theorem ggX5_init_X0_init : GoodIn wsX5_init wsX0_init := goodIn_r _ [60, 61, 2, 3, 62, 43, 63, 64, 65, 66, 67, 68, 69, 70, 71, 72, 73, 74, 87, 88, 89, 90, 91, 92, 93, 94, 95, 96, 97, 98] (by decide +kernel) (by decide +kernel)
set_option maxRecDepth 20000 in
theorem gX5_init_X0_init_n23 : GoodIn wsX5_init (wsX0_init) := ggX5_init_X0_init
theorem dX5_init_0 : decode cX5_init 0 = .ok (.aload_n 0, 1) := by decide +kernel
theorem dX5_init_1 : decode cX5_init 1 = .ok (.invokespecial 1, 3) := by decide +kernel
theorem dX5_init_4 : decode cX5_init 4 = .ok (.aload_n 0, 1) := by decide +kernel
theorem dX5_init_5 : decode cX5_init 5 = .ok (.new 7, 3) := by decide +kernel
theorem dX5_init_8 : decode cX5_init 8 = .ok (.dup, 1) := by decide +kernel
theorem dX5_init_9 : decode cX5_init 9 = .ok (.invokespecial 9, 3) := by decide +kernel
theorem dX5_init_12 : decode cX5_init 12 = .ok (.putfield 10, 3) := by decide +kernel
theorem dX5_init_15 : decode cX5_init 15 = .ok (.aload_n 0, 1) := by decide +kernel
theorem dX5_init_16 : decode cX5_init 16 = .ok (.aload_n 0, 1) := by decide +kernel
theorem dX5_init_17 : decode cX5_init 17 = .ok (.getfield 10, 3) := by decide +kernel
theorem dX5_init_20 : decode cX5_init 20 = .ok (.getfield 16, 3) := by decide +kernel
theorem dX5_init_23 : decode cX5_init 23 = .ok (.putfield 20, 3) := by decide +kernel
theorem dX5_init_26 : decode cX5_init 26 = .ok (.aload_n 0, 1) := by decide +kernel
theorem dX5_init_27 : decode cX5_init 27 = .ok (.new 21, 3) := by decide +kernel
theorem dX5_init_30 : decode cX5_init 30 = .ok (.dup, 1) := by decide +kernel
theorem dX5_init_31 : decode cX5_init 31 = .ok (.invokespecial 23, 3) := by decide +kernel
theorem dX5_init_34 : decode cX5_init 34 = .ok (.putfield 24, 3) := by decide +kernel
theorem dX5_init_37 : decode cX5_init 37 = .ok (.return_, 1) := by decide +kernel
set_option maxRecDepth 20000 in
theorem ggX5_jug_X2_forget : GoodIn wsX5_jug wsX2_forget := goodIn_r _ [8, 9, 10, 11, 32, 33, 34, 35, 36, 37, 38, 39, 40] (by decide +kernel) (by decide +kernel)
set_option maxRecDepth 20000 in
theorem gX5_jug_X2_forget : GoodIn wsX5_jug (wsV RX5 34 RX2 yX2_forget wsX2_forget) := goodIn_app (goodIn_of _ (by decide +kernel)) ggX5_jug_X2_forget
set_option maxRecDepth 20000 in
theorem ggX5_jug_X1_add : GoodIn wsX5_jug wsX1_add := goodIn_r _ [16, 17, 18, 19, 20, 21, 25, 26, 27, 28, 29, 30, 31] (by decide +kernel) (by decide +kernel)
set_option maxRecDepth 20000 in
theorem gX5_jug_X1_add : GoodIn wsX5_jug (wsV RX5 37 RX1 yX1_add wsX1_add) := goodIn_app (goodIn_of _ (by decide +kernel)) ggX5_jug_X1_add
theorem dX5_jug_0 : decode cX5_jug 0 = .ok (.iload_n 1, 1) := by decide +kernel
theorem dX5_jug_1 : decode cX5_jug 1 = .ok (.iconst 1, 1) := by decide +kernel
theorem dX5_jug_2 : decode cX5_jug 2 = .ok (.if_icmp .lt 18, 3) := by decide +kernel
theorem dX5_jug_5 : decode cX5_jug 5 = .ok (.iload_n 1, 1) := by decide +kernel
theorem dX5_jug_6 : decode cX5_jug 6 = .ok (.bipush 10, 2) := by decide +kernel
theorem dX5_jug_8 : decode cX5_jug 8 = .ok (.if_icmp .gt 12, 3) := by decide +kernel
theorem dX5_jug_11 : decode cX5_jug 11 = .ok (.iload_n 2, 1) := by decide +kernel
theorem dX5_jug_12 : decode cX5_jug 12 = .ok (.ifCond .lt 8, 3) := by decide +kernel
theorem dX5_jug_15 : decode cX5_jug 15 = .ok (.iload_n 2, 1) := by decide +kernel
theorem dX5_jug_16 : decode cX5_jug 16 = .ok (.iload_n 1, 1) := by decide +kernel
theorem dX5_jug_17 : decode cX5_jug 17 = .ok (.if_icmp .le 6, 3) := by decide +kernel
theorem dX5_jug_20 : decode cX5_jug 20 = .ok (.bipush (-2), 2) := by decide +kernel
theorem dX5_jug_22 : decode cX5_jug 22 = .ok (.ireturn, 1) := by decide +kernel
theorem dX5_jug_23 : decode cX5_jug 23 = .ok (.aload_n 0, 1) := by decide +kernel
theorem dX5_jug_24 : decode cX5_jug 24 = .ok (.getfield 20, 3) := by decide +kernel
theorem dX5_jug_27 : decode cX5_jug 27 = .ok (.getfield 28, 3) := by decide +kernel
theorem dX5_jug_30 : decode cX5_jug 30 = .ok (.iconst 4, 1) := by decide +kernel
theorem dX5_jug_31 : decode cX5_jug 31 = .ok (.if_icmp .lt 6, 3) := by decide +kernel
theorem dX5_jug_34 : decode cX5_jug 34 = .ok (.bipush (-4), 2) := by decide +kernel
theorem dX5_jug_36 : decode cX5_jug 36 = .ok (.ireturn, 1) := by decide +kernel
theorem dX5_jug_37 : decode cX5_jug 37 = .ok (.aload_n 0, 1) := by decide +kernel
theorem dX5_jug_38 : decode cX5_jug 38 = .ok (.getfield 10, 3) := by decide +kernel
theorem dX5_jug_41 : decode cX5_jug 41 = .ok (.invokevirtual 34, 3) := by decide +kernel
theorem dX5_jug_44 : decode cX5_jug 44 = .ok (.aload_n 0, 1) := by decide +kernel
theorem dX5_jug_45 : decode cX5_jug 45 = .ok (.getfield 20, 3) := by decide +kernel
theorem dX5_jug_48 : decode cX5_jug 48 = .ok (.iload_n 1, 1) := by decide +kernel
theorem dX5_jug_49 : decode cX5_jug 49 = .ok (.iload_n 2, 1) := by decide +kernel
theorem dX5_jug_50 : decode cX5_jug 50 = .ok (.invokevirtual 37, 3) := by decide +kernel
theorem dX5_jug_53 : decode cX5_jug 53 = .ok (.ireturn, 1) := by decide +kernel
set_option maxRecDepth 20000 in
theorem ggX5_set_X2_forget : GoodIn wsX5_set wsX2_forget := goodIn_r _ [9, 10, 11, 12, 23, 24, 25, 26, 27, 28, 29, 30, 31] (by decide +kernel) (by decide +kernel)
set_option maxRecDepth 20000 in
theorem gX5_set_X2_forget : GoodIn wsX5_set (wsV RX5 34 RX2 yX2_forget wsX2_forget) := goodIn_app (goodIn_of _ (by decide +kernel)) ggX5_set_X2_forget
theorem dX5_set_0 : decode cX5_set 0 = .ok (.iload_n 1, 1) := by decide +kernel
theorem dX5_set_1 : decode cX5_set 1 = .ok (.ifCond .eq 11, 3) := by decide +kernel
theorem dX5_set_4 : decode cX5_set 4 = .ok (.iload_n 1, 1) := by decide +kernel
theorem dX5_set_5 : decode cX5_set 5 = .ok (.iconst 1, 1) := by decide +kernel
theorem dX5_set_6 : decode cX5_set 6 = .ok (.if_icmp .eq 6, 3) := by decide +kernel
theorem dX5_set_9 : decode cX5_set 9 = .ok (.bipush (-2), 2) := by decide +kernel
theorem dX5_set_11 : decode cX5_set 11 = .ok (.ireturn, 1) := by decide +kernel
theorem dX5_set_12 : decode cX5_set 12 = .ok (.iload_n 1, 1) := by decide +kernel
theorem dX5_set_13 : decode cX5_set 13 = .ok (.ifCond .ne 13, 3) := by decide +kernel
theorem dX5_set_16 : decode cX5_set 16 = .ok (.aload_n 0, 1) := by decide +kernel
theorem dX5_set_17 : decode cX5_set 17 = .ok (.getfield 20, 3) := by decide +kernel
theorem dX5_set_20 : decode cX5_set 20 = .ok (.getfield 41, 3) := by decide +kernel
theorem dX5_set_23 : decode cX5_set 23 = .ok (.goto 10, 3) := by decide +kernel
theorem dX5_set_26 : decode cX5_set 26 = .ok (.aload_n 0, 1) := by decide +kernel
theorem dX5_set_27 : decode cX5_set 27 = .ok (.getfield 20, 3) := by decide +kernel
theorem dX5_set_30 : decode cX5_set 30 = .ok (.getfield 45, 3) := by decide +kernel
theorem dX5_set_33 : decode cX5_set 33 = .ok (.istore_n 3, 1) := by decide +kernel
theorem dX5_set_34 : decode cX5_set 34 = .ok (.iload_n 1, 1) := by decide +kernel
theorem dX5_set_35 : decode cX5_set 35 = .ok (.ifCond .ne 14, 3) := by decide +kernel
theorem dX5_set_38 : decode cX5_set 38 = .ok (.aload_n 0, 1) := by decide +kernel
theorem dX5_set_39 : decode cX5_set 39 = .ok (.getfield 20, 3) := by decide +kernel
theorem dX5_set_42 : decode cX5_set 42 = .ok (.iload_n 2, 1) := by decide +kernel
theorem dX5_set_43 : decode cX5_set 43 = .ok (.putfield 41, 3) := by decide +kernel
theorem dX5_set_46 : decode cX5_set 46 = .ok (.goto 11, 3) := by decide +kernel
theorem dX5_set_49 : decode cX5_set 49 = .ok (.aload_n 0, 1) := by decide +kernel
theorem dX5_set_50 : decode cX5_set 50 = .ok (.getfield 20, 3) := by decide +kernel
theorem dX5_set_53 : decode cX5_set 53 = .ok (.iload_n 2, 1) := by decide +kernel
theorem dX5_set_54 : decode cX5_set 54 = .ok (.putfield 45, 3) := by decide +kernel
theorem dX5_set_57 : decode cX5_set 57 = .ok (.aload_n 0, 1) := by decide +kernel
theorem dX5_set_58 : decode cX5_set 58 = .ok (.getfield 10, 3) := by decide +kernel
theorem dX5_set_61 : decode cX5_set 61 = .ok (.invokevirtual 34, 3) := by decide +kernel
theorem dX5_set_64 : decode cX5_set 64 = .ok (.iload_n 3, 1) := by decide +kernel
theorem dX5_set_65 : decode cX5_set 65 = .ok (.ifCond .eq 7, 3) := by decide +kernel
theorem dX5_set_68 : decode cX5_set 68 = .ok (.iconst 1, 1) := by decide +kernel
theorem dX5_set_69 : decode cX5_set 69 = .ok (.goto 4, 3) := by decide +kernel
theorem dX5_set_72 : decode cX5_set 72 = .ok (.iconst 0, 1) := by decide +kernel
theorem dX5_set_73 : decode cX5_set 73 = .ok (.ireturn, 1) := by decide +kernel
set_option maxRecDepth 20000 in
theorem ggX5_put_X1_has : GoodIn wsX5_put wsX1_has := goodIn_r _ [9, 10, 22, 23, 24, 25, 26, 27, 28] (by decide +kernel) (by decide +kernel)
set_option maxRecDepth 20000 in
theorem gX5_put_X1_has : GoodIn wsX5_put (wsV RX5 48 RX1 yX1_has wsX1_has) := goodIn_app (goodIn_of _ (by decide +kernel)) ggX5_put_X1_has
set_option maxRecDepth 20000 in
theorem ggX5_put_X2_forget : GoodIn wsX5_put wsX2_forget := goodIn_r _ [15, 16, 17, 18, 29, 30, 31, 32, 33, 34, 35, 36, 37] (by decide +kernel) (by decide +kernel)
set_option maxRecDepth 20000 in
theorem gX5_put_X2_forget : GoodIn wsX5_put (wsV RX5 34 RX2 yX2_forget wsX2_forget) := goodIn_app (goodIn_of _ (by decide +kernel)) ggX5_put_X2_forget
theorem dX5_put_0 : decode cX5_put 0 = .ok (.aload_n 0, 1) := by decide +kernel
theorem dX5_put_1 : decode cX5_put 1 = .ok (.getfield 20, 3) := by decide +kernel
theorem dX5_put_4 : decode cX5_put 4 = .ok (.iload_n 1, 1) := by decide +kernel
theorem dX5_put_5 : decode cX5_put 5 = .ok (.invokevirtual 48, 3) := by decide +kernel
theorem dX5_put_8 : decode cX5_put 8 = .ok (.ifCond .eq 20, 3) := by decide +kernel
theorem dX5_put_11 : decode cX5_put 11 = .ok (.iload_n 2, 1) := by decide +kernel
theorem dX5_put_12 : decode cX5_put 12 = .ok (.ifCond .lt 16, 3) := by decide +kernel
theorem dX5_put_15 : decode cX5_put 15 = .ok (.iload_n 2, 1) := by decide +kernel
theorem dX5_put_16 : decode cX5_put 16 = .ok (.aload_n 0, 1) := by decide +kernel
theorem dX5_put_17 : decode cX5_put 17 = .ok (.getfield 20, 3) := by decide +kernel
theorem dX5_put_20 : decode cX5_put 20 = .ok (.getfield 52, 3) := by decide +kernel
theorem dX5_put_23 : decode cX5_put 23 = .ok (.iload_n 1, 1) := by decide +kernel
theorem dX5_put_24 : decode cX5_put 24 = .ok (.iaload, 1) := by decide +kernel
theorem dX5_put_25 : decode cX5_put 25 = .ok (.if_icmp .le 6, 3) := by decide +kernel
theorem dX5_put_28 : decode cX5_put 28 = .ok (.bipush (-2), 2) := by decide +kernel
theorem dX5_put_30 : decode cX5_put 30 = .ok (.ireturn, 1) := by decide +kernel
theorem dX5_put_31 : decode cX5_put 31 = .ok (.aload_n 0, 1) := by decide +kernel
theorem dX5_put_32 : decode cX5_put 32 = .ok (.getfield 20, 3) := by decide +kernel
theorem dX5_put_35 : decode cX5_put 35 = .ok (.getfield 56, 3) := by decide +kernel
theorem dX5_put_38 : decode cX5_put 38 = .ok (.iload_n 1, 1) := by decide +kernel
theorem dX5_put_39 : decode cX5_put 39 = .ok (.iaload, 1) := by decide +kernel
theorem dX5_put_40 : decode cX5_put 40 = .ok (.istore_n 3, 1) := by decide +kernel
theorem dX5_put_41 : decode cX5_put 41 = .ok (.aload_n 0, 1) := by decide +kernel
theorem dX5_put_42 : decode cX5_put 42 = .ok (.getfield 20, 3) := by decide +kernel
theorem dX5_put_45 : decode cX5_put 45 = .ok (.getfield 56, 3) := by decide +kernel
theorem dX5_put_48 : decode cX5_put 48 = .ok (.iload_n 1, 1) := by decide +kernel
theorem dX5_put_49 : decode cX5_put 49 = .ok (.iload_n 2, 1) := by decide +kernel
theorem dX5_put_50 : decode cX5_put 50 = .ok (.iastore, 1) := by decide +kernel
theorem dX5_put_51 : decode cX5_put 51 = .ok (.aload_n 0, 1) := by decide +kernel
theorem dX5_put_52 : decode cX5_put 52 = .ok (.getfield 10, 3) := by decide +kernel
theorem dX5_put_55 : decode cX5_put 55 = .ok (.invokevirtual 34, 3) := by decide +kernel
theorem dX5_put_58 : decode cX5_put 58 = .ok (.iload_n 3, 1) := by decide +kernel
theorem dX5_put_59 : decode cX5_put 59 = .ok (.ireturn, 1) := by decide +kernel
set_option maxRecDepth 20000 in
theorem ggX5_holds_X1_has : GoodIn wsX5_holds wsX1_has := goodIn_r _ [7, 8, 12, 13, 14, 15, 16, 17, 18] (by decide +kernel) (by decide +kernel)
set_option maxRecDepth 20000 in
theorem gX5_holds_X1_has : GoodIn wsX5_holds (wsV RX5 48 RX1 yX1_has wsX1_has) := goodIn_app (goodIn_of _ (by decide +kernel)) ggX5_holds_X1_has
theorem dX5_holds_0 : decode cX5_holds 0 = .ok (.aload_n 0, 1) := by decide +kernel
theorem dX5_holds_1 : decode cX5_holds 1 = .ok (.getfield 20, 3) := by decide +kernel
theorem dX5_holds_4 : decode cX5_holds 4 = .ok (.iload_n 1, 1) := by decide +kernel
theorem dX5_holds_5 : decode cX5_holds 5 = .ok (.invokevirtual 48, 3) := by decide +kernel
theorem dX5_holds_8 : decode cX5_holds 8 = .ok (.ifCond .eq 15, 3) := by decide +kernel
theorem dX5_holds_11 : decode cX5_holds 11 = .ok (.aload_n 0, 1) := by decide +kernel
theorem dX5_holds_12 : decode cX5_holds 12 = .ok (.getfield 20, 3) := by decide +kernel
theorem dX5_holds_15 : decode cX5_holds 15 = .ok (.getfield 56, 3) := by decide +kernel
theorem dX5_holds_18 : decode cX5_holds 18 = .ok (.iload_n 1, 1) := by decide +kernel
theorem dX5_holds_19 : decode cX5_holds 19 = .ok (.iaload, 1) := by decide +kernel
theorem dX5_holds_20 : decode cX5_holds 20 = .ok (.goto 5, 3) := by decide +kernel
theorem dX5_holds_23 : decode cX5_holds 23 = .ok (.bipush (-2), 2) := by decide +kernel
theorem dX5_holds_25 : decode cX5_holds 25 = .ok (.ireturn, 1) := by decide +kernel
set_option maxRecDepth 20000 in
theorem ggX5_act_X1_haveAct : GoodIn wsX5_act wsX1_haveAct := goodIn_r _ [7, 8, 33, 34, 35, 36, 37, 38, 39] (by decide +kernel) (by decide +kernel)
set_option maxRecDepth 20000 in
theorem gX5_act_X1_haveAct : GoodIn wsX5_act (wsV RX5 59 RX1 yX1_haveAct wsX1_haveAct) := goodIn_app (goodIn_of _ (by decide +kernel)) ggX5_act_X1_haveAct
set_option maxRecDepth 20000 in
theorem ggX5_act_X1_moved : GoodIn wsX5_act wsX1_moved := goodIn_r _ [12, 8, 13, 14, 15, 16, 33, 34, 35, 36, 37, 38, 39] (by decide +kernel) (by decide +kernel)
set_option maxRecDepth 20000 in
theorem gX5_act_X1_moved : GoodIn wsX5_act (wsV RX5 62 RX1 yX1_moved wsX1_moved) := goodIn_app (goodIn_of _ (by decide +kernel)) ggX5_act_X1_moved
set_option maxRecDepth 20000 in
theorem ggX5_act_X1_move : GoodIn wsX5_act wsX1_move := goodIn_r _ [20, 13, 21, 4, 5, 6, 7, 8, 33, 34, 35, 36, 37, 38, 39] (by decide +kernel) (by decide +kernel)
set_option maxRecDepth 20000 in
theorem gX5_act_X1_move : GoodIn wsX5_act (wsV RX5 66 RX1 yX1_move wsX1_move) := goodIn_app (goodIn_of _ (by decide +kernel)) ggX5_act_X1_move
set_option maxRecDepth 20000 in
theorem ggX5_act_X2_forget : GoodIn wsX5_act wsX2_forget := goodIn_r _ [26, 27, 28, 29, 40, 41, 42, 43, 44, 45, 46, 47, 48] (by decide +kernel) (by decide +kernel)
set_option maxRecDepth 20000 in
theorem gX5_act_X2_forget : GoodIn wsX5_act (wsV RX5 34 RX2 yX2_forget wsX2_forget) := goodIn_app (goodIn_of _ (by decide +kernel)) ggX5_act_X2_forget
theorem dX5_act_0 : decode cX5_act 0 = .ok (.aload_n 0, 1) := by decide +kernel
theorem dX5_act_1 : decode cX5_act 1 = .ok (.getfield 20, 3) := by decide +kernel
theorem dX5_act_4 : decode cX5_act 4 = .ok (.iload_n 1, 1) := by decide +kernel
theorem dX5_act_5 : decode cX5_act 5 = .ok (.invokevirtual 59, 3) := by decide +kernel
theorem dX5_act_8 : decode cX5_act 8 = .ok (.ifCond .ne 6, 3) := by decide +kernel
theorem dX5_act_11 : decode cX5_act 11 = .ok (.bipush (-2), 2) := by decide +kernel
theorem dX5_act_13 : decode cX5_act 13 = .ok (.ireturn, 1) := by decide +kernel
theorem dX5_act_14 : decode cX5_act 14 = .ok (.aload_n 0, 1) := by decide +kernel
theorem dX5_act_15 : decode cX5_act 15 = .ok (.getfield 20, 3) := by decide +kernel
theorem dX5_act_18 : decode cX5_act 18 = .ok (.iload_n 1, 1) := by decide +kernel
theorem dX5_act_19 : decode cX5_act 19 = .ok (.invokevirtual 62, 3) := by decide +kernel
theorem dX5_act_22 : decode cX5_act 22 = .ok (.istore_n 2, 1) := by decide +kernel
theorem dX5_act_23 : decode cX5_act 23 = .ok (.iload_n 2, 1) := by decide +kernel
theorem dX5_act_24 : decode cX5_act 24 = .ok (.ifCond .ne 6, 3) := by decide +kernel
theorem dX5_act_27 : decode cX5_act 27 = .ok (.bipush (-3), 2) := by decide +kernel
theorem dX5_act_29 : decode cX5_act 29 = .ok (.ireturn, 1) := by decide +kernel
theorem dX5_act_30 : decode cX5_act 30 = .ok (.aload_n 0, 1) := by decide +kernel
theorem dX5_act_31 : decode cX5_act 31 = .ok (.getfield 20, 3) := by decide +kernel
theorem dX5_act_34 : decode cX5_act 34 = .ok (.iload_n 1, 1) := by decide +kernel
theorem dX5_act_35 : decode cX5_act 35 = .ok (.iload_n 2, 1) := by decide +kernel
theorem dX5_act_36 : decode cX5_act 36 = .ok (.invokevirtual 66, 3) := by decide +kernel
theorem dX5_act_39 : decode cX5_act 39 = .ok (.aload_n 0, 1) := by decide +kernel
theorem dX5_act_40 : decode cX5_act 40 = .ok (.getfield 10, 3) := by decide +kernel
theorem dX5_act_43 : decode cX5_act 43 = .ok (.invokevirtual 34, 3) := by decide +kernel
theorem dX5_act_46 : decode cX5_act 46 = .ok (.iload_n 2, 1) := by decide +kernel
theorem dX5_act_47 : decode cX5_act 47 = .ok (.ireturn, 1) := by decide +kernel
set_option maxRecDepth 20000 in
theorem ggX5_clear_X2_forget : GoodIn wsX5_clear wsX2_forget := goodIn_r _ [7, 8, 9, 10, 21, 22, 23, 24, 25, 26, 27, 28, 29] (by decide +kernel) (by decide +kernel)
set_option maxRecDepth 20000 in
theorem gX5_clear_X2_forget : GoodIn wsX5_clear (wsV RX5 34 RX2 yX2_forget wsX2_forget) := goodIn_app (goodIn_of _ (by decide +kernel)) ggX5_clear_X2_forget
set_option maxRecDepth 20000 in
theorem ggX5_clear_X1_removeAll : GoodIn wsX5_clear wsX1_removeAll := goodIn_r _ [15, 16, 17, 30, 31, 32, 33, 34, 35, 36] (by decide +kernel) (by decide +kernel)
set_option maxRecDepth 20000 in
theorem gX5_clear_X1_removeAll : GoodIn wsX5_clear (wsV RX5 70 RX1 yX1_removeAll wsX1_removeAll) := goodIn_app (goodIn_of _ (by decide +kernel)) ggX5_clear_X1_removeAll
theorem dX5_clear_0 : decode cX5_clear 0 = .ok (.aload_n 0, 1) := by decide +kernel
theorem dX5_clear_1 : decode cX5_clear 1 = .ok (.getfield 10, 3) := by decide +kernel
theorem dX5_clear_4 : decode cX5_clear 4 = .ok (.invokevirtual 34, 3) := by decide +kernel
theorem dX5_clear_7 : decode cX5_clear 7 = .ok (.aload_n 0, 1) := by decide +kernel
theorem dX5_clear_8 : decode cX5_clear 8 = .ok (.getfield 20, 3) := by decide +kernel
theorem dX5_clear_11 : decode cX5_clear 11 = .ok (.invokevirtual 70, 3) := by decide +kernel
theorem dX5_clear_14 : decode cX5_clear 14 = .ok (.ireturn, 1) := by decide +kernel
set_option maxRecDepth 20000 in
theorem ggX5_fewest_X5_isAim : GoodIn wsX5_fewest wsX5_isAim := goodIn_r _ [7, 8, 9, 10, 11, 12, 13, 14, 112, 113, 114, 124, 125, 126, 127, 128, 129, 130] (by decide +kernel) (by decide +kernel)
set_option maxRecDepth 20000 in
theorem gX5_fewest_X5_isAim : GoodIn wsX5_fewest (wsV RX5 74 RX5 yX5_isAim wsX5_isAim) := goodIn_app (goodIn_of _ (by decide +kernel)) ggX5_fewest_X5_isAim
set_option maxRecDepth 20000 in
theorem ggX5_fewest_X2_explore : GoodIn wsX5_fewest wsX2_explore := goodIn_r _ [19, 20, 21, 22, 23, 24, 25, 26, 12, 27, 14, 28, 29, 30, 31, 32, 33, 34, 35, 36, 37, 38, 39, 40, 41, 42, 43, 44, 45, 46, 47, 48, 49, 50, 51, 52, 53, 6, 54, 55, 56, 57, 58, 59, 60, 61, 62, 63, 64, 65, 66, 67, 68, 69, 70, 71, 72, 73, 74, 75, 76, 77, 78, 79, 80, 81, 82, 83, 84, 85, 86, 87, 88, 89, 90, 91, 92, 93, 94, 95, 115, 116, 117, 118, 119, 120, 121, 122, 123, 124, 125, 126, 127, 128, 129, 130, 131, 132, 133, 134, 135, 136] (by decide +kernel) (by decide +kernel)
set_option maxRecDepth 20000 in
theorem gX5_fewest_X2_explore : GoodIn wsX5_fewest (wsV RX5 78 RX2 yX2_explore wsX2_explore) := goodIn_app (goodIn_of _ (by decide +kernel)) ggX5_fewest_X2_explore
set_option maxRecDepth 20000 in
theorem ggX5_fewest_X2_nearest : GoodIn wsX5_fewest wsX2_nearest := goodIn_r _ [99, 23, 100, 101, 21, 102, 67, 68, 12, 69, 14, 31, 32, 103, 104, 105, 106, 107, 10, 11, 13, 115, 116, 117, 118, 119, 120, 121, 122, 123, 131, 132, 133, 134, 124, 125, 126, 127, 128, 129, 130] (by decide +kernel) (by decide +kernel)
set_option maxRecDepth 20000 in
theorem gX5_fewest_X2_nearest : GoodIn wsX5_fewest (wsV RX5 85 RX2 yX2_nearest wsX2_nearest) := goodIn_app (goodIn_of _ (by decide +kernel)) ggX5_fewest_X2_nearest
set_option maxRecDepth 20000 in
theorem ggX5_fewest_X4_acts : GoodIn wsX5_fewest wsX4_acts := goodIn_r _ [111, 42, 92, 93, 94, 37, 95, 131, 132, 133, 134] (by decide +kernel) (by decide +kernel)
set_option maxRecDepth 20000 in
theorem gX5_fewest_X4_acts : GoodIn wsX5_fewest (wsV RX5 88 RX4 yX4_acts wsX4_acts) := goodIn_app (goodIn_of _ (by decide +kernel)) ggX5_fewest_X4_acts
theorem dX5_fewest_0 : decode cX5_fewest 0 = .ok (.aload_n 0, 1) := by decide +kernel
theorem dX5_fewest_1 : decode cX5_fewest 1 = .ok (.iload_n 1, 1) := by decide +kernel
theorem dX5_fewest_2 : decode cX5_fewest 2 = .ok (.iload_n 2, 1) := by decide +kernel
theorem dX5_fewest_3 : decode cX5_fewest 3 = .ok (.invokevirtual 74, 3) := by decide +kernel
theorem dX5_fewest_6 : decode cX5_fewest 6 = .ok (.ifCond .ne 6, 3) := by decide +kernel
theorem dX5_fewest_9 : decode cX5_fewest 9 = .ok (.bipush (-2), 2) := by decide +kernel
theorem dX5_fewest_11 : decode cX5_fewest 11 = .ok (.ireturn, 1) := by decide +kernel
theorem dX5_fewest_12 : decode cX5_fewest 12 = .ok (.aload_n 0, 1) := by decide +kernel
theorem dX5_fewest_13 : decode cX5_fewest 13 = .ok (.getfield 10, 3) := by decide +kernel
theorem dX5_fewest_16 : decode cX5_fewest 16 = .ok (.invokevirtual 78, 3) := by decide +kernel
theorem dX5_fewest_19 : decode cX5_fewest 19 = .ok (.aload_n 0, 1) := by decide +kernel
theorem dX5_fewest_20 : decode cX5_fewest 20 = .ok (.getfield 10, 3) := by decide +kernel
theorem dX5_fewest_23 : decode cX5_fewest 23 = .ok (.getfield 81, 3) := by decide +kernel
theorem dX5_fewest_26 : decode cX5_fewest 26 = .ok (.aload_n 0, 1) := by decide +kernel
theorem dX5_fewest_27 : decode cX5_fewest 27 = .ok (.getfield 10, 3) := by decide +kernel
theorem dX5_fewest_30 : decode cX5_fewest 30 = .ok (.iload_n 1, 1) := by decide +kernel
theorem dX5_fewest_31 : decode cX5_fewest 31 = .ok (.iload_n 2, 1) := by decide +kernel
theorem dX5_fewest_32 : decode cX5_fewest 32 = .ok (.invokevirtual 85, 3) := by decide +kernel
theorem dX5_fewest_35 : decode cX5_fewest 35 = .ok (.invokevirtual 88, 3) := by decide +kernel
theorem dX5_fewest_38 : decode cX5_fewest 38 = .ok (.ireturn, 1) := by decide +kernel
set_option maxRecDepth 20000 in
theorem ggX5_rows_X5_isAim : GoodIn wsX5_rows wsX5_isAim := goodIn_r _ [7, 8, 9, 10, 11, 12, 13, 14, 137, 138, 139, 140, 141, 142, 143, 144, 145, 146] (by decide +kernel) (by decide +kernel)
set_option maxRecDepth 20000 in
theorem gX5_rows_X5_isAim : GoodIn wsX5_rows (wsV RX5 74 RX5 yX5_isAim wsX5_isAim) := goodIn_app (goodIn_of _ (by decide +kernel)) ggX5_rows_X5_isAim
set_option maxRecDepth 20000 in
theorem ggX5_rows_X2_explore : GoodIn wsX5_rows wsX2_explore := goodIn_r _ [19, 20, 21, 22, 23, 24, 25, 26, 12, 27, 14, 28, 29, 30, 31, 32, 33, 34, 35, 36, 37, 38, 39, 40, 41, 42, 43, 44, 45, 46, 47, 48, 49, 50, 51, 52, 53, 6, 54, 55, 56, 57, 58, 59, 60, 61, 62, 63, 64, 65, 66, 67, 68, 69, 70, 71, 72, 73, 74, 75, 76, 77, 78, 79, 80, 81, 82, 83, 84, 85, 86, 87, 88, 89, 90, 91, 92, 93, 94, 95, 147, 148, 149, 150, 151, 152, 153, 154, 155, 140, 141, 142, 143, 144, 145, 146, 156, 157, 158, 159, 160, 161] (by decide +kernel) (by decide +kernel)
set_option maxRecDepth 20000 in
theorem gX5_rows_X2_explore : GoodIn wsX5_rows (wsV RX5 78 RX2 yX2_explore wsX2_explore) := goodIn_app (goodIn_of _ (by decide +kernel)) ggX5_rows_X2_explore
set_option maxRecDepth 20000 in
theorem ggX5_rows_X2_countWays : GoodIn wsX5_rows wsX2_countWays := goodIn_r _ [99, 100, 101, 23, 102, 103, 22, 104, 105, 21, 106, 107, 108, 57, 109, 110, 111, 64, 112, 113, 44, 45, 12, 46, 14, 32, 33, 114, 115, 116, 37, 117, 42, 92, 93, 94, 95, 118, 67, 68, 69, 31, 119, 71, 72, 73, 74, 75, 76, 77, 29, 30, 120, 121, 122, 18, 123, 147, 148, 149, 150, 151, 152, 153, 154, 155, 156, 157, 158, 159, 140, 141, 142, 143, 144, 145, 146] (by decide +kernel) (by decide +kernel)
set_option maxRecDepth 20000 in
theorem gX5_rows_X2_countWays : GoodIn wsX5_rows (wsV RX5 95 RX2 yX2_countWays wsX2_countWays) := goodIn_app (goodIn_of _ (by decide +kernel)) ggX5_rows_X2_countWays
set_option maxRecDepth 20000 in
theorem ggX5_rows_X2_waysTo : GoodIn wsX5_rows wsX2_waysTo := goodIn_r _ [127, 23, 104, 105, 21, 106, 107, 108, 57, 109, 128, 129, 130, 18, 131, 118, 67, 68, 12, 69, 14, 31, 32, 132, 133, 134, 135, 136, 10, 11, 13, 114, 115, 116, 37, 117, 42, 92, 93, 94, 95, 120, 121, 122, 123, 101, 147, 148, 149, 150, 151, 152, 153, 154, 155, 156, 157, 158, 159, 140, 141, 142, 143, 144, 145, 146] (by decide +kernel) (by decide +kernel)
set_option maxRecDepth 20000 in
theorem gX5_rows_X2_waysTo : GoodIn wsX5_rows (wsV RX5 98 RX2 yX2_waysTo wsX2_waysTo) := goodIn_app (goodIn_of _ (by decide +kernel)) ggX5_rows_X2_waysTo
theorem dX5_rows_0 : decode cX5_rows 0 = .ok (.aload_n 0, 1) := by decide +kernel
theorem dX5_rows_1 : decode cX5_rows 1 = .ok (.iload_n 1, 1) := by decide +kernel
theorem dX5_rows_2 : decode cX5_rows 2 = .ok (.iload_n 2, 1) := by decide +kernel
theorem dX5_rows_3 : decode cX5_rows 3 = .ok (.invokevirtual 74, 3) := by decide +kernel
theorem dX5_rows_6 : decode cX5_rows 6 = .ok (.ifCond .ne 7, 3) := by decide +kernel
theorem dX5_rows_9 : decode cX5_rows 9 = .ok (.ldc2_w 93, 3) := by decide +kernel
theorem dX5_rows_12 : decode cX5_rows 12 = .ok (.lreturn, 1) := by decide +kernel
theorem dX5_rows_13 : decode cX5_rows 13 = .ok (.aload_n 0, 1) := by decide +kernel
theorem dX5_rows_14 : decode cX5_rows 14 = .ok (.getfield 10, 3) := by decide +kernel
theorem dX5_rows_17 : decode cX5_rows 17 = .ok (.invokevirtual 78, 3) := by decide +kernel
theorem dX5_rows_20 : decode cX5_rows 20 = .ok (.aload_n 0, 1) := by decide +kernel
theorem dX5_rows_21 : decode cX5_rows 21 = .ok (.getfield 10, 3) := by decide +kernel
theorem dX5_rows_24 : decode cX5_rows 24 = .ok (.invokevirtual 95, 3) := by decide +kernel
theorem dX5_rows_27 : decode cX5_rows 27 = .ok (.aload_n 0, 1) := by decide +kernel
theorem dX5_rows_28 : decode cX5_rows 28 = .ok (.getfield 10, 3) := by decide +kernel
theorem dX5_rows_31 : decode cX5_rows 31 = .ok (.iload_n 1, 1) := by decide +kernel
theorem dX5_rows_32 : decode cX5_rows 32 = .ok (.iload_n 2, 1) := by decide +kernel
theorem dX5_rows_33 : decode cX5_rows 33 = .ok (.invokevirtual 98, 3) := by decide +kernel
theorem dX5_rows_36 : decode cX5_rows 36 = .ok (.lreturn, 1) := by decide +kernel
set_option maxRecDepth 20000 in
theorem ggX5_best_X5_isAim : GoodIn wsX5_best wsX5_isAim := goodIn_r _ [7, 8, 9, 10, 11, 12, 13, 14, 112, 113, 114, 124, 125, 126, 127, 128, 129, 130] (by decide +kernel) (by decide +kernel)
set_option maxRecDepth 20000 in
theorem gX5_best_X5_isAim : GoodIn wsX5_best (wsV RX5 74 RX5 yX5_isAim wsX5_isAim) := goodIn_app (goodIn_of _ (by decide +kernel)) ggX5_best_X5_isAim
set_option maxRecDepth 20000 in
theorem ggX5_best_X2_explore : GoodIn wsX5_best wsX2_explore := goodIn_r _ [19, 20, 21, 22, 23, 24, 25, 26, 12, 27, 14, 28, 29, 30, 31, 32, 33, 34, 35, 36, 37, 38, 39, 40, 41, 42, 43, 44, 45, 46, 47, 48, 49, 50, 51, 52, 53, 6, 54, 55, 56, 57, 58, 59, 60, 61, 62, 63, 64, 65, 66, 67, 68, 69, 70, 71, 72, 73, 74, 75, 76, 77, 78, 79, 80, 81, 82, 83, 84, 85, 86, 87, 88, 89, 90, 91, 92, 93, 94, 95, 115, 116, 117, 118, 119, 120, 121, 122, 123, 124, 125, 126, 127, 128, 129, 130, 131, 132, 133, 134, 135, 136] (by decide +kernel) (by decide +kernel)
set_option maxRecDepth 20000 in
theorem gX5_best_X2_explore : GoodIn wsX5_best (wsV RX5 78 RX2 yX2_explore wsX2_explore) := goodIn_app (goodIn_of _ (by decide +kernel)) ggX5_best_X2_explore
set_option maxRecDepth 20000 in
theorem ggX5_best_X2_nearest : GoodIn wsX5_best wsX2_nearest := goodIn_r _ [99, 23, 100, 101, 21, 102, 67, 68, 12, 69, 14, 31, 32, 103, 104, 105, 106, 107, 10, 11, 13, 115, 116, 117, 118, 119, 120, 121, 122, 123, 131, 132, 133, 134, 124, 125, 126, 127, 128, 129, 130] (by decide +kernel) (by decide +kernel)
set_option maxRecDepth 20000 in
theorem gX5_best_X2_nearest : GoodIn wsX5_best (wsV RX5 85 RX2 yX2_nearest wsX2_nearest) := goodIn_app (goodIn_of _ (by decide +kernel)) ggX5_best_X2_nearest
set_option maxRecDepth 20000 in
theorem ggX5_best_X4_actOfRow : GoodIn wsX5_best wsX4_actOfRow := goodIn_r _ [111, 42, 52, 92, 93, 94, 37, 95, 131, 132, 133, 134] (by decide +kernel) (by decide +kernel)
set_option maxRecDepth 20000 in
theorem gX5_best_X4_actOfRow : GoodIn wsX5_best (wsV RX5 102 RX4 yX4_actOfRow wsX4_actOfRow) := goodIn_app (goodIn_of _ (by decide +kernel)) ggX5_best_X4_actOfRow
theorem dX5_best_0 : decode cX5_best 0 = .ok (.aload_n 0, 1) := by decide +kernel
theorem dX5_best_1 : decode cX5_best 1 = .ok (.iload_n 1, 1) := by decide +kernel
theorem dX5_best_2 : decode cX5_best 2 = .ok (.iload_n 2, 1) := by decide +kernel
theorem dX5_best_3 : decode cX5_best 3 = .ok (.invokevirtual 74, 3) := by decide +kernel
theorem dX5_best_6 : decode cX5_best 6 = .ok (.ifCond .eq 7, 3) := by decide +kernel
theorem dX5_best_9 : decode cX5_best 9 = .ok (.iload_n 3, 1) := by decide +kernel
theorem dX5_best_10 : decode cX5_best 10 = .ok (.ifCond .ge 6, 3) := by decide +kernel
theorem dX5_best_13 : decode cX5_best 13 = .ok (.bipush (-2), 2) := by decide +kernel
theorem dX5_best_15 : decode cX5_best 15 = .ok (.ireturn, 1) := by decide +kernel
theorem dX5_best_16 : decode cX5_best 16 = .ok (.aload_n 0, 1) := by decide +kernel
theorem dX5_best_17 : decode cX5_best 17 = .ok (.getfield 10, 3) := by decide +kernel
theorem dX5_best_20 : decode cX5_best 20 = .ok (.invokevirtual 78, 3) := by decide +kernel
theorem dX5_best_23 : decode cX5_best 23 = .ok (.aload_n 0, 1) := by decide +kernel
theorem dX5_best_24 : decode cX5_best 24 = .ok (.getfield 10, 3) := by decide +kernel
theorem dX5_best_27 : decode cX5_best 27 = .ok (.getfield 81, 3) := by decide +kernel
theorem dX5_best_30 : decode cX5_best 30 = .ok (.aload_n 0, 1) := by decide +kernel
theorem dX5_best_31 : decode cX5_best 31 = .ok (.getfield 10, 3) := by decide +kernel
theorem dX5_best_34 : decode cX5_best 34 = .ok (.iload_n 1, 1) := by decide +kernel
theorem dX5_best_35 : decode cX5_best 35 = .ok (.iload_n 2, 1) := by decide +kernel
theorem dX5_best_36 : decode cX5_best 36 = .ok (.invokevirtual 85, 3) := by decide +kernel
theorem dX5_best_39 : decode cX5_best 39 = .ok (.iload_n 3, 1) := by decide +kernel
theorem dX5_best_40 : decode cX5_best 40 = .ok (.invokevirtual 102, 3) := by decide +kernel
theorem dX5_best_43 : decode cX5_best 43 = .ok (.ireturn, 1) := by decide +kernel
set_option maxRecDepth 20000 in
theorem ggX5_sparing_X5_isAim : GoodIn wsX5_sparing wsX5_isAim := goodIn_r _ [8, 9, 10, 11, 12, 13, 14, 15, 144, 145, 146, 156, 157, 158, 159, 160, 161, 162] (by decide +kernel) (by decide +kernel)
set_option maxRecDepth 20000 in
theorem gX5_sparing_X5_isAim : GoodIn wsX5_sparing (wsV RX5 74 RX5 yX5_isAim wsX5_isAim) := goodIn_app (goodIn_of _ (by decide +kernel)) ggX5_sparing_X5_isAim
set_option maxRecDepth 20000 in
theorem ggX5_sparing_X2_explore : GoodIn wsX5_sparing wsX2_explore := goodIn_r _ [20, 21, 22, 23, 24, 25, 26, 27, 13, 28, 15, 29, 30, 31, 32, 33, 34, 35, 36, 37, 38, 39, 40, 41, 42, 43, 44, 45, 46, 47, 48, 49, 50, 51, 52, 53, 54, 7, 55, 56, 57, 58, 59, 60, 61, 62, 63, 64, 65, 66, 67, 68, 69, 70, 71, 72, 73, 74, 75, 76, 77, 78, 79, 80, 81, 82, 83, 84, 85, 86, 87, 88, 89, 90, 91, 92, 93, 94, 95, 96, 147, 148, 149, 150, 151, 152, 153, 154, 155, 156, 157, 158, 159, 160, 161, 162, 163, 164, 165, 166, 167, 168] (by decide +kernel) (by decide +kernel)
set_option maxRecDepth 20000 in
theorem gX5_sparing_X2_explore : GoodIn wsX5_sparing (wsV RX5 78 RX2 yX2_explore wsX2_explore) := goodIn_app (goodIn_of _ (by decide +kernel)) ggX5_sparing_X2_explore
set_option maxRecDepth 20000 in
theorem ggX5_sparing_X2_exploreSparing : GoodIn wsX5_sparing wsX2_exploreSparing := goodIn_r _ [100, 101, 22, 23, 102, 24, 103, 25, 26, 27, 13, 28, 15, 29, 30, 31, 32, 33, 34, 104, 105, 106, 86, 107, 88, 108, 52, 109, 110, 111, 112, 64, 65, 66, 113, 45, 46, 47, 114, 115, 116, 117, 118, 119, 120, 121, 122, 123, 68, 69, 70, 124, 72, 73, 74, 75, 76, 77, 78, 125, 80, 81, 82, 35, 36, 37, 38, 39, 40, 41, 42, 43, 44, 48, 49, 50, 51, 53, 54, 7, 55, 56, 57, 58, 59, 60, 61, 62, 63, 67, 71, 79, 83, 84, 85, 87, 89, 90, 91, 92, 93, 94, 95, 96, 147, 148, 149, 150, 151, 152, 153, 154, 155, 156, 157, 158, 159, 160, 161, 162, 167, 168, 163, 164, 165, 166] (by decide +kernel) (by decide +kernel)
set_option maxRecDepth 20000 in
theorem gX5_sparing_X2_exploreSparing : GoodIn wsX5_sparing (wsV RX5 105 RX2 yX2_exploreSparing wsX2_exploreSparing) := goodIn_app (goodIn_of _ (by decide +kernel)) ggX5_sparing_X2_exploreSparing
set_option maxRecDepth 20000 in
theorem ggX5_sparing_X2_thriftiest : GoodIn wsX5_sparing wsX2_thriftiest := goodIn_r _ [129, 103, 130, 131, 22, 102, 132, 68, 69, 13, 70, 15, 32, 33, 133, 134, 135, 136, 137, 11, 12, 14, 138, 120, 121, 86, 122, 88, 147, 148, 149, 150, 151, 152, 153, 154, 155, 163, 164, 165, 166, 156, 157, 158, 159, 160, 161, 162, 167, 168] (by decide +kernel) (by decide +kernel)
set_option maxRecDepth 20000 in
theorem gX5_sparing_X2_thriftiest : GoodIn wsX5_sparing (wsV RX5 108 RX2 yX2_thriftiest wsX2_thriftiest) := goodIn_app (goodIn_of _ (by decide +kernel)) ggX5_sparing_X2_thriftiest
set_option maxRecDepth 20000 in
theorem ggX5_sparing_X3_leastFor : GoodIn wsX5_sparing wsX3_leastFor := goodIn_r _ [122, 88, 167, 168] (by decide +kernel) (by decide +kernel)
set_option maxRecDepth 20000 in
theorem gX5_sparing_X3_leastFor : GoodIn wsX5_sparing (wsV RX5 115 RX3 yX3_leastFor wsX3_leastFor) := goodIn_app (goodIn_of _ (by decide +kernel)) ggX5_sparing_X3_leastFor
set_option maxRecDepth 20000 in
theorem ggX5_sparing_X4_acts : GoodIn wsX5_sparing wsX4_acts := goodIn_r _ [143, 43, 93, 94, 95, 38, 96, 163, 164, 165, 166] (by decide +kernel) (by decide +kernel)
set_option maxRecDepth 20000 in
theorem gX5_sparing_X4_acts : GoodIn wsX5_sparing (wsV RX5 88 RX4 yX4_acts wsX4_acts) := goodIn_app (goodIn_of _ (by decide +kernel)) ggX5_sparing_X4_acts
theorem dX5_sparing_0 : decode cX5_sparing 0 = .ok (.aload_n 0, 1) := by decide +kernel
theorem dX5_sparing_1 : decode cX5_sparing 1 = .ok (.iload_n 1, 1) := by decide +kernel
theorem dX5_sparing_2 : decode cX5_sparing 2 = .ok (.iload_n 2, 1) := by decide +kernel
theorem dX5_sparing_3 : decode cX5_sparing 3 = .ok (.invokevirtual 74, 3) := by decide +kernel
theorem dX5_sparing_6 : decode cX5_sparing 6 = .ok (.ifCond .eq 12, 3) := by decide +kernel
theorem dX5_sparing_9 : decode cX5_sparing 9 = .ok (.iload_n 3, 1) := by decide +kernel
theorem dX5_sparing_10 : decode cX5_sparing 10 = .ok (.ifCond .lt 8, 3) := by decide +kernel
theorem dX5_sparing_13 : decode cX5_sparing 13 = .ok (.iload_n 3, 1) := by decide +kernel
theorem dX5_sparing_14 : decode cX5_sparing 14 = .ok (.iconst 1, 1) := by decide +kernel
theorem dX5_sparing_15 : decode cX5_sparing 15 = .ok (.if_icmp .le 6, 3) := by decide +kernel
theorem dX5_sparing_18 : decode cX5_sparing 18 = .ok (.bipush (-2), 2) := by decide +kernel
theorem dX5_sparing_20 : decode cX5_sparing 20 = .ok (.ireturn, 1) := by decide +kernel
theorem dX5_sparing_21 : decode cX5_sparing 21 = .ok (.aload_n 0, 1) := by decide +kernel
theorem dX5_sparing_22 : decode cX5_sparing 22 = .ok (.getfield 10, 3) := by decide +kernel
theorem dX5_sparing_25 : decode cX5_sparing 25 = .ok (.invokevirtual 78, 3) := by decide +kernel
theorem dX5_sparing_28 : decode cX5_sparing 28 = .ok (.aload_n 0, 1) := by decide +kernel
theorem dX5_sparing_29 : decode cX5_sparing 29 = .ok (.getfield 10, 3) := by decide +kernel
theorem dX5_sparing_32 : decode cX5_sparing 32 = .ok (.invokevirtual 105, 3) := by decide +kernel
theorem dX5_sparing_35 : decode cX5_sparing 35 = .ok (.aload_n 0, 1) := by decide +kernel
theorem dX5_sparing_36 : decode cX5_sparing 36 = .ok (.getfield 10, 3) := by decide +kernel
theorem dX5_sparing_39 : decode cX5_sparing 39 = .ok (.iload_n 1, 1) := by decide +kernel
theorem dX5_sparing_40 : decode cX5_sparing 40 = .ok (.iload_n 2, 1) := by decide +kernel
theorem dX5_sparing_41 : decode cX5_sparing 41 = .ok (.invokevirtual 108, 3) := by decide +kernel
theorem dX5_sparing_44 : decode cX5_sparing 44 = .ok (.istore 4, 2) := by decide +kernel
theorem dX5_sparing_46 : decode cX5_sparing 46 = .ok (.iload_n 3, 1) := by decide +kernel
theorem dX5_sparing_47 : decode cX5_sparing 47 = .ok (.ifCond .ne 18, 3) := by decide +kernel
theorem dX5_sparing_50 : decode cX5_sparing 50 = .ok (.aload_n 0, 1) := by decide +kernel
theorem dX5_sparing_51 : decode cX5_sparing 51 = .ok (.getfield 10, 3) := by decide +kernel
theorem dX5_sparing_54 : decode cX5_sparing 54 = .ok (.getfield 111, 3) := by decide +kernel
theorem dX5_sparing_57 : decode cX5_sparing 57 = .ok (.iload 4, 2) := by decide +kernel
theorem dX5_sparing_59 : decode cX5_sparing 59 = .ok (.invokevirtual 115, 3) := by decide +kernel
theorem dX5_sparing_62 : decode cX5_sparing 62 = .ok (.goto 15, 3) := by decide +kernel
theorem dX5_sparing_65 : decode cX5_sparing 65 = .ok (.aload_n 0, 1) := by decide +kernel
theorem dX5_sparing_66 : decode cX5_sparing 66 = .ok (.getfield 10, 3) := by decide +kernel
theorem dX5_sparing_69 : decode cX5_sparing 69 = .ok (.getfield 120, 3) := by decide +kernel
theorem dX5_sparing_72 : decode cX5_sparing 72 = .ok (.iload 4, 2) := by decide +kernel
theorem dX5_sparing_74 : decode cX5_sparing 74 = .ok (.invokevirtual 88, 3) := by decide +kernel
theorem dX5_sparing_77 : decode cX5_sparing 77 = .ok (.ireturn, 1) := by decide +kernel
set_option maxRecDepth 20000 in
theorem ggX5_spare_X5_isAim : GoodIn wsX5_spare wsX5_isAim := goodIn_r _ [7, 8, 9, 10, 11, 12, 13, 14, 142, 143, 144, 154, 155, 156, 157, 158, 159, 160] (by decide +kernel) (by decide +kernel)
set_option maxRecDepth 20000 in
theorem gX5_spare_X5_isAim : GoodIn wsX5_spare (wsV RX5 74 RX5 yX5_isAim wsX5_isAim) := goodIn_app (goodIn_of _ (by decide +kernel)) ggX5_spare_X5_isAim
set_option maxRecDepth 20000 in
theorem ggX5_spare_X2_explore : GoodIn wsX5_spare wsX2_explore := goodIn_r _ [19, 20, 21, 22, 23, 24, 25, 26, 12, 27, 14, 28, 29, 30, 31, 32, 33, 34, 35, 36, 37, 38, 39, 40, 41, 42, 43, 44, 45, 46, 47, 48, 49, 50, 51, 52, 53, 6, 54, 55, 56, 57, 58, 59, 60, 61, 62, 63, 64, 65, 66, 67, 68, 69, 70, 71, 72, 73, 74, 75, 76, 77, 78, 79, 80, 81, 82, 83, 84, 85, 86, 87, 88, 89, 90, 91, 92, 93, 94, 95, 145, 146, 147, 148, 149, 150, 151, 152, 153, 154, 155, 156, 157, 158, 159, 160, 161, 162, 163, 164, 165, 166] (by decide +kernel) (by decide +kernel)
set_option maxRecDepth 20000 in
theorem gX5_spare_X2_explore : GoodIn wsX5_spare (wsV RX5 78 RX2 yX2_explore wsX2_explore) := goodIn_app (goodIn_of _ (by decide +kernel)) ggX5_spare_X2_explore
set_option maxRecDepth 20000 in
theorem ggX5_spare_X2_exploreSparing : GoodIn wsX5_spare wsX2_exploreSparing := goodIn_r _ [99, 100, 21, 22, 101, 23, 102, 24, 25, 26, 12, 27, 14, 28, 29, 30, 31, 32, 33, 103, 104, 105, 85, 106, 87, 107, 51, 108, 109, 110, 111, 63, 64, 65, 112, 44, 45, 46, 113, 114, 115, 116, 117, 118, 119, 120, 121, 122, 67, 68, 69, 123, 71, 72, 73, 74, 75, 76, 77, 124, 79, 80, 81, 34, 35, 36, 37, 38, 39, 40, 41, 42, 43, 47, 48, 49, 50, 52, 53, 6, 54, 55, 56, 57, 58, 59, 60, 61, 62, 66, 70, 78, 82, 83, 84, 86, 88, 89, 90, 91, 92, 93, 94, 95, 145, 146, 147, 148, 149, 150, 151, 152, 153, 154, 155, 156, 157, 158, 159, 160, 165, 166, 161, 162, 163, 164] (by decide +kernel) (by decide +kernel)
set_option maxRecDepth 20000 in
theorem gX5_spare_X2_exploreSparing : GoodIn wsX5_spare (wsV RX5 105 RX2 yX2_exploreSparing wsX2_exploreSparing) := goodIn_app (goodIn_of _ (by decide +kernel)) ggX5_spare_X2_exploreSparing
set_option maxRecDepth 20000 in
theorem ggX5_spare_X2_thriftiest : GoodIn wsX5_spare wsX2_thriftiest := goodIn_r _ [128, 102, 129, 130, 21, 101, 131, 67, 68, 12, 69, 14, 31, 32, 132, 133, 134, 135, 136, 10, 11, 13, 137, 119, 120, 85, 121, 87, 145, 146, 147, 148, 149, 150, 151, 152, 153, 161, 162, 163, 164, 154, 155, 156, 157, 158, 159, 160, 165, 166] (by decide +kernel) (by decide +kernel)
set_option maxRecDepth 20000 in
theorem gX5_spare_X2_thriftiest : GoodIn wsX5_spare (wsV RX5 108 RX2 yX2_thriftiest wsX2_thriftiest) := goodIn_app (goodIn_of _ (by decide +kernel)) ggX5_spare_X2_thriftiest
set_option maxRecDepth 20000 in
theorem ggX5_spare_X4_actOfRow : GoodIn wsX5_spare wsX4_actOfRow := goodIn_r _ [141, 42, 52, 92, 93, 94, 37, 95, 161, 162, 163, 164] (by decide +kernel) (by decide +kernel)
set_option maxRecDepth 20000 in
theorem gX5_spare_X4_actOfRow : GoodIn wsX5_spare (wsV RX5 102 RX4 yX4_actOfRow wsX4_actOfRow) := goodIn_app (goodIn_of _ (by decide +kernel)) ggX5_spare_X4_actOfRow
theorem dX5_spare_0 : decode cX5_spare 0 = .ok (.aload_n 0, 1) := by decide +kernel
theorem dX5_spare_1 : decode cX5_spare 1 = .ok (.iload_n 1, 1) := by decide +kernel
theorem dX5_spare_2 : decode cX5_spare 2 = .ok (.iload_n 2, 1) := by decide +kernel
theorem dX5_spare_3 : decode cX5_spare 3 = .ok (.invokevirtual 74, 3) := by decide +kernel
theorem dX5_spare_6 : decode cX5_spare 6 = .ok (.ifCond .eq 7, 3) := by decide +kernel
theorem dX5_spare_9 : decode cX5_spare 9 = .ok (.iload_n 3, 1) := by decide +kernel
theorem dX5_spare_10 : decode cX5_spare 10 = .ok (.ifCond .ge 6, 3) := by decide +kernel
theorem dX5_spare_13 : decode cX5_spare 13 = .ok (.bipush (-2), 2) := by decide +kernel
theorem dX5_spare_15 : decode cX5_spare 15 = .ok (.ireturn, 1) := by decide +kernel
theorem dX5_spare_16 : decode cX5_spare 16 = .ok (.aload_n 0, 1) := by decide +kernel
theorem dX5_spare_17 : decode cX5_spare 17 = .ok (.getfield 10, 3) := by decide +kernel
theorem dX5_spare_20 : decode cX5_spare 20 = .ok (.invokevirtual 78, 3) := by decide +kernel
theorem dX5_spare_23 : decode cX5_spare 23 = .ok (.aload_n 0, 1) := by decide +kernel
theorem dX5_spare_24 : decode cX5_spare 24 = .ok (.getfield 10, 3) := by decide +kernel
theorem dX5_spare_27 : decode cX5_spare 27 = .ok (.invokevirtual 105, 3) := by decide +kernel
theorem dX5_spare_30 : decode cX5_spare 30 = .ok (.aload_n 0, 1) := by decide +kernel
theorem dX5_spare_31 : decode cX5_spare 31 = .ok (.getfield 10, 3) := by decide +kernel
theorem dX5_spare_34 : decode cX5_spare 34 = .ok (.getfield 120, 3) := by decide +kernel
theorem dX5_spare_37 : decode cX5_spare 37 = .ok (.aload_n 0, 1) := by decide +kernel
theorem dX5_spare_38 : decode cX5_spare 38 = .ok (.getfield 10, 3) := by decide +kernel
theorem dX5_spare_41 : decode cX5_spare 41 = .ok (.iload_n 1, 1) := by decide +kernel
theorem dX5_spare_42 : decode cX5_spare 42 = .ok (.iload_n 2, 1) := by decide +kernel
theorem dX5_spare_43 : decode cX5_spare 43 = .ok (.invokevirtual 108, 3) := by decide +kernel
theorem dX5_spare_46 : decode cX5_spare 46 = .ok (.iload_n 3, 1) := by decide +kernel
theorem dX5_spare_47 : decode cX5_spare 47 = .ok (.invokevirtual 102, 3) := by decide +kernel
theorem dX5_spare_50 : decode cX5_spare 50 = .ok (.ireturn, 1) := by decide +kernel
set_option maxRecDepth 20000 in
theorem ggX5_makes_X2_explore : GoodIn wsX5_makes wsX2_explore := goodIn_r _ [6, 7, 8, 9, 10, 11, 12, 13, 14, 15, 16, 17, 18, 19, 20, 21, 22, 23, 24, 25, 26, 27, 28, 29, 30, 31, 32, 33, 34, 35, 36, 37, 38, 39, 40, 41, 42, 43, 44, 45, 46, 47, 48, 49, 50, 51, 52, 53, 54, 55, 56, 57, 58, 59, 60, 61, 62, 63, 64, 65, 66, 67, 68, 69, 70, 71, 72, 73, 74, 75, 76, 77, 78, 79, 80, 81, 82, 83, 84, 85, 98, 99, 100, 101, 102, 103, 104, 105, 106, 107, 108, 109, 110, 111, 112, 113, 114, 115, 116, 117, 118, 119] (by decide +kernel) (by decide +kernel)
set_option maxRecDepth 20000 in
theorem gX5_makes_X2_explore : GoodIn wsX5_makes (wsV RX5 78 RX2 yX2_explore wsX2_explore) := goodIn_app (goodIn_of _ (by decide +kernel)) ggX5_makes_X2_explore
set_option maxRecDepth 20000 in
theorem ggX5_makes_X2_allHeld : GoodIn wsX5_makes wsX2_allHeld := goodIn_r _ [89, 10, 90, 91, 8, 92, 93, 94, 57, 58, 14, 59, 16, 20, 21, 98, 99, 100, 101, 102, 103, 104, 105, 106, 114, 115, 116, 117, 107, 108, 109, 110, 111, 112, 113] (by decide +kernel) (by decide +kernel)
set_option maxRecDepth 20000 in
theorem gX5_makes_X2_allHeld : GoodIn wsX5_makes (wsV RX5 123 RX2 yX2_allHeld wsX2_allHeld) := goodIn_app (goodIn_of _ (by decide +kernel)) ggX5_makes_X2_allHeld
theorem dX5_makes_0 : decode cX5_makes 0 = .ok (.aload_n 0, 1) := by decide +kernel
theorem dX5_makes_1 : decode cX5_makes 1 = .ok (.getfield 10, 3) := by decide +kernel
theorem dX5_makes_4 : decode cX5_makes 4 = .ok (.invokevirtual 78, 3) := by decide +kernel
theorem dX5_makes_7 : decode cX5_makes 7 = .ok (.aload_n 0, 1) := by decide +kernel
theorem dX5_makes_8 : decode cX5_makes 8 = .ok (.getfield 10, 3) := by decide +kernel
theorem dX5_makes_11 : decode cX5_makes 11 = .ok (.invokevirtual 123, 3) := by decide +kernel
theorem dX5_makes_14 : decode cX5_makes 14 = .ok (.ireturn, 1) := by decide +kernel
set_option maxRecDepth 20000 in
theorem ggX5_reaches_X2_explore : GoodIn wsX5_reaches wsX2_explore := goodIn_r _ [8, 9, 10, 11, 12, 13, 14, 15, 16, 17, 18, 19, 20, 21, 22, 23, 24, 25, 26, 27, 28, 29, 30, 31, 32, 33, 34, 35, 36, 37, 38, 39, 40, 41, 42, 43, 44, 45, 46, 47, 48, 49, 50, 51, 52, 53, 54, 55, 56, 57, 58, 59, 60, 61, 62, 63, 64, 65, 66, 67, 68, 69, 70, 71, 72, 73, 74, 75, 76, 77, 78, 79, 80, 81, 82, 83, 84, 85, 86, 87, 91, 92, 93, 94, 95, 96, 97, 98, 99, 104, 105, 106, 107, 108, 109, 110, 100, 101, 102, 103, 111, 112] (by decide +kernel) (by decide +kernel)
set_option maxRecDepth 20000 in
theorem gX5_reaches_X2_explore : GoodIn wsX5_reaches (wsV RX5 78 RX2 yX2_explore wsX2_explore) := goodIn_app (goodIn_of _ (by decide +kernel)) ggX5_reaches_X2_explore
theorem dX5_reaches_0 : decode cX5_reaches 0 = .ok (.aload_n 0, 1) := by decide +kernel
theorem dX5_reaches_1 : decode cX5_reaches 1 = .ok (.getfield 10, 3) := by decide +kernel
theorem dX5_reaches_4 : decode cX5_reaches 4 = .ok (.invokevirtual 78, 3) := by decide +kernel
theorem dX5_reaches_7 : decode cX5_reaches 7 = .ok (.aload_n 0, 1) := by decide +kernel
theorem dX5_reaches_8 : decode cX5_reaches 8 = .ok (.getfield 10, 3) := by decide +kernel
theorem dX5_reaches_11 : decode cX5_reaches 11 = .ok (.getfield 81, 3) := by decide +kernel
theorem dX5_reaches_14 : decode cX5_reaches 14 = .ok (.getfield 126, 3) := by decide +kernel
theorem dX5_reaches_17 : decode cX5_reaches 17 = .ok (.ireturn, 1) := by decide +kernel
set_option maxRecDepth 20000 in
theorem ggX5_road_X1_has : GoodIn wsX5_road wsX1_has := goodIn_r _ [8, 9, 21, 22, 23, 24, 25, 26, 27] (by decide +kernel) (by decide +kernel)
set_option maxRecDepth 20000 in
theorem gX5_road_X1_has : GoodIn wsX5_road (wsV RX5 48 RX1 yX1_has wsX1_has) := goodIn_app (goodIn_of _ (by decide +kernel)) ggX5_road_X1_has
set_option maxRecDepth 20000 in
theorem ggX5_road_X5_actsOfRoad : GoodIn wsX5_road wsX5_actsOfRoad := goodIn_r _ [13, 14, 15, 16, 17] (by decide +kernel) (by decide +kernel)
set_option maxRecDepth 20000 in
theorem gX5_road_X5_actsOfRoad : GoodIn wsX5_road (va_wsS RX5 129 yX5_actsOfRoad wsX5_actsOfRoad) := goodIn_app (goodIn_of _ (by decide +kernel)) ggX5_road_X5_actsOfRoad
theorem dX5_road_0 : decode cX5_road 0 = .ok (.aload_n 0, 1) := by decide +kernel
theorem dX5_road_1 : decode cX5_road 1 = .ok (.getfield 20, 3) := by decide +kernel
theorem dX5_road_4 : decode cX5_road 4 = .ok (.iload_n 1, 1) := by decide +kernel
theorem dX5_road_5 : decode cX5_road 5 = .ok (.invokevirtual 48, 3) := by decide +kernel
theorem dX5_road_8 : decode cX5_road 8 = .ok (.ifCond .eq 14, 3) := by decide +kernel
theorem dX5_road_11 : decode cX5_road 11 = .ok (.iload_n 2, 1) := by decide +kernel
theorem dX5_road_12 : decode cX5_road 12 = .ok (.iconst 1, 1) := by decide +kernel
theorem dX5_road_13 : decode cX5_road 13 = .ok (.if_icmp .lt 9, 3) := by decide +kernel
theorem dX5_road_16 : decode cX5_road 16 = .ok (.iload_n 2, 1) := by decide +kernel
theorem dX5_road_17 : decode cX5_road 17 = .ok (.bipush 10, 2) := by decide +kernel
theorem dX5_road_19 : decode cX5_road 19 = .ok (.if_icmp .le 6, 3) := by decide +kernel
theorem dX5_road_22 : decode cX5_road 22 = .ok (.bipush (-2), 2) := by decide +kernel
theorem dX5_road_24 : decode cX5_road 24 = .ok (.ireturn, 1) := by decide +kernel
theorem dX5_road_25 : decode cX5_road 25 = .ok (.aload_n 0, 1) := by decide +kernel
theorem dX5_road_26 : decode cX5_road 26 = .ok (.getfield 20, 3) := by decide +kernel
theorem dX5_road_29 : decode cX5_road 29 = .ok (.getfield 28, 3) := by decide +kernel
theorem dX5_road_32 : decode cX5_road 32 = .ok (.iconst 2, 1) := by decide +kernel
theorem dX5_road_33 : decode cX5_road 33 = .ok (.if_icmp .eq 6, 3) := by decide +kernel
theorem dX5_road_36 : decode cX5_road 36 = .ok (.bipush (-3), 2) := by decide +kernel
theorem dX5_road_38 : decode cX5_road 38 = .ok (.ireturn, 1) := by decide +kernel
theorem dX5_road_39 : decode cX5_road 39 = .ok (.aload_n 0, 1) := by decide +kernel
theorem dX5_road_40 : decode cX5_road 40 = .ok (.getfield 20, 3) := by decide +kernel
theorem dX5_road_43 : decode cX5_road 43 = .ok (.getfield 52, 3) := by decide +kernel
theorem dX5_road_46 : decode cX5_road 46 = .ok (.iload_n 1, 1) := by decide +kernel
theorem dX5_road_47 : decode cX5_road 47 = .ok (.iaload, 1) := by decide +kernel
theorem dX5_road_48 : decode cX5_road 48 = .ok (.aload_n 0, 1) := by decide +kernel
theorem dX5_road_49 : decode cX5_road 49 = .ok (.getfield 20, 3) := by decide +kernel
theorem dX5_road_52 : decode cX5_road 52 = .ok (.getfield 52, 3) := by decide +kernel
theorem dX5_road_55 : decode cX5_road 55 = .ok (.iconst 1, 1) := by decide +kernel
theorem dX5_road_56 : decode cX5_road 56 = .ok (.iload_n 1, 1) := by decide +kernel
theorem dX5_road_57 : decode cX5_road 57 = .ok (.isub, 1) := by decide +kernel
theorem dX5_road_58 : decode cX5_road 58 = .ok (.iaload, 1) := by decide +kernel
theorem dX5_road_59 : decode cX5_road 59 = .ok (.iload_n 2, 1) := by decide +kernel
theorem dX5_road_60 : decode cX5_road 60 = .ok (.invokestatic 129, 3) := by decide +kernel
theorem dX5_road_63 : decode cX5_road 63 = .ok (.ireturn, 1) := by decide +kernel
theorem dX5_sizes_0 : decode cX5_sizes 0 = .ok (.iload_n 1, 1) := by decide +kernel
theorem dX5_sizes_1 : decode cX5_sizes 1 = .ok (.iconst 1, 1) := by decide +kernel
theorem dX5_sizes_2 : decode cX5_sizes 2 = .ok (.if_icmp .lt 28, 3) := by decide +kernel
theorem dX5_sizes_5 : decode cX5_sizes 5 = .ok (.iload_n 1, 1) := by decide +kernel
theorem dX5_sizes_6 : decode cX5_sizes 6 = .ok (.iconst 3, 1) := by decide +kernel
theorem dX5_sizes_7 : decode cX5_sizes 7 = .ok (.if_icmp .gt 23, 3) := by decide +kernel
theorem dX5_sizes_10 : decode cX5_sizes 10 = .ok (.iload_n 2, 1) := by decide +kernel
theorem dX5_sizes_11 : decode cX5_sizes 11 = .ok (.iconst 1, 1) := by decide +kernel
theorem dX5_sizes_12 : decode cX5_sizes 12 = .ok (.if_icmp .lt 18, 3) := by decide +kernel
theorem dX5_sizes_15 : decode cX5_sizes 15 = .ok (.iload_n 2, 1) := by decide +kernel
theorem dX5_sizes_16 : decode cX5_sizes 16 = .ok (.bipush 10, 2) := by decide +kernel
theorem dX5_sizes_18 : decode cX5_sizes 18 = .ok (.if_icmp .gt 12, 3) := by decide +kernel
theorem dX5_sizes_21 : decode cX5_sizes 21 = .ok (.iload_n 3, 1) := by decide +kernel
theorem dX5_sizes_22 : decode cX5_sizes 22 = .ok (.ifCond .lt 8, 3) := by decide +kernel
theorem dX5_sizes_25 : decode cX5_sizes 25 = .ok (.iload_n 3, 1) := by decide +kernel
theorem dX5_sizes_26 : decode cX5_sizes 26 = .ok (.iload_n 1, 1) := by decide +kernel
theorem dX5_sizes_27 : decode cX5_sizes 27 = .ok (.if_icmp .lt 6, 3) := by decide +kernel
theorem dX5_sizes_30 : decode cX5_sizes 30 = .ok (.bipush (-2), 2) := by decide +kernel
theorem dX5_sizes_32 : decode cX5_sizes 32 = .ok (.ireturn, 1) := by decide +kernel
theorem dX5_sizes_33 : decode cX5_sizes 33 = .ok (.iload_n 1, 1) := by decide +kernel
theorem dX5_sizes_34 : decode cX5_sizes 34 = .ok (.iconst 1, 1) := by decide +kernel
theorem dX5_sizes_35 : decode cX5_sizes 35 = .ok (.if_icmp .ne 10, 3) := by decide +kernel
theorem dX5_sizes_38 : decode cX5_sizes 38 = .ok (.iload_n 2, 1) := by decide +kernel
theorem dX5_sizes_39 : decode cX5_sizes 39 = .ok (.iconst 1, 1) := by decide +kernel
theorem dX5_sizes_40 : decode cX5_sizes 40 = .ok (.if_icmp .le 5, 3) := by decide +kernel
theorem dX5_sizes_43 : decode cX5_sizes 43 = .ok (.iconst (-1), 1) := by decide +kernel
theorem dX5_sizes_44 : decode cX5_sizes 44 = .ok (.ireturn, 1) := by decide +kernel
theorem dX5_sizes_45 : decode cX5_sizes 45 = .ok (.iload_n 3, 1) := by decide +kernel
theorem dX5_sizes_46 : decode cX5_sizes 46 = .ok (.iload_n 1, 1) := by decide +kernel
theorem dX5_sizes_47 : decode cX5_sizes 47 = .ok (.iconst 1, 1) := by decide +kernel
theorem dX5_sizes_48 : decode cX5_sizes 48 = .ok (.isub, 1) := by decide +kernel
theorem dX5_sizes_49 : decode cX5_sizes 49 = .ok (.if_icmp .ne 7, 3) := by decide +kernel
theorem dX5_sizes_52 : decode cX5_sizes 52 = .ok (.iload_n 2, 1) := by decide +kernel
theorem dX5_sizes_53 : decode cX5_sizes 53 = .ok (.goto 4, 3) := by decide +kernel
theorem dX5_sizes_56 : decode cX5_sizes 56 = .ok (.iconst 1, 1) := by decide +kernel
theorem dX5_sizes_57 : decode cX5_sizes 57 = .ok (.ireturn, 1) := by decide +kernel
set_option maxRecDepth 20000 in
theorem ggX5_glass_X0_add : GoodIn wsX5_glass wsX0_add := goodIn_r _ [7, 8, 9, 10, 14, 15, 16, 17, 18, 19, 20, 21, 22, 23, 24, 25] (by decide +kernel) (by decide +kernel)
set_option maxRecDepth 20000 in
theorem gX5_glass_X0_add : GoodIn wsX5_glass (wsV RX5 134 RX0 yX0_add wsX0_add) := goodIn_app (goodIn_of _ (by decide +kernel)) ggX5_glass_X0_add
theorem dX5_glass_0 : decode cX5_glass 0 = .ok (.iload_n 1, 1) := by decide +kernel
theorem dX5_glass_1 : decode cX5_glass 1 = .ok (.iconst 1, 1) := by decide +kernel
theorem dX5_glass_2 : decode cX5_glass 2 = .ok (.if_icmp .lt 9, 3) := by decide +kernel
theorem dX5_glass_5 : decode cX5_glass 5 = .ok (.iload_n 1, 1) := by decide +kernel
theorem dX5_glass_6 : decode cX5_glass 6 = .ok (.bipush 12, 2) := by decide +kernel
theorem dX5_glass_8 : decode cX5_glass 8 = .ok (.if_icmp .le 6, 3) := by decide +kernel
theorem dX5_glass_11 : decode cX5_glass 11 = .ok (.bipush (-2), 2) := by decide +kernel
theorem dX5_glass_13 : decode cX5_glass 13 = .ok (.ireturn, 1) := by decide +kernel
theorem dX5_glass_14 : decode cX5_glass 14 = .ok (.aload_n 0, 1) := by decide +kernel
theorem dX5_glass_15 : decode cX5_glass 15 = .ok (.getfield 24, 3) := by decide +kernel
theorem dX5_glass_18 : decode cX5_glass 18 = .ok (.getfield 133, 3) := by decide +kernel
theorem dX5_glass_21 : decode cX5_glass 21 = .ok (.iconst 3, 1) := by decide +kernel
theorem dX5_glass_22 : decode cX5_glass 22 = .ok (.if_icmp .lt 8, 3) := by decide +kernel
theorem dX5_glass_25 : decode cX5_glass 25 = .ok (.bipush (-4), 2) := by decide +kernel
theorem dX5_glass_27 : decode cX5_glass 27 = .ok (.goto 11, 3) := by decide +kernel
theorem dX5_glass_30 : decode cX5_glass 30 = .ok (.aload_n 0, 1) := by decide +kernel
theorem dX5_glass_31 : decode cX5_glass 31 = .ok (.getfield 24, 3) := by decide +kernel
theorem dX5_glass_34 : decode cX5_glass 34 = .ok (.iload_n 1, 1) := by decide +kernel
theorem dX5_glass_35 : decode cX5_glass 35 = .ok (.invokevirtual 134, 3) := by decide +kernel
theorem dX5_glass_38 : decode cX5_glass 38 = .ok (.ireturn, 1) := by decide +kernel
set_option maxRecDepth 20000 in
theorem ggX5_smash_X0_removeAll : GoodIn wsX5_smash wsX0_removeAll := goodIn_r _ [6, 7, 8, 12, 13, 14, 15, 16, 17, 18, 19, 20, 21, 22, 23] (by decide +kernel) (by decide +kernel)
set_option maxRecDepth 20000 in
theorem gX5_smash_X0_removeAll : GoodIn wsX5_smash (wsV RX5 136 RX0 yX0_removeAll wsX0_removeAll) := goodIn_app (goodIn_of _ (by decide +kernel)) ggX5_smash_X0_removeAll
theorem dX5_smash_0 : decode cX5_smash 0 = .ok (.aload_n 0, 1) := by decide +kernel
theorem dX5_smash_1 : decode cX5_smash 1 = .ok (.getfield 24, 3) := by decide +kernel
theorem dX5_smash_4 : decode cX5_smash 4 = .ok (.invokevirtual 136, 3) := by decide +kernel
theorem dX5_smash_7 : decode cX5_smash 7 = .ok (.ireturn, 1) := by decide +kernel
set_option maxRecDepth 20000 in
theorem ggX5_await_X0_workOut : GoodIn wsX5_await wsX0_workOut := goodIn_r _ [7, 8, 9, 10, 11, 12, 13, 6, 14, 15, 16, 17, 18, 19, 20, 21, 22, 23, 24, 25, 26, 27, 28, 29, 30, 31, 32, 33, 34, 35, 36, 37, 38, 39, 40, 41, 42, 43, 44, 45, 46, 47, 48, 49, 50, 51, 52, 53, 54, 55, 56, 57, 58, 59, 60, 61, 62, 63, 64, 65, 66, 67, 68, 69, 70, 71, 72, 73, 74, 75, 76, 77, 78, 79, 80, 81, 82, 83, 84, 85, 86, 87, 88, 89, 90, 91, 92, 93, 94, 95, 96, 97, 98, 99, 100, 101, 102, 103, 104, 105, 106, 110, 111, 112, 113, 114, 115, 116, 117, 118, 119, 120, 121] (by decide +kernel) (by decide +kernel)
set_option maxRecDepth 20000 in
theorem gX5_await_X0_workOut : GoodIn wsX5_await (wsV RX5 137 RX0 yX0_workOut wsX0_workOut) := goodIn_app (goodIn_of _ (by decide +kernel)) ggX5_await_X0_workOut
theorem dX5_await_0 : decode cX5_await 0 = .ok (.iload_n 1, 1) := by decide +kernel
theorem dX5_await_1 : decode cX5_await 1 = .ok (.iconst 1, 1) := by decide +kernel
theorem dX5_await_2 : decode cX5_await 2 = .ok (.if_icmp .lt 9, 3) := by decide +kernel
theorem dX5_await_5 : decode cX5_await 5 = .ok (.iload_n 1, 1) := by decide +kernel
theorem dX5_await_6 : decode cX5_await 6 = .ok (.bipush 40, 2) := by decide +kernel
theorem dX5_await_8 : decode cX5_await 8 = .ok (.if_icmp .le 6, 3) := by decide +kernel
theorem dX5_await_11 : decode cX5_await 11 = .ok (.bipush (-2), 2) := by decide +kernel
theorem dX5_await_13 : decode cX5_await 13 = .ok (.ireturn, 1) := by decide +kernel
theorem dX5_await_14 : decode cX5_await 14 = .ok (.aload_n 0, 1) := by decide +kernel
theorem dX5_await_15 : decode cX5_await 15 = .ok (.getfield 24, 3) := by decide +kernel
theorem dX5_await_18 : decode cX5_await 18 = .ok (.invokevirtual 137, 3) := by decide +kernel
theorem dX5_await_21 : decode cX5_await 21 = .ok (.aload_n 0, 1) := by decide +kernel
theorem dX5_await_22 : decode cX5_await 22 = .ok (.getfield 24, 3) := by decide +kernel
theorem dX5_await_25 : decode cX5_await 25 = .ok (.getfield 140, 3) := by decide +kernel
theorem dX5_await_28 : decode cX5_await 28 = .ok (.iload_n 1, 1) := by decide +kernel
theorem dX5_await_29 : decode cX5_await 29 = .ok (.iaload, 1) := by decide +kernel
theorem dX5_await_30 : decode cX5_await 30 = .ok (.ireturn, 1) := by decide +kernel
set_option maxRecDepth 20000 in
theorem ggX5_turns_X0_workOut : GoodIn wsX5_turns wsX0_workOut := goodIn_r _ [7, 8, 9, 10, 11, 12, 13, 6, 14, 15, 16, 17, 18, 19, 20, 21, 22, 23, 24, 25, 26, 27, 28, 29, 30, 31, 32, 33, 34, 35, 36, 37, 38, 39, 40, 41, 42, 43, 44, 45, 46, 47, 48, 49, 50, 51, 52, 53, 54, 55, 56, 57, 58, 59, 60, 61, 62, 63, 64, 65, 66, 67, 68, 69, 70, 71, 72, 73, 74, 75, 76, 77, 78, 79, 80, 81, 82, 83, 84, 85, 86, 87, 88, 89, 90, 91, 92, 93, 94, 95, 96, 97, 98, 99, 100, 101, 102, 103, 104, 105, 106, 110, 111, 112, 113, 114, 115, 116, 117, 118, 119, 120, 121] (by decide +kernel) (by decide +kernel)
set_option maxRecDepth 20000 in
theorem gX5_turns_X0_workOut : GoodIn wsX5_turns (wsV RX5 137 RX0 yX0_workOut wsX0_workOut) := goodIn_app (goodIn_of _ (by decide +kernel)) ggX5_turns_X0_workOut
theorem dX5_turns_0 : decode cX5_turns 0 = .ok (.iload_n 1, 1) := by decide +kernel
theorem dX5_turns_1 : decode cX5_turns 1 = .ok (.iconst 1, 1) := by decide +kernel
theorem dX5_turns_2 : decode cX5_turns 2 = .ok (.if_icmp .lt 9, 3) := by decide +kernel
theorem dX5_turns_5 : decode cX5_turns 5 = .ok (.iload_n 1, 1) := by decide +kernel
theorem dX5_turns_6 : decode cX5_turns 6 = .ok (.bipush 40, 2) := by decide +kernel
theorem dX5_turns_8 : decode cX5_turns 8 = .ok (.if_icmp .le 6, 3) := by decide +kernel
theorem dX5_turns_11 : decode cX5_turns 11 = .ok (.bipush (-2), 2) := by decide +kernel
theorem dX5_turns_13 : decode cX5_turns 13 = .ok (.ireturn, 1) := by decide +kernel
theorem dX5_turns_14 : decode cX5_turns 14 = .ok (.aload_n 0, 1) := by decide +kernel
theorem dX5_turns_15 : decode cX5_turns 15 = .ok (.getfield 24, 3) := by decide +kernel
theorem dX5_turns_18 : decode cX5_turns 18 = .ok (.invokevirtual 137, 3) := by decide +kernel
theorem dX5_turns_21 : decode cX5_turns 21 = .ok (.aload_n 0, 1) := by decide +kernel
theorem dX5_turns_22 : decode cX5_turns 22 = .ok (.getfield 24, 3) := by decide +kernel
theorem dX5_turns_25 : decode cX5_turns 25 = .ok (.getfield 143, 3) := by decide +kernel
theorem dX5_turns_28 : decode cX5_turns 28 = .ok (.iload_n 1, 1) := by decide +kernel
theorem dX5_turns_29 : decode cX5_turns 29 = .ok (.iaload, 1) := by decide +kernel
theorem dX5_turns_30 : decode cX5_turns 30 = .ok (.ireturn, 1) := by decide +kernel
set_option maxRecDepth 20000 in
theorem ggX5_spans_X0_workOut : GoodIn wsX5_spans wsX0_workOut := goodIn_r _ [8, 9, 10, 11, 12, 13, 14, 7, 15, 16, 17, 18, 19, 20, 21, 22, 23, 24, 25, 26, 27, 28, 29, 30, 31, 32, 33, 34, 35, 36, 37, 38, 39, 40, 41, 42, 43, 44, 45, 46, 47, 48, 49, 50, 51, 52, 53, 54, 55, 56, 57, 58, 59, 60, 61, 62, 63, 64, 65, 66, 67, 68, 69, 70, 71, 72, 73, 74, 75, 76, 77, 78, 79, 80, 81, 82, 83, 84, 85, 86, 87, 88, 89, 90, 91, 92, 93, 94, 95, 96, 97, 98, 99, 100, 101, 102, 103, 104, 105, 106, 107, 111, 112, 113, 114, 115, 116, 117, 118, 119, 120, 121, 122] (by decide +kernel) (by decide +kernel)
set_option maxRecDepth 20000 in
theorem gX5_spans_X0_workOut : GoodIn wsX5_spans (wsV RX5 137 RX0 yX0_workOut wsX0_workOut) := goodIn_app (goodIn_of _ (by decide +kernel)) ggX5_spans_X0_workOut
theorem dX5_spans_0 : decode cX5_spans 0 = .ok (.iload_n 1, 1) := by decide +kernel
theorem dX5_spans_1 : decode cX5_spans 1 = .ok (.ifCond .lt 9, 3) := by decide +kernel
theorem dX5_spans_4 : decode cX5_spans 4 = .ok (.iload_n 1, 1) := by decide +kernel
theorem dX5_spans_5 : decode cX5_spans 5 = .ok (.bipush 60, 2) := by decide +kernel
theorem dX5_spans_7 : decode cX5_spans 7 = .ok (.if_icmp .le 7, 3) := by decide +kernel
theorem dX5_spans_10 : decode cX5_spans 10 = .ok (.ldc2_w 93, 3) := by decide +kernel
theorem dX5_spans_13 : decode cX5_spans 13 = .ok (.lreturn, 1) := by decide +kernel
theorem dX5_spans_14 : decode cX5_spans 14 = .ok (.aload_n 0, 1) := by decide +kernel
theorem dX5_spans_15 : decode cX5_spans 15 = .ok (.getfield 24, 3) := by decide +kernel
theorem dX5_spans_18 : decode cX5_spans 18 = .ok (.invokevirtual 137, 3) := by decide +kernel
theorem dX5_spans_21 : decode cX5_spans 21 = .ok (.lconst 0, 1) := by decide +kernel
theorem dX5_spans_22 : decode cX5_spans 22 = .ok (.lstore_n 2, 1) := by decide +kernel
theorem dX5_spans_23 : decode cX5_spans 23 = .ok (.iconst 1, 1) := by decide +kernel
theorem dX5_spans_24 : decode cX5_spans 24 = .ok (.istore 4, 2) := by decide +kernel
theorem dX5_spans_26 : decode cX5_spans 26 = .ok (.iload 4, 2) := by decide +kernel
theorem dX5_spans_28 : decode cX5_spans 28 = .ok (.bipush 40, 2) := by decide +kernel
theorem dX5_spans_30 : decode cX5_spans 30 = .ok (.if_icmp .gt 44, 3) := by decide +kernel
theorem dX5_spans_33 : decode cX5_spans 33 = .ok (.aload_n 0, 1) := by decide +kernel
theorem dX5_spans_34 : decode cX5_spans 34 = .ok (.getfield 24, 3) := by decide +kernel
theorem dX5_spans_37 : decode cX5_spans 37 = .ok (.getfield 140, 3) := by decide +kernel
theorem dX5_spans_40 : decode cX5_spans 40 = .ok (.iload 4, 2) := by decide +kernel
theorem dX5_spans_42 : decode cX5_spans 42 = .ok (.iaload, 1) := by decide +kernel
theorem dX5_spans_43 : decode cX5_spans 43 = .ok (.iconst (-1), 1) := by decide +kernel
theorem dX5_spans_44 : decode cX5_spans 44 = .ok (.if_icmp .eq 24, 3) := by decide +kernel
theorem dX5_spans_47 : decode cX5_spans 47 = .ok (.aload_n 0, 1) := by decide +kernel
theorem dX5_spans_48 : decode cX5_spans 48 = .ok (.getfield 24, 3) := by decide +kernel
theorem dX5_spans_51 : decode cX5_spans 51 = .ok (.getfield 140, 3) := by decide +kernel
theorem dX5_spans_54 : decode cX5_spans 54 = .ok (.iload 4, 2) := by decide +kernel
theorem dX5_spans_56 : decode cX5_spans 56 = .ok (.iaload, 1) := by decide +kernel
theorem dX5_spans_57 : decode cX5_spans 57 = .ok (.iload_n 1, 1) := by decide +kernel
theorem dX5_spans_58 : decode cX5_spans 58 = .ok (.if_icmp .gt 10, 3) := by decide +kernel
theorem dX5_spans_61 : decode cX5_spans 61 = .ok (.lload_n 2, 1) := by decide +kernel
theorem dX5_spans_62 : decode cX5_spans 62 = .ok (.lconst 1, 1) := by decide +kernel
theorem dX5_spans_63 : decode cX5_spans 63 = .ok (.iload 4, 2) := by decide +kernel
theorem dX5_spans_65 : decode cX5_spans 65 = .ok (.lshl, 1) := by decide +kernel
theorem dX5_spans_66 : decode cX5_spans 66 = .ok (.lor, 1) := by decide +kernel
theorem dX5_spans_67 : decode cX5_spans 67 = .ok (.lstore_n 2, 1) := by decide +kernel
theorem dX5_spans_68 : decode cX5_spans 68 = .ok (.iinc 4 1, 3) := by decide +kernel
theorem dX5_spans_71 : decode cX5_spans 71 = .ok (.goto (-45), 3) := by decide +kernel
theorem dX5_spans_74 : decode cX5_spans 74 = .ok (.lload_n 2, 1) := by decide +kernel
theorem dX5_spans_75 : decode cX5_spans 75 = .ok (.lreturn, 1) := by decide +kernel
set_option maxRecDepth 20000 in
theorem ggX5_count_X1_heldTogether : GoodIn wsX5_count wsX1_heldTogether := goodIn_r _ [9, 10, 11, 26, 27, 28, 29, 30, 31, 32] (by decide +kernel) (by decide +kernel)
set_option maxRecDepth 20000 in
theorem gX5_count_X1_heldTogether : GoodIn wsX5_count (wsV RX5 146 RX1 yX1_heldTogether wsX1_heldTogether) := goodIn_app (goodIn_of _ (by decide +kernel)) ggX5_count_X1_heldTogether
set_option maxRecDepth 20000 in
theorem ggX5_count_X1_actsNow : GoodIn wsX5_count wsX1_actsNow := goodIn_r _ [15, 16, 17, 18, 8, 19, 10, 11, 20, 21, 22, 26, 27, 28, 29, 30, 31, 32] (by decide +kernel) (by decide +kernel)
set_option maxRecDepth 20000 in
theorem gX5_count_X1_actsNow : GoodIn wsX5_count (wsV RX5 149 RX1 yX1_actsNow wsX1_actsNow) := goodIn_app (goodIn_of _ (by decide +kernel)) ggX5_count_X1_actsNow
theorem dX5_count_0 : decode cX5_count 0 = .ok (.iload_n 1, 1) := by decide +kernel
theorem dX5_count_1 : decode cX5_count 1 = .ok (.tableswitch 63 0 3 #[31, 39, 47, 55], 31) := by decide +kernel
theorem dX5_count_32 : decode cX5_count 32 = .ok (.aload_n 0, 1) := by decide +kernel
theorem dX5_count_33 : decode cX5_count 33 = .ok (.getfield 20, 3) := by decide +kernel
theorem dX5_count_36 : decode cX5_count 36 = .ok (.getfield 28, 3) := by decide +kernel
theorem dX5_count_39 : decode cX5_count 39 = .ok (.ireturn, 1) := by decide +kernel
theorem dX5_count_40 : decode cX5_count 40 = .ok (.aload_n 0, 1) := by decide +kernel
theorem dX5_count_41 : decode cX5_count 41 = .ok (.getfield 24, 3) := by decide +kernel
theorem dX5_count_44 : decode cX5_count 44 = .ok (.getfield 133, 3) := by decide +kernel
theorem dX5_count_47 : decode cX5_count 47 = .ok (.ireturn, 1) := by decide +kernel
theorem dX5_count_48 : decode cX5_count 48 = .ok (.aload_n 0, 1) := by decide +kernel
theorem dX5_count_49 : decode cX5_count 49 = .ok (.getfield 20, 3) := by decide +kernel
theorem dX5_count_52 : decode cX5_count 52 = .ok (.invokevirtual 146, 3) := by decide +kernel
theorem dX5_count_55 : decode cX5_count 55 = .ok (.ireturn, 1) := by decide +kernel
theorem dX5_count_56 : decode cX5_count 56 = .ok (.aload_n 0, 1) := by decide +kernel
theorem dX5_count_57 : decode cX5_count 57 = .ok (.getfield 20, 3) := by decide +kernel
theorem dX5_count_60 : decode cX5_count 60 = .ok (.invokevirtual 149, 3) := by decide +kernel
theorem dX5_count_63 : decode cX5_count 63 = .ok (.ireturn, 1) := by decide +kernel
theorem dX5_count_64 : decode cX5_count 64 = .ok (.bipush (-2), 2) := by decide +kernel
theorem dX5_count_66 : decode cX5_count 66 = .ok (.ireturn, 1) := by decide +kernel
set_option maxRecDepth 20000 in
theorem ggX5_isAim_X1_has : GoodIn wsX5_isAim wsX1_has := goodIn_r _ [6, 7, 11, 12, 13, 14, 15, 16, 17] (by decide +kernel) (by decide +kernel)
set_option maxRecDepth 20000 in
theorem gX5_isAim_X1_has : GoodIn wsX5_isAim (wsV RX5 48 RX1 yX1_has wsX1_has) := goodIn_app (goodIn_of _ (by decide +kernel)) ggX5_isAim_X1_has
theorem dX5_isAim_0 : decode cX5_isAim 0 = .ok (.iload_n 1, 1) := by decide +kernel
theorem dX5_isAim_1 : decode cX5_isAim 1 = .ok (.iconst (-1), 1) := by decide +kernel
theorem dX5_isAim_2 : decode cX5_isAim 2 = .ok (.if_icmp .eq 14, 3) := by decide +kernel
theorem dX5_isAim_5 : decode cX5_isAim 5 = .ok (.aload_n 0, 1) := by decide +kernel
theorem dX5_isAim_6 : decode cX5_isAim 6 = .ok (.getfield 20, 3) := by decide +kernel
theorem dX5_isAim_9 : decode cX5_isAim 9 = .ok (.iload_n 1, 1) := by decide +kernel
theorem dX5_isAim_10 : decode cX5_isAim 10 = .ok (.invokevirtual 48, 3) := by decide +kernel
theorem dX5_isAim_13 : decode cX5_isAim 13 = .ok (.ifCond .eq 17, 3) := by decide +kernel
theorem dX5_isAim_16 : decode cX5_isAim 16 = .ok (.iload_n 2, 1) := by decide +kernel
theorem dX5_isAim_17 : decode cX5_isAim 17 = .ok (.ifCond .lt 13, 3) := by decide +kernel
theorem dX5_isAim_20 : decode cX5_isAim 20 = .ok (.iload_n 2, 1) := by decide +kernel
theorem dX5_isAim_21 : decode cX5_isAim 21 = .ok (.bipush 10, 2) := by decide +kernel
theorem dX5_isAim_23 : decode cX5_isAim 23 = .ok (.if_icmp .gt 7, 3) := by decide +kernel
theorem dX5_isAim_26 : decode cX5_isAim 26 = .ok (.iconst 1, 1) := by decide +kernel
theorem dX5_isAim_27 : decode cX5_isAim 27 = .ok (.goto 4, 3) := by decide +kernel
theorem dX5_isAim_30 : decode cX5_isAim 30 = .ok (.iconst 0, 1) := by decide +kernel
theorem dX5_isAim_31 : decode cX5_isAim 31 = .ok (.ireturn, 1) := by decide +kernel
theorem dX5_actsOfRoad_0 : decode cX5_actsOfRoad 0 = .ok (.iconst 0, 1) := by decide +kernel
theorem dX5_actsOfRoad_1 : decode cX5_actsOfRoad 1 = .ok (.istore_n 3, 1) := by decide +kernel
theorem dX5_actsOfRoad_2 : decode cX5_actsOfRoad 2 = .ok (.iconst 0, 1) := by decide +kernel
theorem dX5_actsOfRoad_3 : decode cX5_actsOfRoad 3 = .ok (.istore 4, 2) := by decide +kernel
theorem dX5_actsOfRoad_5 : decode cX5_actsOfRoad 5 = .ok (.iconst 1, 1) := by decide +kernel
theorem dX5_actsOfRoad_6 : decode cX5_actsOfRoad 6 = .ok (.istore 5, 2) := by decide +kernel
theorem dX5_actsOfRoad_8 : decode cX5_actsOfRoad 8 = .ok (.iload 5, 2) := by decide +kernel
theorem dX5_actsOfRoad_10 : decode cX5_actsOfRoad 10 = .ok (.bipush 121, 2) := by decide +kernel
theorem dX5_actsOfRoad_12 : decode cX5_actsOfRoad 12 = .ok (.if_icmp .gt 77, 3) := by decide +kernel
theorem dX5_actsOfRoad_15 : decode cX5_actsOfRoad 15 = .ok (.iload 4, 2) := by decide +kernel
theorem dX5_actsOfRoad_17 : decode cX5_actsOfRoad 17 = .ok (.iload_n 1, 1) := by decide +kernel
theorem dX5_actsOfRoad_18 : decode cX5_actsOfRoad 18 = .ok (.if_icmp .ne 9, 3) := by decide +kernel
theorem dX5_actsOfRoad_21 : decode cX5_actsOfRoad 21 = .ok (.iconst 0, 1) := by decide +kernel
theorem dX5_actsOfRoad_22 : decode cX5_actsOfRoad 22 = .ok (.istore 4, 2) := by decide +kernel
theorem dX5_actsOfRoad_24 : decode cX5_actsOfRoad 24 = .ok (.goto 34, 3) := by decide +kernel
theorem dX5_actsOfRoad_27 : decode cX5_actsOfRoad 27 = .ok (.iload_n 3, 1) := by decide +kernel
theorem dX5_actsOfRoad_28 : decode cX5_actsOfRoad 28 = .ok (.ifCond .ne 8, 3) := by decide +kernel
theorem dX5_actsOfRoad_31 : decode cX5_actsOfRoad 31 = .ok (.iload_n 0, 1) := by decide +kernel
theorem dX5_actsOfRoad_32 : decode cX5_actsOfRoad 32 = .ok (.istore_n 3, 1) := by decide +kernel
theorem dX5_actsOfRoad_33 : decode cX5_actsOfRoad 33 = .ok (.goto 25, 3) := by decide +kernel
theorem dX5_actsOfRoad_36 : decode cX5_actsOfRoad 36 = .ok (.iload_n 3, 1) := by decide +kernel
theorem dX5_actsOfRoad_37 : decode cX5_actsOfRoad 37 = .ok (.iload_n 1, 1) := by decide +kernel
theorem dX5_actsOfRoad_38 : decode cX5_actsOfRoad 38 = .ok (.iload 4, 2) := by decide +kernel
theorem dX5_actsOfRoad_40 : decode cX5_actsOfRoad 40 = .ok (.isub, 1) := by decide +kernel
theorem dX5_actsOfRoad_41 : decode cX5_actsOfRoad 41 = .ok (.invokestatic 152, 3) := by decide +kernel
theorem dX5_actsOfRoad_44 : decode cX5_actsOfRoad 44 = .ok (.istore 6, 2) := by decide +kernel
theorem dX5_actsOfRoad_46 : decode cX5_actsOfRoad 46 = .ok (.iload_n 3, 1) := by decide +kernel
theorem dX5_actsOfRoad_47 : decode cX5_actsOfRoad 47 = .ok (.iload 6, 2) := by decide +kernel
