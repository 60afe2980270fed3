theorem dX0_init_0 : decode cX0_init 0 = .ok (.aload_n 0, 1) := by decide +kernel
theorem dX0_init_1 : decode cX0_init 1 = .ok (.invokespecial 3, 3) := by decide +kernel
theorem dX0_init_4 : decode cX0_init 4 = .ok (.aload_n 0, 1) := by decide +kernel
theorem dX0_init_5 : decode cX0_init 5 = .ok (.iconst 0, 1) := by decide +kernel
theorem dX0_init_6 : decode cX0_init 6 = .ok (.putfield 9, 3) := by decide +kernel
theorem dX0_init_9 : decode cX0_init 9 = .ok (.aload_n 0, 1) := by decide +kernel
theorem dX0_init_10 : decode cX0_init 10 = .ok (.iconst 3, 1) := by decide +kernel
theorem dX0_init_11 : decode cX0_init 11 = .ok (.newarray .int, 2) := by decide +kernel
theorem dX0_init_13 : decode cX0_init 13 = .ok (.putfield 15, 3) := by decide +kernel
theorem dX0_init_16 : decode cX0_init 16 = .ok (.aload_n 0, 1) := by decide +kernel
theorem dX0_init_17 : decode cX0_init 17 = .ok (.bipush 41, 2) := by decide +kernel
theorem dX0_init_19 : decode cX0_init 19 = .ok (.newarray .int, 2) := by decide +kernel
theorem dX0_init_21 : decode cX0_init 21 = .ok (.putfield 19, 3) := by decide +kernel
theorem dX0_init_24 : decode cX0_init 24 = .ok (.aload_n 0, 1) := by decide +kernel
theorem dX0_init_25 : decode cX0_init 25 = .ok (.bipush 41, 2) := by decide +kernel
theorem dX0_init_27 : decode cX0_init 27 = .ok (.newarray .int, 2) := by decide +kernel
theorem dX0_init_29 : decode cX0_init 29 = .ok (.putfield 22, 3) := by decide +kernel
theorem dX0_init_32 : decode cX0_init 32 = .ok (.aload_n 0, 1) := by decide +kernel
theorem dX0_init_33 : decode cX0_init 33 = .ok (.iconst 0, 1) := by decide +kernel
theorem dX0_init_34 : decode cX0_init 34 = .ok (.putfield 25, 3) := by decide +kernel
theorem dX0_init_37 : decode cX0_init 37 = .ok (.aload_n 0, 1) := by decide +kernel
theorem dX0_init_38 : decode cX0_init 38 = .ok (.iconst 0, 1) := by decide +kernel
theorem dX0_init_39 : decode cX0_init 39 = .ok (.newarray .int, 2) := by decide +kernel
theorem dX0_init_41 : decode cX0_init 41 = .ok (.putfield 29, 3) := by decide +kernel
theorem dX0_init_44 : decode cX0_init 44 = .ok (.aload_n 0, 1) := by decide +kernel
theorem dX0_init_45 : decode cX0_init 45 = .ok (.iconst 0, 1) := by decide +kernel
theorem dX0_init_46 : decode cX0_init 46 = .ok (.newarray .boolean, 2) := by decide +kernel
theorem dX0_init_48 : decode cX0_init 48 = .ok (.putfield 32, 3) := by decide +kernel
theorem dX0_init_51 : decode cX0_init 51 = .ok (.aload_n 0, 1) := by decide +kernel
theorem dX0_init_52 : decode cX0_init 52 = .ok (.iconst 0, 1) := by decide +kernel
theorem dX0_init_53 : decode cX0_init 53 = .ok (.putfield 36, 3) := by decide +kernel
theorem dX0_init_56 : decode cX0_init 56 = .ok (.aload_n 0, 1) := by decide +kernel
theorem dX0_init_57 : decode cX0_init 57 = .ok (.iconst 0, 1) := by decide +kernel
theorem dX0_init_58 : decode cX0_init 58 = .ok (.newarray .int, 2) := by decide +kernel
theorem dX0_init_60 : decode cX0_init 60 = .ok (.putfield 39, 3) := by decide +kernel
theorem dX0_init_63 : decode cX0_init 63 = .ok (.aload_n 0, 1) := by decide +kernel
theorem dX0_init_64 : decode cX0_init 64 = .ok (.iconst 0, 1) := by decide +kernel
theorem dX0_init_65 : decode cX0_init 65 = .ok (.newarray .int, 2) := by decide +kernel
theorem dX0_init_67 : decode cX0_init 67 = .ok (.putfield 42, 3) := by decide +kernel
theorem dX0_init_70 : decode cX0_init 70 = .ok (.aload_n 0, 1) := by decide +kernel
theorem dX0_init_71 : decode cX0_init 71 = .ok (.iconst 0, 1) := by decide +kernel
theorem dX0_init_72 : decode cX0_init 72 = .ok (.newarray .int, 2) := by decide +kernel
theorem dX0_init_74 : decode cX0_init 74 = .ok (.putfield 45, 3) := by decide +kernel
theorem dX0_init_77 : decode cX0_init 77 = .ok (.aload_n 0, 1) := by decide +kernel
theorem dX0_init_78 : decode cX0_init 78 = .ok (.bipush 13, 2) := by decide +kernel
theorem dX0_init_80 : decode cX0_init 80 = .ok (.iconst 0, 1) := by decide +kernel
theorem dX0_init_81 : decode cX0_init 81 = .ok (.multianewarray 48 2, 4) := by decide +kernel
theorem dX0_init_85 : decode cX0_init 85 = .ok (.putfield 50, 3) := by decide +kernel
theorem dX0_init_88 : decode cX0_init 88 = .ok (.return_, 1) := by decide +kernel
theorem dX0_add_0 : decode cX0_add 0 = .ok (.aload_n 0, 1) := by decide +kernel
theorem dX0_add_1 : decode cX0_add 1 = .ok (.getfield 9, 3) := by decide +kernel
theorem dX0_add_4 : decode cX0_add 4 = .ok (.iconst 3, 1) := by decide +kernel
theorem dX0_add_5 : decode cX0_add 5 = .ok (.if_icmp .lt 6, 3) := by decide +kernel
theorem dX0_add_8 : decode cX0_add 8 = .ok (.bipush (-4), 2) := by decide +kernel
theorem dX0_add_10 : decode cX0_add 10 = .ok (.ireturn, 1) := by decide +kernel
theorem dX0_add_11 : decode cX0_add 11 = .ok (.aload_n 0, 1) := by decide +kernel
theorem dX0_add_12 : decode cX0_add 12 = .ok (.getfield 15, 3) := by decide +kernel
theorem dX0_add_15 : decode cX0_add 15 = .ok (.aload_n 0, 1) := by decide +kernel
theorem dX0_add_16 : decode cX0_add 16 = .ok (.getfield 9, 3) := by decide +kernel
theorem dX0_add_19 : decode cX0_add 19 = .ok (.iload_n 1, 1) := by decide +kernel
theorem dX0_add_20 : decode cX0_add 20 = .ok (.iastore, 1) := by decide +kernel
theorem dX0_add_21 : decode cX0_add 21 = .ok (.aload_n 0, 1) := by decide +kernel
theorem dX0_add_22 : decode cX0_add 22 = .ok (.dup, 1) := by decide +kernel
theorem dX0_add_23 : decode cX0_add 23 = .ok (.getfield 9, 3) := by decide +kernel
theorem dX0_add_26 : decode cX0_add 26 = .ok (.iconst 1, 1) := by decide +kernel
theorem dX0_add_27 : decode cX0_add 27 = .ok (.iadd, 1) := by decide +kernel
theorem dX0_add_28 : decode cX0_add 28 = .ok (.putfield 9, 3) := by decide +kernel
theorem dX0_add_31 : decode cX0_add 31 = .ok (.aload_n 0, 1) := by decide +kernel
theorem dX0_add_32 : decode cX0_add 32 = .ok (.iconst 0, 1) := by decide +kernel
theorem dX0_add_33 : decode cX0_add 33 = .ok (.putfield 25, 3) := by decide +kernel
theorem dX0_add_36 : decode cX0_add 36 = .ok (.aload_n 0, 1) := by decide +kernel
theorem dX0_add_37 : decode cX0_add 37 = .ok (.getfield 9, 3) := by decide +kernel
theorem dX0_add_40 : decode cX0_add 40 = .ok (.iconst 1, 1) := by decide +kernel
theorem dX0_add_41 : decode cX0_add 41 = .ok (.isub, 1) := by decide +kernel
theorem dX0_add_42 : decode cX0_add 42 = .ok (.ireturn, 1) := by decide +kernel
theorem dX0_removeAll_0 : decode cX0_removeAll 0 = .ok (.aload_n 0, 1) := by decide +kernel
theorem dX0_removeAll_1 : decode cX0_removeAll 1 = .ok (.getfield 9, 3) := by decide +kernel
theorem dX0_removeAll_4 : decode cX0_removeAll 4 = .ok (.istore_n 1, 1) := by decide +kernel
theorem dX0_removeAll_5 : decode cX0_removeAll 5 = .ok (.aload_n 0, 1) := by decide +kernel
theorem dX0_removeAll_6 : decode cX0_removeAll 6 = .ok (.iconst 0, 1) := by decide +kernel
theorem dX0_removeAll_7 : decode cX0_removeAll 7 = .ok (.putfield 9, 3) := by decide +kernel
theorem dX0_removeAll_10 : decode cX0_removeAll 10 = .ok (.aload_n 0, 1) := by decide +kernel
theorem dX0_removeAll_11 : decode cX0_removeAll 11 = .ok (.iconst 0, 1) := by decide +kernel
theorem dX0_removeAll_12 : decode cX0_removeAll 12 = .ok (.putfield 25, 3) := by decide +kernel
theorem dX0_removeAll_15 : decode cX0_removeAll 15 = .ok (.iload_n 1, 1) := by decide +kernel
theorem dX0_removeAll_16 : decode cX0_removeAll 16 = .ok (.ireturn, 1) := by decide +kernel
set_option maxRecDepth 20000 in
theorem ggX0_workOut_X0_makeRoom : GoodIn wsX0_workOut wsX0_makeRoom := goodIn_r _ [8, 9, 10, 11, 12, 13, 14, 15, 16, 17, 18, 78, 79, 80, 81, 82, 83, 84, 85, 86, 87, 88, 89] (by decide +kernel) (by decide +kernel)
set_option maxRecDepth 20000 in
theorem gX0_workOut_X0_makeRoom : GoodIn wsX0_workOut (wsV RX0 56 RX0 yX0_makeRoom wsX0_makeRoom) := goodIn_app (goodIn_of _ (by decide +kernel)) ggX0_workOut_X0_makeRoom
set_option maxRecDepth 20000 in
theorem ggX0_workOut_X0_listEvents : GoodIn wsX0_workOut wsX0_listEvents := goodIn_r _ [22, 18, 9, 3, 13, 23, 24, 25, 7, 26, 12, 27, 28, 29, 30, 31, 32, 33, 34, 35, 36, 37, 38, 39, 40, 41, 78, 79, 80, 81, 82, 83, 84, 85, 86, 87, 88, 89] (by decide +kernel) (by decide +kernel)
set_option maxRecDepth 20000 in
theorem gX0_workOut_X0_listEvents : GoodIn wsX0_workOut (wsV RX0 60 RX0 yX0_listEvents wsX0_listEvents) := goodIn_app (goodIn_of _ (by decide +kernel)) ggX0_workOut_X0_listEvents
set_option maxRecDepth 20000 in
theorem ggX0_workOut_X0_goForth : GoodIn wsX0_workOut wsX0_goForth := goodIn_r _ [45, 14, 31, 15, 18, 9, 46, 47, 48, 49, 50, 51, 52, 7, 53, 3, 13, 54, 55, 56, 57, 58, 59, 60, 78, 79, 80, 81, 82, 83, 84, 85, 86, 87, 88, 89] (by decide +kernel) (by decide +kernel)
set_option maxRecDepth 20000 in
theorem gX0_workOut_X0_goForth : GoodIn wsX0_workOut (wsV RX0 63 RX0 yX0_goForth wsX0_goForth) := goodIn_app (goodIn_of _ (by decide +kernel)) ggX0_workOut_X0_goForth
set_option maxRecDepth 20000 in
theorem ggX0_workOut_X0_lookAhead : GoodIn wsX0_workOut wsX0_lookAhead := goodIn_r _ [64, 18, 9, 17, 65, 66, 67, 7, 68, 31, 3, 13, 69, 70, 34, 71, 54, 55, 56, 57, 58, 59, 60, 78, 79, 80, 81, 82, 83, 84, 85, 86, 87, 88, 89] (by decide +kernel) (by decide +kernel)
set_option maxRecDepth 20000 in
theorem gX0_workOut_X0_lookAhead : GoodIn wsX0_workOut (wsV RX0 66 RX0 yX0_lookAhead wsX0_lookAhead) := goodIn_app (goodIn_of _ (by decide +kernel)) ggX0_workOut_X0_lookAhead
set_option maxRecDepth 20000 in
theorem ggX0_workOut_X0_answer : GoodIn wsX0_workOut wsX0_answer := goodIn_r _ [75, 31, 18, 9, 17, 14, 15, 69, 70, 34, 71, 76, 77, 78, 79, 80, 81, 82, 83, 84, 85, 86, 87, 88, 89] (by decide +kernel) (by decide +kernel)
set_option maxRecDepth 20000 in
theorem gX0_workOut_X0_answer : GoodIn wsX0_workOut (wsV RX0 69 RX0 yX0_answer wsX0_answer) := goodIn_app (goodIn_of _ (by decide +kernel)) ggX0_workOut_X0_answer
theorem dX0_workOut_0 : decode cX0_workOut 0 = .ok (.aload_n 0, 1) := by decide +kernel
theorem dX0_workOut_1 : decode cX0_workOut 1 = .ok (.getfield 25, 3) := by decide +kernel
theorem dX0_workOut_4 : decode cX0_workOut 4 = .ok (.ifCond .eq 4, 3) := by decide +kernel
theorem dX0_workOut_7 : decode cX0_workOut 7 = .ok (.return_, 1) := by decide +kernel
theorem dX0_workOut_8 : decode cX0_workOut 8 = .ok (.aload_n 0, 1) := by decide +kernel
theorem dX0_workOut_9 : decode cX0_workOut 9 = .ok (.getstatic 53, 3) := by decide +kernel
theorem dX0_workOut_12 : decode cX0_workOut 12 = .ok (.aload_n 0, 1) := by decide +kernel
theorem dX0_workOut_13 : decode cX0_workOut 13 = .ok (.getfield 9, 3) := by decide +kernel
theorem dX0_workOut_16 : decode cX0_workOut 16 = .ok (.iaload, 1) := by decide +kernel
theorem dX0_workOut_17 : decode cX0_workOut 17 = .ok (.invokevirtual 56, 3) := by decide +kernel
theorem dX0_workOut_20 : decode cX0_workOut 20 = .ok (.aload_n 0, 1) := by decide +kernel
theorem dX0_workOut_21 : decode cX0_workOut 21 = .ok (.invokevirtual 60, 3) := by decide +kernel
theorem dX0_workOut_24 : decode cX0_workOut 24 = .ok (.aload_n 0, 1) := by decide +kernel
theorem dX0_workOut_25 : decode cX0_workOut 25 = .ok (.invokevirtual 63, 3) := by decide +kernel
theorem dX0_workOut_28 : decode cX0_workOut 28 = .ok (.iconst 0, 1) := by decide +kernel
theorem dX0_workOut_29 : decode cX0_workOut 29 = .ok (.istore_n 1, 1) := by decide +kernel
theorem dX0_workOut_30 : decode cX0_workOut 30 = .ok (.iload_n 1, 1) := by decide +kernel
theorem dX0_workOut_31 : decode cX0_workOut 31 = .ok (.bipush 40, 2) := by decide +kernel
theorem dX0_workOut_33 : decode cX0_workOut 33 = .ok (.if_icmp .gt 19, 3) := by decide +kernel
theorem dX0_workOut_36 : decode cX0_workOut 36 = .ok (.aload_n 0, 1) := by decide +kernel
theorem dX0_workOut_37 : decode cX0_workOut 37 = .ok (.iload_n 1, 1) := by decide +kernel
theorem dX0_workOut_38 : decode cX0_workOut 38 = .ok (.invokevirtual 66, 3) := by decide +kernel
theorem dX0_workOut_41 : decode cX0_workOut 41 = .ok (.aload_n 0, 1) := by decide +kernel
theorem dX0_workOut_42 : decode cX0_workOut 42 = .ok (.iload_n 1, 1) := by decide +kernel
theorem dX0_workOut_43 : decode cX0_workOut 43 = .ok (.invokevirtual 69, 3) := by decide +kernel
theorem dX0_workOut_46 : decode cX0_workOut 46 = .ok (.iinc 1 1, 3) := by decide +kernel
theorem dX0_workOut_49 : decode cX0_workOut 49 = .ok (.goto (-19), 3) := by decide +kernel
theorem dX0_workOut_52 : decode cX0_workOut 52 = .ok (.aload_n 0, 1) := by decide +kernel
theorem dX0_workOut_53 : decode cX0_workOut 53 = .ok (.iconst 1, 1) := by decide +kernel
theorem dX0_workOut_54 : decode cX0_workOut 54 = .ok (.putfield 25, 3) := by decide +kernel
theorem dX0_workOut_57 : decode cX0_workOut 57 = .ok (.return_, 1) := by decide +kernel
theorem dX0_makeRoom_0 : decode cX0_makeRoom 0 = .ok (.aload_n 0, 1) := by decide +kernel
theorem dX0_makeRoom_1 : decode cX0_makeRoom 1 = .ok (.getfield 29, 3) := by decide +kernel
theorem dX0_makeRoom_4 : decode cX0_makeRoom 4 = .ok (.arraylength, 1) := by decide +kernel
theorem dX0_makeRoom_5 : decode cX0_makeRoom 5 = .ok (.iload_n 1, 1) := by decide +kernel
theorem dX0_makeRoom_6 : decode cX0_makeRoom 6 = .ok (.if_icmp .ge 52, 3) := by decide +kernel
theorem dX0_makeRoom_9 : decode cX0_makeRoom 9 = .ok (.aload_n 0, 1) := by decide +kernel
theorem dX0_makeRoom_10 : decode cX0_makeRoom 10 = .ok (.iload_n 1, 1) := by decide +kernel
theorem dX0_makeRoom_11 : decode cX0_makeRoom 11 = .ok (.newarray .int, 2) := by decide +kernel
theorem dX0_makeRoom_13 : decode cX0_makeRoom 13 = .ok (.putfield 29, 3) := by decide +kernel
theorem dX0_makeRoom_16 : decode cX0_makeRoom 16 = .ok (.aload_n 0, 1) := by decide +kernel
theorem dX0_makeRoom_17 : decode cX0_makeRoom 17 = .ok (.iload_n 1, 1) := by decide +kernel
theorem dX0_makeRoom_18 : decode cX0_makeRoom 18 = .ok (.newarray .boolean, 2) := by decide +kernel
theorem dX0_makeRoom_20 : decode cX0_makeRoom 20 = .ok (.putfield 32, 3) := by decide +kernel
theorem dX0_makeRoom_23 : decode cX0_makeRoom 23 = .ok (.aload_n 0, 1) := by decide +kernel
theorem dX0_makeRoom_24 : decode cX0_makeRoom 24 = .ok (.iload_n 1, 1) := by decide +kernel
theorem dX0_makeRoom_25 : decode cX0_makeRoom 25 = .ok (.bipush 8, 2) := by decide +kernel
theorem dX0_makeRoom_27 : decode cX0_makeRoom 27 = .ok (.imul, 1) := by decide +kernel
theorem dX0_makeRoom_28 : decode cX0_makeRoom 28 = .ok (.newarray .int, 2) := by decide +kernel
theorem dX0_makeRoom_30 : decode cX0_makeRoom 30 = .ok (.putfield 39, 3) := by decide +kernel
theorem dX0_makeRoom_33 : decode cX0_makeRoom 33 = .ok (.aload_n 0, 1) := by decide +kernel
theorem dX0_makeRoom_34 : decode cX0_makeRoom 34 = .ok (.iload_n 1, 1) := by decide +kernel
theorem dX0_makeRoom_35 : decode cX0_makeRoom 35 = .ok (.newarray .int, 2) := by decide +kernel
theorem dX0_makeRoom_37 : decode cX0_makeRoom 37 = .ok (.putfield 42, 3) := by decide +kernel
theorem dX0_makeRoom_40 : decode cX0_makeRoom 40 = .ok (.aload_n 0, 1) := by decide +kernel
theorem dX0_makeRoom_41 : decode cX0_makeRoom 41 = .ok (.iload_n 1, 1) := by decide +kernel
theorem dX0_makeRoom_42 : decode cX0_makeRoom 42 = .ok (.newarray .int, 2) := by decide +kernel
theorem dX0_makeRoom_44 : decode cX0_makeRoom 44 = .ok (.putfield 45, 3) := by decide +kernel
theorem dX0_makeRoom_47 : decode cX0_makeRoom 47 = .ok (.aload_n 0, 1) := by decide +kernel
theorem dX0_makeRoom_48 : decode cX0_makeRoom 48 = .ok (.bipush 13, 2) := by decide +kernel
theorem dX0_makeRoom_50 : decode cX0_makeRoom 50 = .ok (.iload_n 1, 1) := by decide +kernel
theorem dX0_makeRoom_51 : decode cX0_makeRoom 51 = .ok (.multianewarray 48 2, 4) := by decide +kernel
theorem dX0_makeRoom_55 : decode cX0_makeRoom 55 = .ok (.putfield 50, 3) := by decide +kernel
theorem dX0_makeRoom_58 : decode cX0_makeRoom 58 = .ok (.iconst 0, 1) := by decide +kernel
theorem dX0_makeRoom_59 : decode cX0_makeRoom 59 = .ok (.istore_n 2, 1) := by decide +kernel
theorem dX0_makeRoom_60 : decode cX0_makeRoom 60 = .ok (.iload_n 2, 1) := by decide +kernel
theorem dX0_makeRoom_61 : decode cX0_makeRoom 61 = .ok (.aload_n 0, 1) := by decide +kernel
theorem dX0_makeRoom_62 : decode cX0_makeRoom 62 = .ok (.getfield 32, 3) := by decide +kernel
theorem dX0_makeRoom_65 : decode cX0_makeRoom 65 = .ok (.arraylength, 1) := by decide +kernel
theorem dX0_makeRoom_66 : decode cX0_makeRoom 66 = .ok (.if_icmp .ge 16, 3) := by decide +kernel
theorem dX0_makeRoom_69 : decode cX0_makeRoom 69 = .ok (.aload_n 0, 1) := by decide +kernel
theorem dX0_makeRoom_70 : decode cX0_makeRoom 70 = .ok (.getfield 32, 3) := by decide +kernel
theorem dX0_makeRoom_73 : decode cX0_makeRoom 73 = .ok (.iload_n 2, 1) := by decide +kernel
theorem dX0_makeRoom_74 : decode cX0_makeRoom 74 = .ok (.iconst 0, 1) := by decide +kernel
theorem dX0_makeRoom_75 : decode cX0_makeRoom 75 = .ok (.bastore, 1) := by decide +kernel
theorem dX0_makeRoom_76 : decode cX0_makeRoom 76 = .ok (.iinc 2 1, 3) := by decide +kernel
theorem dX0_makeRoom_79 : decode cX0_makeRoom 79 = .ok (.goto (-19), 3) := by decide +kernel
theorem dX0_makeRoom_82 : decode cX0_makeRoom 82 = .ok (.aload_n 0, 1) := by decide +kernel
theorem dX0_makeRoom_83 : decode cX0_makeRoom 83 = .ok (.iconst 0, 1) := by decide +kernel
theorem dX0_makeRoom_84 : decode cX0_makeRoom 84 = .ok (.putfield 36, 3) := by decide +kernel
theorem dX0_makeRoom_87 : decode cX0_makeRoom 87 = .ok (.return_, 1) := by decide +kernel
set_option maxRecDepth 20000 in
theorem ggX0_listEvents_X0_list : GoodIn wsX0_listEvents wsX0_list := goodIn_r _ [9, 10, 1, 2, 26, 27, 28, 29, 30, 31, 32, 33, 34, 35, 36, 37] (by decide +kernel) (by decide +kernel)
set_option maxRecDepth 20000 in
theorem gX0_listEvents_X0_list : GoodIn wsX0_listEvents (wsV RX0 72 RX0 yX0_list wsX0_list) := goodIn_app (goodIn_of _ (by decide +kernel)) ggX0_listEvents_X0_list
set_option maxRecDepth 20000 in
theorem ggX0_listEvents_X0_leapFrom : GoodIn wsX0_listEvents wsX0_leapFrom := goodIn_r _ [14, 15, 3, 16, 17, 18, 19, 20, 21, 22, 23, 8, 24, 25, 26, 27, 28, 29, 30, 31, 32, 33, 34, 35, 36, 37] (by decide +kernel) (by decide +kernel)
set_option maxRecDepth 20000 in
theorem gX0_listEvents_X0_leapFrom : GoodIn wsX0_listEvents (wsV RX0 75 RX0 yX0_leapFrom wsX0_leapFrom) := goodIn_app (goodIn_of _ (by decide +kernel)) ggX0_listEvents_X0_leapFrom
theorem dX0_listEvents_0 : decode cX0_listEvents 0 = .ok (.aload_n 0, 1) := by decide +kernel
theorem dX0_listEvents_1 : decode cX0_listEvents 1 = .ok (.iconst 0, 1) := by decide +kernel
theorem dX0_listEvents_2 : decode cX0_listEvents 2 = .ok (.invokevirtual 72, 3) := by decide +kernel
theorem dX0_listEvents_5 : decode cX0_listEvents 5 = .ok (.iconst 0, 1) := by decide +kernel
theorem dX0_listEvents_6 : decode cX0_listEvents 6 = .ok (.istore_n 1, 1) := by decide +kernel
theorem dX0_listEvents_7 : decode cX0_listEvents 7 = .ok (.iload_n 1, 1) := by decide +kernel
theorem dX0_listEvents_8 : decode cX0_listEvents 8 = .ok (.aload_n 0, 1) := by decide +kernel
theorem dX0_listEvents_9 : decode cX0_listEvents 9 = .ok (.getfield 36, 3) := by decide +kernel
theorem dX0_listEvents_12 : decode cX0_listEvents 12 = .ok (.if_icmp .ge 79, 3) := by decide +kernel
theorem dX0_listEvents_15 : decode cX0_listEvents 15 = .ok (.iload_n 1, 1) := by decide +kernel
theorem dX0_listEvents_16 : decode cX0_listEvents 16 = .ok (.aload_n 0, 1) := by decide +kernel
theorem dX0_listEvents_17 : decode cX0_listEvents 17 = .ok (.getfield 29, 3) := by decide +kernel
theorem dX0_listEvents_20 : decode cX0_listEvents 20 = .ok (.arraylength, 1) := by decide +kernel
theorem dX0_listEvents_21 : decode cX0_listEvents 21 = .ok (.if_icmp .ge 70, 3) := by decide +kernel
theorem dX0_listEvents_24 : decode cX0_listEvents 24 = .ok (.aload_n 0, 1) := by decide +kernel
theorem dX0_listEvents_25 : decode cX0_listEvents 25 = .ok (.getfield 29, 3) := by decide +kernel
theorem dX0_listEvents_28 : decode cX0_listEvents 28 = .ok (.iload_n 1, 1) := by decide +kernel
theorem dX0_listEvents_29 : decode cX0_listEvents 29 = .ok (.iaload, 1) := by decide +kernel
theorem dX0_listEvents_30 : decode cX0_listEvents 30 = .ok (.istore_n 2, 1) := by decide +kernel
theorem dX0_listEvents_31 : decode cX0_listEvents 31 = .ok (.iconst 0, 1) := by decide +kernel
theorem dX0_listEvents_32 : decode cX0_listEvents 32 = .ok (.istore_n 3, 1) := by decide +kernel
theorem dX0_listEvents_33 : decode cX0_listEvents 33 = .ok (.iload_n 3, 1) := by decide +kernel
theorem dX0_listEvents_34 : decode cX0_listEvents 34 = .ok (.iconst 1, 1) := by decide +kernel
theorem dX0_listEvents_35 : decode cX0_listEvents 35 = .ok (.aload_n 0, 1) := by decide +kernel
theorem dX0_listEvents_36 : decode cX0_listEvents 36 = .ok (.getfield 9, 3) := by decide +kernel
theorem dX0_listEvents_39 : decode cX0_listEvents 39 = .ok (.ishl, 1) := by decide +kernel
theorem dX0_listEvents_40 : decode cX0_listEvents 40 = .ok (.if_icmp .ge 45, 3) := by decide +kernel
theorem dX0_listEvents_43 : decode cX0_listEvents 43 = .ok (.aload_n 0, 1) := by decide +kernel
theorem dX0_listEvents_44 : decode cX0_listEvents 44 = .ok (.iload_n 2, 1) := by decide +kernel
theorem dX0_listEvents_45 : decode cX0_listEvents 45 = .ok (.iload_n 3, 1) := by decide +kernel
theorem dX0_listEvents_46 : decode cX0_listEvents 46 = .ok (.invokevirtual 75, 3) := by decide +kernel
theorem dX0_listEvents_49 : decode cX0_listEvents 49 = .ok (.istore 4, 2) := by decide +kernel
theorem dX0_listEvents_51 : decode cX0_listEvents 51 = .ok (.aload_n 0, 1) := by decide +kernel
theorem dX0_listEvents_52 : decode cX0_listEvents 52 = .ok (.getfield 39, 3) := by decide +kernel
theorem dX0_listEvents_55 : decode cX0_listEvents 55 = .ok (.iload_n 2, 1) := by decide +kernel
theorem dX0_listEvents_56 : decode cX0_listEvents 56 = .ok (.bipush 8, 2) := by decide +kernel
theorem dX0_listEvents_58 : decode cX0_listEvents 58 = .ok (.imul, 1) := by decide +kernel
theorem dX0_listEvents_59 : decode cX0_listEvents 59 = .ok (.iload_n 3, 1) := by decide +kernel
theorem dX0_listEvents_60 : decode cX0_listEvents 60 = .ok (.iadd, 1) := by decide +kernel
theorem dX0_listEvents_61 : decode cX0_listEvents 61 = .ok (.iload 4, 2) := by decide +kernel
theorem dX0_listEvents_63 : decode cX0_listEvents 63 = .ok (.iastore, 1) := by decide +kernel
theorem dX0_listEvents_64 : decode cX0_listEvents 64 = .ok (.iload 4, 2) := by decide +kernel
theorem dX0_listEvents_66 : decode cX0_listEvents 66 = .ok (.iconst (-1), 1) := by decide +kernel
theorem dX0_listEvents_67 : decode cX0_listEvents 67 = .ok (.if_icmp .eq 12, 3) := by decide +kernel
theorem dX0_listEvents_70 : decode cX0_listEvents 70 = .ok (.aload_n 0, 1) := by decide +kernel
theorem dX0_listEvents_71 : decode cX0_listEvents 71 = .ok (.iload 4, 2) := by decide +kernel
theorem dX0_listEvents_73 : decode cX0_listEvents 73 = .ok (.bipush 16, 2) := by decide +kernel
theorem dX0_listEvents_75 : decode cX0_listEvents 75 = .ok (.idiv, 1) := by decide +kernel
theorem dX0_listEvents_76 : decode cX0_listEvents 76 = .ok (.invokevirtual 72, 3) := by decide +kernel
theorem dX0_listEvents_79 : decode cX0_listEvents 79 = .ok (.iinc 3 1, 3) := by decide +kernel
theorem dX0_listEvents_82 : decode cX0_listEvents 82 = .ok (.goto (-49), 3) := by decide +kernel
theorem dX0_listEvents_85 : decode cX0_listEvents 85 = .ok (.iinc 1 1, 3) := by decide +kernel
theorem dX0_listEvents_88 : decode cX0_listEvents 88 = .ok (.goto (-81), 3) := by decide +kernel
theorem dX0_listEvents_91 : decode cX0_listEvents 91 = .ok (.return_, 1) := by decide +kernel
theorem dX0_list_0 : decode cX0_list 0 = .ok (.iload_n 1, 1) := by decide +kernel
theorem dX0_list_1 : decode cX0_list 1 = .ok (.ifCond .lt 60, 3) := by decide +kernel
theorem dX0_list_4 : decode cX0_list 4 = .ok (.iload_n 1, 1) := by decide +kernel
theorem dX0_list_5 : decode cX0_list 5 = .ok (.aload_n 0, 1) := by decide +kernel
theorem dX0_list_6 : decode cX0_list 6 = .ok (.getfield 32, 3) := by decide +kernel
theorem dX0_list_9 : decode cX0_list 9 = .ok (.arraylength, 1) := by decide +kernel
theorem dX0_list_10 : decode cX0_list 10 = .ok (.if_icmp .ge 51, 3) := by decide +kernel
theorem dX0_list_13 : decode cX0_list 13 = .ok (.aload_n 0, 1) := by decide +kernel
theorem dX0_list_14 : decode cX0_list 14 = .ok (.getfield 32, 3) := by decide +kernel
theorem dX0_list_17 : decode cX0_list 17 = .ok (.iload_n 1, 1) := by decide +kernel
theorem dX0_list_18 : decode cX0_list 18 = .ok (.baload, 1) := by decide +kernel
theorem dX0_list_19 : decode cX0_list 19 = .ok (.ifCond .ne 42, 3) := by decide +kernel
theorem dX0_list_22 : decode cX0_list 22 = .ok (.aload_n 0, 1) := by decide +kernel
theorem dX0_list_23 : decode cX0_list 23 = .ok (.getfield 36, 3) := by decide +kernel
theorem dX0_list_26 : decode cX0_list 26 = .ok (.aload_n 0, 1) := by decide +kernel
theorem dX0_list_27 : decode cX0_list 27 = .ok (.getfield 29, 3) := by decide +kernel
theorem dX0_list_30 : decode cX0_list 30 = .ok (.arraylength, 1) := by decide +kernel
theorem dX0_list_31 : decode cX0_list 31 = .ok (.if_icmp .ge 30, 3) := by decide +kernel
theorem dX0_list_34 : decode cX0_list 34 = .ok (.aload_n 0, 1) := by decide +kernel
theorem dX0_list_35 : decode cX0_list 35 = .ok (.getfield 32, 3) := by decide +kernel
theorem dX0_list_38 : decode cX0_list 38 = .ok (.iload_n 1, 1) := by decide +kernel
theorem dX0_list_39 : decode cX0_list 39 = .ok (.iconst 1, 1) := by decide +kernel
theorem dX0_list_40 : decode cX0_list 40 = .ok (.bastore, 1) := by decide +kernel
theorem dX0_list_41 : decode cX0_list 41 = .ok (.aload_n 0, 1) := by decide +kernel
theorem dX0_list_42 : decode cX0_list 42 = .ok (.getfield 29, 3) := by decide +kernel
theorem dX0_list_45 : decode cX0_list 45 = .ok (.aload_n 0, 1) := by decide +kernel
theorem dX0_list_46 : decode cX0_list 46 = .ok (.getfield 36, 3) := by decide +kernel
theorem dX0_list_49 : decode cX0_list 49 = .ok (.iload_n 1, 1) := by decide +kernel
theorem dX0_list_50 : decode cX0_list 50 = .ok (.iastore, 1) := by decide +kernel
theorem dX0_list_51 : decode cX0_list 51 = .ok (.aload_n 0, 1) := by decide +kernel
theorem dX0_list_52 : decode cX0_list 52 = .ok (.dup, 1) := by decide +kernel
theorem dX0_list_53 : decode cX0_list 53 = .ok (.getfield 36, 3) := by decide +kernel
theorem dX0_list_56 : decode cX0_list 56 = .ok (.iconst 1, 1) := by decide +kernel
theorem dX0_list_57 : decode cX0_list 57 = .ok (.iadd, 1) := by decide +kernel
theorem dX0_list_58 : decode cX0_list 58 = .ok (.putfield 36, 3) := by decide +kernel
theorem dX0_list_61 : decode cX0_list 61 = .ok (.return_, 1) := by decide +kernel
set_option maxRecDepth 20000 in
theorem ggX0_leapFrom_X0_sandAbove : GoodIn wsX0_leapFrom wsX0_sandAbove := goodIn_r _ [12, 13, 14, 15, 16, 17, 18, 19, 20, 21, 22, 23, 24, 25] (by decide +kernel) (by decide +kernel)
set_option maxRecDepth 20000 in
theorem gX0_leapFrom_X0_sandAbove : GoodIn wsX0_leapFrom (wsV RX0 80 RX0 yX0_sandAbove wsX0_sandAbove) := goodIn_app (goodIn_of _ (by decide +kernel)) ggX0_leapFrom_X0_sandAbove
theorem dX0_leapFrom_0 : decode cX0_leapFrom 0 = .ok (.ldc 79, 2) := by decide +kernel
theorem dX0_leapFrom_2 : decode cX0_leapFrom 2 = .ok (.istore_n 3, 1) := by decide +kernel
theorem dX0_leapFrom_3 : decode cX0_leapFrom 3 = .ok (.iconst 0, 1) := by decide +kernel
theorem dX0_leapFrom_4 : decode cX0_leapFrom 4 = .ok (.istore 4, 2) := by decide +kernel
theorem dX0_leapFrom_6 : decode cX0_leapFrom 6 = .ok (.iload 4, 2) := by decide +kernel
theorem dX0_leapFrom_8 : decode cX0_leapFrom 8 = .ok (.aload_n 0, 1) := by decide +kernel
theorem dX0_leapFrom_9 : decode cX0_leapFrom 9 = .ok (.getfield 9, 3) := by decide +kernel
theorem dX0_leapFrom_12 : decode cX0_leapFrom 12 = .ok (.if_icmp .ge 39, 3) := by decide +kernel
theorem dX0_leapFrom_15 : decode cX0_leapFrom 15 = .ok (.iload 4, 2) := by decide +kernel
theorem dX0_leapFrom_17 : decode cX0_leapFrom 17 = .ok (.iconst 3, 1) := by decide +kernel
theorem dX0_leapFrom_18 : decode cX0_leapFrom 18 = .ok (.if_icmp .ge 33, 3) := by decide +kernel
theorem dX0_leapFrom_21 : decode cX0_leapFrom 21 = .ok (.aload_n 0, 1) := by decide +kernel
theorem dX0_leapFrom_22 : decode cX0_leapFrom 22 = .ok (.iload_n 1, 1) := by decide +kernel
theorem dX0_leapFrom_23 : decode cX0_leapFrom 23 = .ok (.iload_n 2, 1) := by decide +kernel
theorem dX0_leapFrom_24 : decode cX0_leapFrom 24 = .ok (.iload 4, 2) := by decide +kernel
theorem dX0_leapFrom_26 : decode cX0_leapFrom 26 = .ok (.invokevirtual 80, 3) := by decide +kernel
theorem dX0_leapFrom_29 : decode cX0_leapFrom 29 = .ok (.istore 5, 2) := by decide +kernel
theorem dX0_leapFrom_31 : decode cX0_leapFrom 31 = .ok (.iload 5, 2) := by decide +kernel
theorem dX0_leapFrom_33 : decode cX0_leapFrom 33 = .ok (.ifCond .le 12, 3) := by decide +kernel
theorem dX0_leapFrom_36 : decode cX0_leapFrom 36 = .ok (.iload 5, 2) := by decide +kernel
theorem dX0_leapFrom_38 : decode cX0_leapFrom 38 = .ok (.iload_n 3, 1) := by decide +kernel
theorem dX0_leapFrom_39 : decode cX0_leapFrom 39 = .ok (.if_icmp .ge 6, 3) := by decide +kernel
theorem dX0_leapFrom_42 : decode cX0_leapFrom 42 = .ok (.iload 5, 2) := by decide +kernel
theorem dX0_leapFrom_44 : decode cX0_leapFrom 44 = .ok (.istore_n 3, 1) := by decide +kernel
theorem dX0_leapFrom_45 : decode cX0_leapFrom 45 = .ok (.iinc 4 1, 3) := by decide +kernel
theorem dX0_leapFrom_48 : decode cX0_leapFrom 48 = .ok (.goto (-42), 3) := by decide +kernel
theorem dX0_leapFrom_51 : decode cX0_leapFrom 51 = .ok (.iload_n 3, 1) := by decide +kernel
theorem dX0_leapFrom_52 : decode cX0_leapFrom 52 = .ok (.ldc 79, 2) := by decide +kernel
theorem dX0_leapFrom_54 : decode cX0_leapFrom 54 = .ok (.if_icmp .ne 5, 3) := by decide +kernel
theorem dX0_leapFrom_57 : decode cX0_leapFrom 57 = .ok (.iconst (-1), 1) := by decide +kernel
theorem dX0_leapFrom_58 : decode cX0_leapFrom 58 = .ok (.ireturn, 1) := by decide +kernel
theorem dX0_leapFrom_59 : decode cX0_leapFrom 59 = .ok (.iconst 0, 1) := by decide +kernel
theorem dX0_leapFrom_60 : decode cX0_leapFrom 60 = .ok (.istore 4, 2) := by decide +kernel
theorem dX0_leapFrom_62 : decode cX0_leapFrom 62 = .ok (.iconst 0, 1) := by decide +kernel
theorem dX0_leapFrom_63 : decode cX0_leapFrom 63 = .ok (.istore 5, 2) := by decide +kernel
theorem dX0_leapFrom_65 : decode cX0_leapFrom 65 = .ok (.iload 5, 2) := by decide +kernel
theorem dX0_leapFrom_67 : decode cX0_leapFrom 67 = .ok (.aload_n 0, 1) := by decide +kernel
theorem dX0_leapFrom_68 : decode cX0_leapFrom 68 = .ok (.getfield 9, 3) := by decide +kernel
theorem dX0_leapFrom_71 : decode cX0_leapFrom 71 = .ok (.if_icmp .ge 41, 3) := by decide +kernel
theorem dX0_leapFrom_74 : decode cX0_leapFrom 74 = .ok (.iload 5, 2) := by decide +kernel
theorem dX0_leapFrom_76 : decode cX0_leapFrom 76 = .ok (.iconst 3, 1) := by decide +kernel
theorem dX0_leapFrom_77 : decode cX0_leapFrom 77 = .ok (.if_icmp .ge 35, 3) := by decide +kernel
theorem dX0_leapFrom_80 : decode cX0_leapFrom 80 = .ok (.iload 4, 2) := by decide +kernel
theorem dX0_leapFrom_82 : decode cX0_leapFrom 82 = .ok (.iconst 0, 1) := by decide +kernel
theorem dX0_leapFrom_83 : decode cX0_leapFrom 83 = .ok (.aload_n 0, 1) := by decide +kernel
theorem dX0_leapFrom_84 : decode cX0_leapFrom 84 = .ok (.iload_n 1, 1) := by decide +kernel
theorem dX0_leapFrom_85 : decode cX0_leapFrom 85 = .ok (.iload_n 2, 1) := by decide +kernel
theorem dX0_leapFrom_86 : decode cX0_leapFrom 86 = .ok (.iload 5, 2) := by decide +kernel
theorem dX0_leapFrom_88 : decode cX0_leapFrom 88 = .ok (.invokevirtual 80, 3) := by decide +kernel
theorem dX0_leapFrom_91 : decode cX0_leapFrom 91 = .ok (.iload_n 3, 1) := by decide +kernel
theorem dX0_leapFrom_92 : decode cX0_leapFrom 92 = .ok (.isub, 1) := by decide +kernel
theorem dX0_leapFrom_93 : decode cX0_leapFrom 93 = .ok (.invokestatic 84, 3) := by decide +kernel
theorem dX0_leapFrom_96 : decode cX0_leapFrom 96 = .ok (.getstatic 89, 3) := by decide +kernel
theorem dX0_leapFrom_99 : decode cX0_leapFrom 99 = .ok (.iload 5, 2) := by decide +kernel
theorem dX0_leapFrom_101 : decode cX0_leapFrom 101 = .ok (.iaload, 1) := by decide +kernel
theorem dX0_leapFrom_102 : decode cX0_leapFrom 102 = .ok (.imul, 1) := by decide +kernel
theorem dX0_leapFrom_103 : decode cX0_leapFrom 103 = .ok (.iadd, 1) := by decide +kernel
theorem dX0_leapFrom_104 : decode cX0_leapFrom 104 = .ok (.istore 4, 2) := by decide +kernel
theorem dX0_leapFrom_106 : decode cX0_leapFrom 106 = .ok (.iinc 5 1, 3) := by decide +kernel
theorem dX0_leapFrom_109 : decode cX0_leapFrom 109 = .ok (.goto (-44), 3) := by decide +kernel
theorem dX0_leapFrom_112 : decode cX0_leapFrom 112 = .ok (.iload 4, 2) := by decide +kernel
theorem dX0_leapFrom_114 : decode cX0_leapFrom 114 = .ok (.bipush 16, 2) := by decide +kernel
theorem dX0_leapFrom_116 : decode cX0_leapFrom 116 = .ok (.imul, 1) := by decide +kernel
theorem dX0_leapFrom_117 : decode cX0_leapFrom 117 = .ok (.iload_n 3, 1) := by decide +kernel
theorem dX0_leapFrom_118 : decode cX0_leapFrom 118 = .ok (.iadd, 1) := by decide +kernel
theorem dX0_leapFrom_119 : decode cX0_leapFrom 119 = .ok (.ireturn, 1) := by decide +kernel
theorem dX0_sandAbove_0 : decode cX0_sandAbove 0 = .ok (.iload_n 1, 1) := by decide +kernel
theorem dX0_sandAbove_1 : decode cX0_sandAbove 1 = .ok (.istore 4, 2) := by decide +kernel
theorem dX0_sandAbove_3 : decode cX0_sandAbove 3 = .ok (.iconst 0, 1) := by decide +kernel
theorem dX0_sandAbove_4 : decode cX0_sandAbove 4 = .ok (.istore 5, 2) := by decide +kernel
theorem dX0_sandAbove_6 : decode cX0_sandAbove 6 = .ok (.iload 5, 2) := by decide +kernel
theorem dX0_sandAbove_8 : decode cX0_sandAbove 8 = .ok (.iload_n 3, 1) := by decide +kernel
theorem dX0_sandAbove_9 : decode cX0_sandAbove 9 = .ok (.if_icmp .ge 16, 3) := by decide +kernel
theorem dX0_sandAbove_12 : decode cX0_sandAbove 12 = .ok (.iload 4, 2) := by decide +kernel
theorem dX0_sandAbove_14 : decode cX0_sandAbove 14 = .ok (.bipush 12, 2) := by decide +kernel
theorem dX0_sandAbove_16 : decode cX0_sandAbove 16 = .ok (.idiv, 1) := by decide +kernel
theorem dX0_sandAbove_17 : decode cX0_sandAbove 17 = .ok (.istore 4, 2) := by decide +kernel
theorem dX0_sandAbove_19 : decode cX0_sandAbove 19 = .ok (.iinc 5 1, 3) := by decide +kernel
theorem dX0_sandAbove_22 : decode cX0_sandAbove 22 = .ok (.goto (-16), 3) := by decide +kernel
theorem dX0_sandAbove_25 : decode cX0_sandAbove 25 = .ok (.iload 4, 2) := by decide +kernel
theorem dX0_sandAbove_27 : decode cX0_sandAbove 27 = .ok (.bipush 12, 2) := by decide +kernel
theorem dX0_sandAbove_29 : decode cX0_sandAbove 29 = .ok (.irem, 1) := by decide +kernel
theorem dX0_sandAbove_30 : decode cX0_sandAbove 30 = .ok (.istore 5, 2) := by decide +kernel
theorem dX0_sandAbove_32 : decode cX0_sandAbove 32 = .ok (.iload_n 2, 1) := by decide +kernel
theorem dX0_sandAbove_33 : decode cX0_sandAbove 33 = .ok (.iload_n 3, 1) := by decide +kernel
theorem dX0_sandAbove_34 : decode cX0_sandAbove 34 = .ok (.ishr, 1) := by decide +kernel
theorem dX0_sandAbove_35 : decode cX0_sandAbove 35 = .ok (.iconst 1, 1) := by decide +kernel
theorem dX0_sandAbove_36 : decode cX0_sandAbove 36 = .ok (.iand, 1) := by decide +kernel
theorem dX0_sandAbove_37 : decode cX0_sandAbove 37 = .ok (.iconst 1, 1) := by decide +kernel
theorem dX0_sandAbove_38 : decode cX0_sandAbove 38 = .ok (.if_icmp .ne 15, 3) := by decide +kernel
theorem dX0_sandAbove_41 : decode cX0_sandAbove 41 = .ok (.aload_n 0, 1) := by decide +kernel
theorem dX0_sandAbove_42 : decode cX0_sandAbove 42 = .ok (.getfield 15, 3) := by decide +kernel
theorem dX0_sandAbove_45 : decode cX0_sandAbove 45 = .ok (.iload_n 3, 1) := by decide +kernel
theorem dX0_sandAbove_46 : decode cX0_sandAbove 46 = .ok (.iaload, 1) := by decide +kernel
theorem dX0_sandAbove_47 : decode cX0_sandAbove 47 = .ok (.iload 5, 2) := by decide +kernel
theorem dX0_sandAbove_49 : decode cX0_sandAbove 49 = .ok (.isub, 1) := by decide +kernel
theorem dX0_sandAbove_50 : decode cX0_sandAbove 50 = .ok (.goto 5, 3) := by decide +kernel
theorem dX0_sandAbove_53 : decode cX0_sandAbove 53 = .ok (.iload 5, 2) := by decide +kernel
theorem dX0_sandAbove_55 : decode cX0_sandAbove 55 = .ok (.ireturn, 1) := by decide +kernel
set_option maxRecDepth 20000 in
theorem ggX0_goForth_J7_fill_53178 : GoodIn wsX0_goForth wsJ7_fill_53178 := goodIn_r _ [9] (by decide +kernel) (by decide +kernel)
set_option maxRecDepth 20000 in
theorem gX0_goForth_J7_fill_53178 : GoodIn wsX0_goForth (va_wsS RX0 92 yJ7_fill_53178 wsJ7_fill_53178) := goodIn_app (goodIn_of _ (by decide +kernel)) ggX0_goForth_J7_fill_53178
set_option maxRecDepth 20000 in
theorem ggX0_goForth_X0_goOnFrom : GoodIn wsX0_goForth wsX0_goOnFrom := goodIn_r _ [14, 15, 16, 3, 1, 17, 18, 19, 20, 21, 22, 23, 24, 25, 26, 27, 28, 29, 30, 31, 32, 33, 34, 35] (by decide +kernel) (by decide +kernel)
set_option maxRecDepth 20000 in
theorem gX0_goForth_X0_goOnFrom : GoodIn wsX0_goForth (wsV RX0 98 RX0 yX0_goOnFrom wsX0_goOnFrom) := goodIn_app (goodIn_of _ (by decide +kernel)) ggX0_goForth_X0_goOnFrom
theorem dX0_goForth_0 : decode cX0_goForth 0 = .ok (.aload_n 0, 1) := by decide +kernel
theorem dX0_goForth_1 : decode cX0_goForth 1 = .ok (.getfield 42, 3) := by decide +kernel
theorem dX0_goForth_4 : decode cX0_goForth 4 = .ok (.ldc 79, 2) := by decide +kernel
theorem dX0_goForth_6 : decode cX0_goForth 6 = .ok (.invokestatic 92, 3) := by decide +kernel
theorem dX0_goForth_9 : decode cX0_goForth 9 = .ok (.aload_n 0, 1) := by decide +kernel
theorem dX0_goForth_10 : decode cX0_goForth 10 = .ok (.getfield 45, 3) := by decide +kernel
theorem dX0_goForth_13 : decode cX0_goForth 13 = .ok (.ldc 79, 2) := by decide +kernel
theorem dX0_goForth_15 : decode cX0_goForth 15 = .ok (.invokestatic 92, 3) := by decide +kernel
theorem dX0_goForth_18 : decode cX0_goForth 18 = .ok (.aload_n 0, 1) := by decide +kernel
theorem dX0_goForth_19 : decode cX0_goForth 19 = .ok (.getfield 42, 3) := by decide +kernel
theorem dX0_goForth_22 : decode cX0_goForth 22 = .ok (.iconst 0, 1) := by decide +kernel
theorem dX0_goForth_23 : decode cX0_goForth 23 = .ok (.iconst 0, 1) := by decide +kernel
theorem dX0_goForth_24 : decode cX0_goForth 24 = .ok (.iastore, 1) := by decide +kernel
theorem dX0_goForth_25 : decode cX0_goForth 25 = .ok (.aload_n 0, 1) := by decide +kernel
theorem dX0_goForth_26 : decode cX0_goForth 26 = .ok (.getfield 45, 3) := by decide +kernel
theorem dX0_goForth_29 : decode cX0_goForth 29 = .ok (.iconst 0, 1) := by decide +kernel
theorem dX0_goForth_30 : decode cX0_goForth 30 = .ok (.iconst 0, 1) := by decide +kernel
theorem dX0_goForth_31 : decode cX0_goForth 31 = .ok (.iastore, 1) := by decide +kernel
theorem dX0_goForth_32 : decode cX0_goForth 32 = .ok (.iconst 0, 1) := by decide +kernel
theorem dX0_goForth_33 : decode cX0_goForth 33 = .ok (.istore_n 1, 1) := by decide +kernel
theorem dX0_goForth_34 : decode cX0_goForth 34 = .ok (.iload_n 1, 1) := by decide +kernel
theorem dX0_goForth_35 : decode cX0_goForth 35 = .ok (.bipush 60, 2) := by decide +kernel
theorem dX0_goForth_37 : decode cX0_goForth 37 = .ok (.if_icmp .gt 60, 3) := by decide +kernel
theorem dX0_goForth_40 : decode cX0_goForth 40 = .ok (.iconst 0, 1) := by decide +kernel
theorem dX0_goForth_41 : decode cX0_goForth 41 = .ok (.istore_n 2, 1) := by decide +kernel
theorem dX0_goForth_42 : decode cX0_goForth 42 = .ok (.iload_n 2, 1) := by decide +kernel
theorem dX0_goForth_43 : decode cX0_goForth 43 = .ok (.aload_n 0, 1) := by decide +kernel
theorem dX0_goForth_44 : decode cX0_goForth 44 = .ok (.getfield 36, 3) := by decide +kernel
theorem dX0_goForth_47 : decode cX0_goForth 47 = .ok (.if_icmp .ge 44, 3) := by decide +kernel
theorem dX0_goForth_50 : decode cX0_goForth 50 = .ok (.iload_n 2, 1) := by decide +kernel
theorem dX0_goForth_51 : decode cX0_goForth 51 = .ok (.aload_n 0, 1) := by decide +kernel
theorem dX0_goForth_52 : decode cX0_goForth 52 = .ok (.getfield 29, 3) := by decide +kernel
theorem dX0_goForth_55 : decode cX0_goForth 55 = .ok (.arraylength, 1) := by decide +kernel
theorem dX0_goForth_56 : decode cX0_goForth 56 = .ok (.if_icmp .ge 35, 3) := by decide +kernel
theorem dX0_goForth_59 : decode cX0_goForth 59 = .ok (.aload_n 0, 1) := by decide +kernel
theorem dX0_goForth_60 : decode cX0_goForth 60 = .ok (.getfield 42, 3) := by decide +kernel
theorem dX0_goForth_63 : decode cX0_goForth 63 = .ok (.aload_n 0, 1) := by decide +kernel
theorem dX0_goForth_64 : decode cX0_goForth 64 = .ok (.getfield 29, 3) := by decide +kernel
theorem dX0_goForth_67 : decode cX0_goForth 67 = .ok (.iload_n 2, 1) := by decide +kernel
theorem dX0_goForth_68 : decode cX0_goForth 68 = .ok (.iaload, 1) := by decide +kernel
theorem dX0_goForth_69 : decode cX0_goForth 69 = .ok (.iaload, 1) := by decide +kernel
theorem dX0_goForth_70 : decode cX0_goForth 70 = .ok (.iload_n 1, 1) := by decide +kernel
theorem dX0_goForth_71 : decode cX0_goForth 71 = .ok (.if_icmp .ne 14, 3) := by decide +kernel
theorem dX0_goForth_74 : decode cX0_goForth 74 = .ok (.aload_n 0, 1) := by decide +kernel
theorem dX0_goForth_75 : decode cX0_goForth 75 = .ok (.aload_n 0, 1) := by decide +kernel
theorem dX0_goForth_76 : decode cX0_goForth 76 = .ok (.getfield 29, 3) := by decide +kernel
theorem dX0_goForth_79 : decode cX0_goForth 79 = .ok (.iload_n 2, 1) := by decide +kernel
theorem dX0_goForth_80 : decode cX0_goForth 80 = .ok (.iaload, 1) := by decide +kernel
theorem dX0_goForth_81 : decode cX0_goForth 81 = .ok (.iload_n 1, 1) := by decide +kernel
theorem dX0_goForth_82 : decode cX0_goForth 82 = .ok (.invokevirtual 98, 3) := by decide +kernel
theorem dX0_goForth_85 : decode cX0_goForth 85 = .ok (.iinc 2 1, 3) := by decide +kernel
theorem dX0_goForth_88 : decode cX0_goForth 88 = .ok (.goto (-46), 3) := by decide +kernel
theorem dX0_goForth_91 : decode cX0_goForth 91 = .ok (.iinc 1 1, 3) := by decide +kernel
theorem dX0_goForth_94 : decode cX0_goForth 94 = .ok (.goto (-60), 3) := by decide +kernel
theorem dX0_goForth_97 : decode cX0_goForth 97 = .ok (.return_, 1) := by decide +kernel
set_option maxRecDepth 20000 in
theorem ggX0_goOnFrom_J6_bitCount_0f7a4 : GoodIn wsX0_goOnFrom wsJ6_bitCount_0f7a4 := goodIn_r _ [8, 9, 10, 11] (by decide +kernel) (by decide +kernel)
set_option maxRecDepth 20000 in
theorem gX0_goOnFrom_J6_bitCount_0f7a4 : GoodIn wsX0_goOnFrom (va_wsS RX0 102 yJ6_bitCount_0f7a4 wsJ6_bitCount_0f7a4) := goodIn_app (goodIn_of _ (by decide +kernel)) ggX0_goOnFrom_J6_bitCount_0f7a4
theorem dX0_goOnFrom_0 : decode cX0_goOnFrom 0 = .ok (.iconst 0, 1) := by decide +kernel
theorem dX0_goOnFrom_1 : decode cX0_goOnFrom 1 = .ok (.istore_n 3, 1) := by decide +kernel
theorem dX0_goOnFrom_2 : decode cX0_goOnFrom 2 = .ok (.iload_n 3, 1) := by decide +kernel
theorem dX0_goOnFrom_3 : decode cX0_goOnFrom 3 = .ok (.iconst 1, 1) := by decide +kernel
theorem dX0_goOnFrom_4 : decode cX0_goOnFrom 4 = .ok (.aload_n 0, 1) := by decide +kernel
theorem dX0_goOnFrom_5 : decode cX0_goOnFrom 5 = .ok (.getfield 9, 3) := by decide +kernel
theorem dX0_goOnFrom_8 : decode cX0_goOnFrom 8 = .ok (.ishl, 1) := by decide +kernel
theorem dX0_goOnFrom_9 : decode cX0_goOnFrom 9 = .ok (.if_icmp .ge 114, 3) := by decide +kernel
theorem dX0_goOnFrom_12 : decode cX0_goOnFrom 12 = .ok (.aload_n 0, 1) := by decide +kernel
theorem dX0_goOnFrom_13 : decode cX0_goOnFrom 13 = .ok (.getfield 39, 3) := by decide +kernel
theorem dX0_goOnFrom_16 : decode cX0_goOnFrom 16 = .ok (.iload_n 1, 1) := by decide +kernel
theorem dX0_goOnFrom_17 : decode cX0_goOnFrom 17 = .ok (.bipush 8, 2) := by decide +kernel
theorem dX0_goOnFrom_19 : decode cX0_goOnFrom 19 = .ok (.imul, 1) := by decide +kernel
theorem dX0_goOnFrom_20 : decode cX0_goOnFrom 20 = .ok (.iload_n 3, 1) := by decide +kernel
theorem dX0_goOnFrom_21 : decode cX0_goOnFrom 21 = .ok (.iadd, 1) := by decide +kernel
theorem dX0_goOnFrom_22 : decode cX0_goOnFrom 22 = .ok (.iaload, 1) := by decide +kernel
theorem dX0_goOnFrom_23 : decode cX0_goOnFrom 23 = .ok (.istore 4, 2) := by decide +kernel
theorem dX0_goOnFrom_25 : decode cX0_goOnFrom 25 = .ok (.iload 4, 2) := by decide +kernel
theorem dX0_goOnFrom_27 : decode cX0_goOnFrom 27 = .ok (.iconst (-1), 1) := by decide +kernel
theorem dX0_goOnFrom_28 : decode cX0_goOnFrom 28 = .ok (.if_icmp .ne 6, 3) := by decide +kernel
theorem dX0_goOnFrom_31 : decode cX0_goOnFrom 31 = .ok (.goto 86, 3) := by decide +kernel
theorem dX0_goOnFrom_34 : decode cX0_goOnFrom 34 = .ok (.iload 4, 2) := by decide +kernel
theorem dX0_goOnFrom_36 : decode cX0_goOnFrom 36 = .ok (.bipush 16, 2) := by decide +kernel
theorem dX0_goOnFrom_38 : decode cX0_goOnFrom 38 = .ok (.idiv, 1) := by decide +kernel
theorem dX0_goOnFrom_39 : decode cX0_goOnFrom 39 = .ok (.istore 5, 2) := by decide +kernel
theorem dX0_goOnFrom_41 : decode cX0_goOnFrom 41 = .ok (.iload_n 2, 1) := by decide +kernel
theorem dX0_goOnFrom_42 : decode cX0_goOnFrom 42 = .ok (.iload 4, 2) := by decide +kernel
theorem dX0_goOnFrom_44 : decode cX0_goOnFrom 44 = .ok (.bipush 16, 2) := by decide +kernel
theorem dX0_goOnFrom_46 : decode cX0_goOnFrom 46 = .ok (.irem, 1) := by decide +kernel
theorem dX0_goOnFrom_47 : decode cX0_goOnFrom 47 = .ok (.iadd, 1) := by decide +kernel
theorem dX0_goOnFrom_48 : decode cX0_goOnFrom 48 = .ok (.istore 6, 2) := by decide +kernel
theorem dX0_goOnFrom_50 : decode cX0_goOnFrom 50 = .ok (.aload_n 0, 1) := by decide +kernel
theorem dX0_goOnFrom_51 : decode cX0_goOnFrom 51 = .ok (.getfield 45, 3) := by decide +kernel
theorem dX0_goOnFrom_54 : decode cX0_goOnFrom 54 = .ok (.iload_n 1, 1) := by decide +kernel
theorem dX0_goOnFrom_55 : decode cX0_goOnFrom 55 = .ok (.iaload, 1) := by decide +kernel
theorem dX0_goOnFrom_56 : decode cX0_goOnFrom 56 = .ok (.iload_n 3, 1) := by decide +kernel
theorem dX0_goOnFrom_57 : decode cX0_goOnFrom 57 = .ok (.invokestatic 102, 3) := by decide +kernel
theorem dX0_goOnFrom_60 : decode cX0_goOnFrom 60 = .ok (.iadd, 1) := by decide +kernel
theorem dX0_goOnFrom_61 : decode cX0_goOnFrom 61 = .ok (.istore 7, 2) := by decide +kernel
theorem dX0_goOnFrom_63 : decode cX0_goOnFrom 63 = .ok (.iload 6, 2) := by decide +kernel
theorem dX0_goOnFrom_65 : decode cX0_goOnFrom 65 = .ok (.aload_n 0, 1) := by decide +kernel
theorem dX0_goOnFrom_66 : decode cX0_goOnFrom 66 = .ok (.getfield 42, 3) := by decide +kernel
theorem dX0_goOnFrom_69 : decode cX0_goOnFrom 69 = .ok (.iload 5, 2) := by decide +kernel
theorem dX0_goOnFrom_71 : decode cX0_goOnFrom 71 = .ok (.iaload, 1) := by decide +kernel
theorem dX0_goOnFrom_72 : decode cX0_goOnFrom 72 = .ok (.if_icmp .lt 27, 3) := by decide +kernel
theorem dX0_goOnFrom_75 : decode cX0_goOnFrom 75 = .ok (.iload 6, 2) := by decide +kernel
theorem dX0_goOnFrom_77 : decode cX0_goOnFrom 77 = .ok (.aload_n 0, 1) := by decide +kernel
theorem dX0_goOnFrom_78 : decode cX0_goOnFrom 78 = .ok (.getfield 42, 3) := by decide +kernel
theorem dX0_goOnFrom_81 : decode cX0_goOnFrom 81 = .ok (.iload 5, 2) := by decide +kernel
theorem dX0_goOnFrom_83 : decode cX0_goOnFrom 83 = .ok (.iaload, 1) := by decide +kernel
theorem dX0_goOnFrom_84 : decode cX0_goOnFrom 84 = .ok (.if_icmp .ne 33, 3) := by decide +kernel
theorem dX0_goOnFrom_87 : decode cX0_goOnFrom 87 = .ok (.iload 7, 2) := by decide +kernel
theorem dX0_goOnFrom_89 : decode cX0_goOnFrom 89 = .ok (.aload_n 0, 1) := by decide +kernel
theorem dX0_goOnFrom_90 : decode cX0_goOnFrom 90 = .ok (.getfield 45, 3) := by decide +kernel
theorem dX0_goOnFrom_93 : decode cX0_goOnFrom 93 = .ok (.iload 5, 2) := by decide +kernel
theorem dX0_goOnFrom_95 : decode cX0_goOnFrom 95 = .ok (.iaload, 1) := by decide +kernel
theorem dX0_goOnFrom_96 : decode cX0_goOnFrom 96 = .ok (.if_icmp .ge 21, 3) := by decide +kernel
theorem dX0_goOnFrom_99 : decode cX0_goOnFrom 99 = .ok (.aload_n 0, 1) := by decide +kernel
theorem dX0_goOnFrom_100 : decode cX0_goOnFrom 100 = .ok (.getfield 42, 3) := by decide +kernel
theorem dX0_goOnFrom_103 : decode cX0_goOnFrom 103 = .ok (.iload 5, 2) := by decide +kernel
theorem dX0_goOnFrom_105 : decode cX0_goOnFrom 105 = .ok (.iload 6, 2) := by decide +kernel
theorem dX0_goOnFrom_107 : decode cX0_goOnFrom 107 = .ok (.iastore, 1) := by decide +kernel
theorem dX0_goOnFrom_108 : decode cX0_goOnFrom 108 = .ok (.aload_n 0, 1) := by decide +kernel
theorem dX0_goOnFrom_109 : decode cX0_goOnFrom 109 = .ok (.getfield 45, 3) := by decide +kernel
theorem dX0_goOnFrom_112 : decode cX0_goOnFrom 112 = .ok (.iload 5, 2) := by decide +kernel
theorem dX0_goOnFrom_114 : decode cX0_goOnFrom 114 = .ok (.iload 7, 2) := by decide +kernel
theorem dX0_goOnFrom_116 : decode cX0_goOnFrom 116 = .ok (.iastore, 1) := by decide +kernel
theorem dX0_goOnFrom_117 : decode cX0_goOnFrom 117 = .ok (.iinc 3 1, 3) := by decide +kernel
theorem dX0_goOnFrom_120 : decode cX0_goOnFrom 120 = .ok (.goto (-118), 3) := by decide +kernel
theorem dX0_goOnFrom_123 : decode cX0_goOnFrom 123 = .ok (.return_, 1) := by decide +kernel
set_option maxRecDepth 20000 in
theorem ggX0_lookAhead_X0_fewestTurned : GoodIn wsX0_lookAhead wsX0_fewestTurned := goodIn_r _ [8, 9, 10, 11, 3, 12, 13, 14, 15, 16, 17, 18, 19, 20, 21, 22, 23, 24, 25, 26, 27, 28, 29, 30, 31, 32, 33, 34] (by decide +kernel) (by decide +kernel)
set_option maxRecDepth 20000 in
theorem gX0_lookAhead_X0_fewestTurned : GoodIn wsX0_lookAhead (wsV RX0 108 RX0 yX0_fewestTurned wsX0_fewestTurned) := goodIn_app (goodIn_of _ (by decide +kernel)) ggX0_lookAhead_X0_fewestTurned
theorem dX0_lookAhead_0 : decode cX0_lookAhead 0 = .ok (.iconst 0, 1) := by decide +kernel
theorem dX0_lookAhead_1 : decode cX0_lookAhead 1 = .ok (.istore_n 2, 1) := by decide +kernel
theorem dX0_lookAhead_2 : decode cX0_lookAhead 2 = .ok (.iload_n 2, 1) := by decide +kernel
theorem dX0_lookAhead_3 : decode cX0_lookAhead 3 = .ok (.aload_n 0, 1) := by decide +kernel
theorem dX0_lookAhead_4 : decode cX0_lookAhead 4 = .ok (.getfield 36, 3) := by decide +kernel
theorem dX0_lookAhead_7 : decode cX0_lookAhead 7 = .ok (.if_icmp .ge 53, 3) := by decide +kernel
theorem dX0_lookAhead_10 : decode cX0_lookAhead 10 = .ok (.iload_n 2, 1) := by decide +kernel
theorem dX0_lookAhead_11 : decode cX0_lookAhead 11 = .ok (.aload_n 0, 1) := by decide +kernel
theorem dX0_lookAhead_12 : decode cX0_lookAhead 12 = .ok (.getfield 29, 3) := by decide +kernel
theorem dX0_lookAhead_15 : decode cX0_lookAhead 15 = .ok (.arraylength, 1) := by decide +kernel
theorem dX0_lookAhead_16 : decode cX0_lookAhead 16 = .ok (.if_icmp .ge 44, 3) := by decide +kernel
theorem dX0_lookAhead_19 : decode cX0_lookAhead 19 = .ok (.aload_n 0, 1) := by decide +kernel
theorem dX0_lookAhead_20 : decode cX0_lookAhead 20 = .ok (.getfield 50, 3) := by decide +kernel
theorem dX0_lookAhead_23 : decode cX0_lookAhead 23 = .ok (.iload_n 1, 1) := by decide +kernel
theorem dX0_lookAhead_24 : decode cX0_lookAhead 24 = .ok (.bipush 13, 2) := by decide +kernel
theorem dX0_lookAhead_26 : decode cX0_lookAhead 26 = .ok (.irem, 1) := by decide +kernel
theorem dX0_lookAhead_27 : decode cX0_lookAhead 27 = .ok (.aaload, 1) := by decide +kernel
theorem dX0_lookAhead_28 : decode cX0_lookAhead 28 = .ok (.aload_n 0, 1) := by decide +kernel
theorem dX0_lookAhead_29 : decode cX0_lookAhead 29 = .ok (.getfield 29, 3) := by decide +kernel
theorem dX0_lookAhead_32 : decode cX0_lookAhead 32 = .ok (.iload_n 2, 1) := by decide +kernel
theorem dX0_lookAhead_33 : decode cX0_lookAhead 33 = .ok (.iaload, 1) := by decide +kernel
theorem dX0_lookAhead_34 : decode cX0_lookAhead 34 = .ok (.iload_n 1, 1) := by decide +kernel
theorem dX0_lookAhead_35 : decode cX0_lookAhead 35 = .ok (.ifCond .ne 7, 3) := by decide +kernel
theorem dX0_lookAhead_38 : decode cX0_lookAhead 38 = .ok (.iconst 0, 1) := by decide +kernel
theorem dX0_lookAhead_39 : decode cX0_lookAhead 39 = .ok (.goto 14, 3) := by decide +kernel
theorem dX0_lookAhead_42 : decode cX0_lookAhead 42 = .ok (.aload_n 0, 1) := by decide +kernel
theorem dX0_lookAhead_43 : decode cX0_lookAhead 43 = .ok (.aload_n 0, 1) := by decide +kernel
theorem dX0_lookAhead_44 : decode cX0_lookAhead 44 = .ok (.getfield 29, 3) := by decide +kernel
theorem dX0_lookAhead_47 : decode cX0_lookAhead 47 = .ok (.iload_n 2, 1) := by decide +kernel
theorem dX0_lookAhead_48 : decode cX0_lookAhead 48 = .ok (.iaload, 1) := by decide +kernel
theorem dX0_lookAhead_49 : decode cX0_lookAhead 49 = .ok (.iload_n 1, 1) := by decide +kernel
theorem dX0_lookAhead_50 : decode cX0_lookAhead 50 = .ok (.invokevirtual 108, 3) := by decide +kernel
theorem dX0_lookAhead_53 : decode cX0_lookAhead 53 = .ok (.iastore, 1) := by decide +kernel
theorem dX0_lookAhead_54 : decode cX0_lookAhead 54 = .ok (.iinc 2 1, 3) := by decide +kernel
theorem dX0_lookAhead_57 : decode cX0_lookAhead 57 = .ok (.goto (-55), 3) := by decide +kernel
theorem dX0_lookAhead_60 : decode cX0_lookAhead 60 = .ok (.return_, 1) := by decide +kernel
set_option maxRecDepth 20000 in
theorem ggX0_fewestTurned_J6_bitCount_0f7a4 : GoodIn wsX0_fewestTurned wsJ6_bitCount_0f7a4 := goodIn_r _ [12, 13, 14, 15] (by decide +kernel) (by decide +kernel)
set_option maxRecDepth 20000 in
theorem gX0_fewestTurned_J6_bitCount_0f7a4 : GoodIn wsX0_fewestTurned (va_wsS RX0 102 yJ6_bitCount_0f7a4 wsJ6_bitCount_0f7a4) := goodIn_app (goodIn_of _ (by decide +kernel)) ggX0_fewestTurned_J6_bitCount_0f7a4
theorem dX0_fewestTurned_0 : decode cX0_fewestTurned 0 = .ok (.ldc 79, 2) := by decide +kernel
theorem dX0_fewestTurned_2 : decode cX0_fewestTurned 2 = .ok (.istore_n 3, 1) := by decide +kernel
theorem dX0_fewestTurned_3 : decode cX0_fewestTurned 3 = .ok (.iconst 0, 1) := by decide +kernel
theorem dX0_fewestTurned_4 : decode cX0_fewestTurned 4 = .ok (.istore 4, 2) := by decide +kernel
theorem dX0_fewestTurned_6 : decode cX0_fewestTurned 6 = .ok (.iload 4, 2) := by decide +kernel
theorem dX0_fewestTurned_8 : decode cX0_fewestTurned 8 = .ok (.iconst 1, 1) := by decide +kernel
theorem dX0_fewestTurned_9 : decode cX0_fewestTurned 9 = .ok (.aload_n 0, 1) := by decide +kernel
theorem dX0_fewestTurned_10 : decode cX0_fewestTurned 10 = .ok (.getfield 9, 3) := by decide +kernel
theorem dX0_fewestTurned_13 : decode cX0_fewestTurned 13 = .ok (.ishl, 1) := by decide +kernel
theorem dX0_fewestTurned_14 : decode cX0_fewestTurned 14 = .ok (.if_icmp .ge 84, 3) := by decide +kernel
theorem dX0_fewestTurned_17 : decode cX0_fewestTurned 17 = .ok (.aload_n 0, 1) := by decide +kernel
theorem dX0_fewestTurned_18 : decode cX0_fewestTurned 18 = .ok (.getfield 39, 3) := by decide +kernel
theorem dX0_fewestTurned_21 : decode cX0_fewestTurned 21 = .ok (.iload_n 1, 1) := by decide +kernel
theorem dX0_fewestTurned_22 : decode cX0_fewestTurned 22 = .ok (.bipush 8, 2) := by decide +kernel
theorem dX0_fewestTurned_24 : decode cX0_fewestTurned 24 = .ok (.imul, 1) := by decide +kernel
theorem dX0_fewestTurned_25 : decode cX0_fewestTurned 25 = .ok (.iload 4, 2) := by decide +kernel
theorem dX0_fewestTurned_27 : decode cX0_fewestTurned 27 = .ok (.iadd, 1) := by decide +kernel
theorem dX0_fewestTurned_28 : decode cX0_fewestTurned 28 = .ok (.iaload, 1) := by decide +kernel
theorem dX0_fewestTurned_29 : decode cX0_fewestTurned 29 = .ok (.istore 5, 2) := by decide +kernel
theorem dX0_fewestTurned_31 : decode cX0_fewestTurned 31 = .ok (.iload 5, 2) := by decide +kernel
theorem dX0_fewestTurned_33 : decode cX0_fewestTurned 33 = .ok (.iconst (-1), 1) := by decide +kernel
theorem dX0_fewestTurned_34 : decode cX0_fewestTurned 34 = .ok (.if_icmp .eq 58, 3) := by decide +kernel
theorem dX0_fewestTurned_37 : decode cX0_fewestTurned 37 = .ok (.iload 5, 2) := by decide +kernel
theorem dX0_fewestTurned_39 : decode cX0_fewestTurned 39 = .ok (.bipush 16, 2) := by decide +kernel
theorem dX0_fewestTurned_41 : decode cX0_fewestTurned 41 = .ok (.irem, 1) := by decide +kernel
theorem dX0_fewestTurned_42 : decode cX0_fewestTurned 42 = .ok (.iload_n 2, 1) := by decide +kernel
theorem dX0_fewestTurned_43 : decode cX0_fewestTurned 43 = .ok (.if_icmp .le 6, 3) := by decide +kernel
theorem dX0_fewestTurned_46 : decode cX0_fewestTurned 46 = .ok (.goto 46, 3) := by decide +kernel
theorem dX0_fewestTurned_49 : decode cX0_fewestTurned 49 = .ok (.aload_n 0, 1) := by decide +kernel
theorem dX0_fewestTurned_50 : decode cX0_fewestTurned 50 = .ok (.getfield 50, 3) := by decide +kernel
theorem dX0_fewestTurned_53 : decode cX0_fewestTurned 53 = .ok (.iload_n 2, 1) := by decide +kernel
theorem dX0_fewestTurned_54 : decode cX0_fewestTurned 54 = .ok (.iload 5, 2) := by decide +kernel
theorem dX0_fewestTurned_56 : decode cX0_fewestTurned 56 = .ok (.bipush 16, 2) := by decide +kernel
theorem dX0_fewestTurned_58 : decode cX0_fewestTurned 58 = .ok (.irem, 1) := by decide +kernel
theorem dX0_fewestTurned_59 : decode cX0_fewestTurned 59 = .ok (.isub, 1) := by decide +kernel
theorem dX0_fewestTurned_60 : decode cX0_fewestTurned 60 = .ok (.bipush 13, 2) := by decide +kernel
theorem dX0_fewestTurned_62 : decode cX0_fewestTurned 62 = .ok (.irem, 1) := by decide +kernel
theorem dX0_fewestTurned_63 : decode cX0_fewestTurned 63 = .ok (.aaload, 1) := by decide +kernel
theorem dX0_fewestTurned_64 : decode cX0_fewestTurned 64 = .ok (.iload 5, 2) := by decide +kernel
theorem dX0_fewestTurned_66 : decode cX0_fewestTurned 66 = .ok (.bipush 16, 2) := by decide +kernel
theorem dX0_fewestTurned_68 : decode cX0_fewestTurned 68 = .ok (.idiv, 1) := by decide +kernel
theorem dX0_fewestTurned_69 : decode cX0_fewestTurned 69 = .ok (.iaload, 1) := by decide +kernel
theorem dX0_fewestTurned_70 : decode cX0_fewestTurned 70 = .ok (.istore 6, 2) := by decide +kernel
theorem dX0_fewestTurned_72 : decode cX0_fewestTurned 72 = .ok (.iload 6, 2) := by decide +kernel
theorem dX0_fewestTurned_74 : decode cX0_fewestTurned 74 = .ok (.ldc 79, 2) := by decide +kernel
theorem dX0_fewestTurned_76 : decode cX0_fewestTurned 76 = .ok (.if_icmp .ge 16, 3) := by decide +kernel
theorem dX0_fewestTurned_79 : decode cX0_fewestTurned 79 = .ok (.iload_n 3, 1) := by decide +kernel
theorem dX0_fewestTurned_80 : decode cX0_fewestTurned 80 = .ok (.iload 6, 2) := by decide +kernel
theorem dX0_fewestTurned_82 : decode cX0_fewestTurned 82 = .ok (.iload 4, 2) := by decide +kernel
theorem dX0_fewestTurned_84 : decode cX0_fewestTurned 84 = .ok (.invokestatic 102, 3) := by decide +kernel
theorem dX0_fewestTurned_87 : decode cX0_fewestTurned 87 = .ok (.iadd, 1) := by decide +kernel
theorem dX0_fewestTurned_88 : decode cX0_fewestTurned 88 = .ok (.invokestatic 111, 3) := by decide +kernel
theorem dX0_fewestTurned_91 : decode cX0_fewestTurned 91 = .ok (.istore_n 3, 1) := by decide +kernel
theorem dX0_fewestTurned_92 : decode cX0_fewestTurned 92 = .ok (.iinc 4 1, 3) := by decide +kernel
theorem dX0_fewestTurned_95 : decode cX0_fewestTurned 95 = .ok (.goto (-89), 3) := by decide +kernel
theorem dX0_fewestTurned_98 : decode cX0_fewestTurned 98 = .ok (.iload_n 3, 1) := by decide +kernel
theorem dX0_fewestTurned_99 : decode cX0_fewestTurned 99 = .ok (.ireturn, 1) := by decide +kernel
theorem dX0_answer_0 : decode cX0_answer 0 = .ok (.ldc 79, 2) := by decide +kernel
theorem dX0_answer_2 : decode cX0_answer 2 = .ok (.istore_n 2, 1) := by decide +kernel
theorem dX0_answer_3 : decode cX0_answer 3 = .ok (.ldc 79, 2) := by decide +kernel
theorem dX0_answer_5 : decode cX0_answer 5 = .ok (.istore_n 3, 1) := by decide +kernel
theorem dX0_answer_6 : decode cX0_answer 6 = .ok (.iconst 0, 1) := by decide +kernel
theorem dX0_answer_7 : decode cX0_answer 7 = .ok (.istore 4, 2) := by decide +kernel
theorem dX0_answer_9 : decode cX0_answer 9 = .ok (.iload 4, 2) := by decide +kernel
theorem dX0_answer_11 : decode cX0_answer 11 = .ok (.aload_n 0, 1) := by decide +kernel
theorem dX0_answer_12 : decode cX0_answer 12 = .ok (.getfield 36, 3) := by decide +kernel
theorem dX0_answer_15 : decode cX0_answer 15 = .ok (.if_icmp .ge 112, 3) := by decide +kernel
theorem dX0_answer_18 : decode cX0_answer 18 = .ok (.iload 4, 2) := by decide +kernel
theorem dX0_answer_20 : decode cX0_answer 20 = .ok (.aload_n 0, 1) := by decide +kernel
theorem dX0_answer_21 : decode cX0_answer 21 = .ok (.getfield 29, 3) := by decide +kernel
theorem dX0_answer_24 : decode cX0_answer 24 = .ok (.arraylength, 1) := by decide +kernel
theorem dX0_answer_25 : decode cX0_answer 25 = .ok (.if_icmp .ge 102, 3) := by decide +kernel
theorem dX0_answer_28 : decode cX0_answer 28 = .ok (.aload_n 0, 1) := by decide +kernel
theorem dX0_answer_29 : decode cX0_answer 29 = .ok (.getfield 29, 3) := by decide +kernel
theorem dX0_answer_32 : decode cX0_answer 32 = .ok (.iload 4, 2) := by decide +kernel
theorem dX0_answer_34 : decode cX0_answer 34 = .ok (.iaload, 1) := by decide +kernel
theorem dX0_answer_35 : decode cX0_answer 35 = .ok (.istore 5, 2) := by decide +kernel
theorem dX0_answer_37 : decode cX0_answer 37 = .ok (.aload_n 0, 1) := by decide +kernel
theorem dX0_answer_38 : decode cX0_answer 38 = .ok (.getfield 50, 3) := by decide +kernel
theorem dX0_answer_41 : decode cX0_answer 41 = .ok (.iload_n 1, 1) := by decide +kernel
theorem dX0_answer_42 : decode cX0_answer 42 = .ok (.bipush 13, 2) := by decide +kernel
theorem dX0_answer_44 : decode cX0_answer 44 = .ok (.irem, 1) := by decide +kernel
theorem dX0_answer_45 : decode cX0_answer 45 = .ok (.aaload, 1) := by decide +kernel
theorem dX0_answer_46 : decode cX0_answer 46 = .ok (.iload 5, 2) := by decide +kernel
theorem dX0_answer_48 : decode cX0_answer 48 = .ok (.iaload, 1) := by decide +kernel
theorem dX0_answer_49 : decode cX0_answer 49 = .ok (.istore 6, 2) := by decide +kernel
theorem dX0_answer_51 : decode cX0_answer 51 = .ok (.iload 6, 2) := by decide +kernel
theorem dX0_answer_53 : decode cX0_answer 53 = .ok (.ldc 79, 2) := by decide +kernel
theorem dX0_answer_55 : decode cX0_answer 55 = .ok (.if_icmp .eq 66, 3) := by decide +kernel
theorem dX0_answer_58 : decode cX0_answer 58 = .ok (.aload_n 0, 1) := by decide +kernel
theorem dX0_answer_59 : decode cX0_answer 59 = .ok (.getfield 42, 3) := by decide +kernel
theorem dX0_answer_62 : decode cX0_answer 62 = .ok (.iload 5, 2) := by decide +kernel
theorem dX0_answer_64 : decode cX0_answer 64 = .ok (.iaload, 1) := by decide +kernel
theorem dX0_answer_65 : decode cX0_answer 65 = .ok (.bipush 60, 2) := by decide +kernel
theorem dX0_answer_67 : decode cX0_answer 67 = .ok (.if_icmp .gt 54, 3) := by decide +kernel
theorem dX0_answer_70 : decode cX0_answer 70 = .ok (.aload_n 0, 1) := by decide +kernel
theorem dX0_answer_71 : decode cX0_answer 71 = .ok (.getfield 42, 3) := by decide +kernel
theorem dX0_answer_74 : decode cX0_answer 74 = .ok (.iload 5, 2) := by decide +kernel
theorem dX0_answer_76 : decode cX0_answer 76 = .ok (.iaload, 1) := by decide +kernel
theorem dX0_answer_77 : decode cX0_answer 77 = .ok (.iload_n 2, 1) := by decide +kernel
theorem dX0_answer_78 : decode cX0_answer 78 = .ok (.if_icmp .le 6, 3) := by decide +kernel
theorem dX0_answer_81 : decode cX0_answer 81 = .ok (.goto 40, 3) := by decide +kernel
theorem dX0_answer_84 : decode cX0_answer 84 = .ok (.aload_n 0, 1) := by decide +kernel
theorem dX0_answer_85 : decode cX0_answer 85 = .ok (.getfield 42, 3) := by decide +kernel
theorem dX0_answer_88 : decode cX0_answer 88 = .ok (.iload 5, 2) := by decide +kernel
theorem dX0_answer_90 : decode cX0_answer 90 = .ok (.iaload, 1) := by decide +kernel
theorem dX0_answer_91 : decode cX0_answer 91 = .ok (.iload_n 2, 1) := by decide +kernel
theorem dX0_answer_92 : decode cX0_answer 92 = .ok (.if_icmp .ge 14, 3) := by decide +kernel
theorem dX0_answer_95 : decode cX0_answer 95 = .ok (.aload_n 0, 1) := by decide +kernel
theorem dX0_answer_96 : decode cX0_answer 96 = .ok (.getfield 42, 3) := by decide +kernel
theorem dX0_answer_99 : decode cX0_answer 99 = .ok (.iload 5, 2) := by decide +kernel
theorem dX0_answer_101 : decode cX0_answer 101 = .ok (.iaload, 1) := by decide +kernel
theorem dX0_answer_102 : decode cX0_answer 102 = .ok (.istore_n 2, 1) := by decide +kernel
theorem dX0_answer_103 : decode cX0_answer 103 = .ok (.ldc 79, 2) := by decide +kernel
theorem dX0_answer_105 : decode cX0_answer 105 = .ok (.istore_n 3, 1) := by decide +kernel
theorem dX0_answer_106 : decode cX0_answer 106 = .ok (.iload_n 3, 1) := by decide +kernel
theorem dX0_answer_107 : decode cX0_answer 107 = .ok (.aload_n 0, 1) := by decide +kernel
theorem dX0_answer_108 : decode cX0_answer 108 = .ok (.getfield 45, 3) := by decide +kernel
theorem dX0_answer_111 : decode cX0_answer 111 = .ok (.iload 5, 2) := by decide +kernel
theorem dX0_answer_113 : decode cX0_answer 113 = .ok (.iaload, 1) := by decide +kernel
theorem dX0_answer_114 : decode cX0_answer 114 = .ok (.iload 6, 2) := by decide +kernel
theorem dX0_answer_116 : decode cX0_answer 116 = .ok (.iadd, 1) := by decide +kernel
theorem dX0_answer_117 : decode cX0_answer 117 = .ok (.invokestatic 111, 3) := by decide +kernel
theorem dX0_answer_120 : decode cX0_answer 120 = .ok (.istore_n 3, 1) := by decide +kernel
theorem dX0_answer_121 : decode cX0_answer 121 = .ok (.iinc 4 1, 3) := by decide +kernel
theorem dX0_answer_124 : decode cX0_answer 124 = .ok (.goto (-115), 3) := by decide +kernel
theorem dX0_answer_127 : decode cX0_answer 127 = .ok (.aload_n 0, 1) := by decide +kernel
theorem dX0_answer_128 : decode cX0_answer 128 = .ok (.getfield 19, 3) := by decide +kernel
theorem dX0_answer_131 : decode cX0_answer 131 = .ok (.iload_n 1, 1) := by decide +kernel
theorem dX0_answer_132 : decode cX0_answer 132 = .ok (.iload_n 2, 1) := by decide +kernel
theorem dX0_answer_133 : decode cX0_answer 133 = .ok (.ldc 79, 2) := by decide +kernel
theorem dX0_answer_135 : decode cX0_answer 135 = .ok (.if_icmp .ne 7, 3) := by decide +kernel
theorem dX0_answer_138 : decode cX0_answer 138 = .ok (.iconst (-1), 1) := by decide +kernel
theorem dX0_answer_139 : decode cX0_answer 139 = .ok (.goto 4, 3) := by decide +kernel
theorem dX0_answer_142 : decode cX0_answer 142 = .ok (.iload_n 2, 1) := by decide +kernel
theorem dX0_answer_143 : decode cX0_answer 143 = .ok (.iastore, 1) := by decide +kernel
theorem dX0_answer_144 : decode cX0_answer 144 = .ok (.aload_n 0, 1) := by decide +kernel
theorem dX0_answer_145 : decode cX0_answer 145 = .ok (.getfield 22, 3) := by decide +kernel
theorem dX0_answer_148 : decode cX0_answer 148 = .ok (.iload_n 1, 1) := by decide +kernel
theorem dX0_answer_149 : decode cX0_answer 149 = .ok (.iload_n 2, 1) := by decide +kernel
theorem dX0_answer_150 : decode cX0_answer 150 = .ok (.ldc 79, 2) := by decide +kernel
theorem dX0_answer_152 : decode cX0_answer 152 = .ok (.if_icmp .ne 7, 3) := by decide +kernel
theorem dX0_answer_155 : decode cX0_answer 155 = .ok (.iconst (-1), 1) := by decide +kernel
theorem dX0_answer_156 : decode cX0_answer 156 = .ok (.goto 4, 3) := by decide +kernel
theorem dX0_answer_159 : decode cX0_answer 159 = .ok (.iload_n 3, 1) := by decide +kernel
theorem dX0_answer_160 : decode cX0_answer 160 = .ok (.iastore, 1) := by decide +kernel
theorem dX0_answer_161 : decode cX0_answer 161 = .ok (.return_, 1) := by decide +kernel
theorem dX1_init_0 : decode cX1_init 0 = .ok (.aload_n 0, 1) := by decide +kernel
theorem dX1_init_1 : decode cX1_init 1 = .ok (.invokespecial 3, 3) := by decide +kernel
theorem dX1_init_4 : decode cX1_init 4 = .ok (.aload_n 0, 1) := by decide +kernel
theorem dX1_init_5 : decode cX1_init 5 = .ok (.iconst 0, 1) := by decide +kernel
theorem dX1_init_6 : decode cX1_init 6 = .ok (.putfield 9, 3) := by decide +kernel
theorem dX1_init_9 : decode cX1_init 9 = .ok (.aload_n 0, 1) := by decide +kernel
theorem dX1_init_10 : decode cX1_init 10 = .ok (.iconst 1, 1) := by decide +kernel
theorem dX1_init_11 : decode cX1_init 11 = .ok (.putfield 15, 3) := by decide +kernel
theorem dX1_init_14 : decode cX1_init 14 = .ok (.aload_n 0, 1) := by decide +kernel
theorem dX1_init_15 : decode cX1_init 15 = .ok (.iconst 1, 1) := by decide +kernel
theorem dX1_init_16 : decode cX1_init 16 = .ok (.putfield 18, 3) := by decide +kernel
theorem dX1_init_19 : decode cX1_init 19 = .ok (.aload_n 0, 1) := by decide +kernel
theorem dX1_init_20 : decode cX1_init 20 = .ok (.iconst 1, 1) := by decide +kernel
theorem dX1_init_21 : decode cX1_init 21 = .ok (.putfield 22, 3) := by decide +kernel
theorem dX1_init_24 : decode cX1_init 24 = .ok (.aload_n 0, 1) := by decide +kernel
theorem dX1_init_25 : decode cX1_init 25 = .ok (.iconst 4, 1) := by decide +kernel
theorem dX1_init_26 : decode cX1_init 26 = .ok (.newarray .int, 2) := by decide +kernel
theorem dX1_init_28 : decode cX1_init 28 = .ok (.putfield 25, 3) := by decide +kernel
theorem dX1_init_31 : decode cX1_init 31 = .ok (.aload_n 0, 1) := by decide +kernel
theorem dX1_init_32 : decode cX1_init 32 = .ok (.iconst 4, 1) := by decide +kernel
theorem dX1_init_33 : decode cX1_init 33 = .ok (.newarray .int, 2) := by decide +kernel
theorem dX1_init_35 : decode cX1_init 35 = .ok (.putfield 29, 3) := by decide +kernel
theorem dX1_init_38 : decode cX1_init 38 = .ok (.aload_n 0, 1) := by decide +kernel
theorem dX1_init_39 : decode cX1_init 39 = .ok (.iconst 4, 1) := by decide +kernel
theorem dX1_init_40 : decode cX1_init 40 = .ok (.newarray .int, 2) := by decide +kernel
theorem dX1_init_42 : decode cX1_init 42 = .ok (.putfield 32, 3) := by decide +kernel
theorem dX1_init_45 : decode cX1_init 45 = .ok (.return_, 1) := by decide +kernel
theorem dX1_has_0 : decode cX1_has 0 = .ok (.iload_n 1, 1) := by decide +kernel
theorem dX1_has_1 : decode cX1_has 1 = .ok (.ifCond .lt 20, 3) := by decide +kernel
theorem dX1_has_4 : decode cX1_has 4 = .ok (.iload_n 1, 1) := by decide +kernel
theorem dX1_has_5 : decode cX1_has 5 = .ok (.aload_n 0, 1) := by decide +kernel
theorem dX1_has_6 : decode cX1_has 6 = .ok (.getfield 9, 3) := by decide +kernel
theorem dX1_has_9 : decode cX1_has 9 = .ok (.if_icmp .ge 12, 3) := by decide +kernel
theorem dX1_has_12 : decode cX1_has 12 = .ok (.iload_n 1, 1) := by decide +kernel
theorem dX1_has_13 : decode cX1_has 13 = .ok (.iconst 4, 1) := by decide +kernel
theorem dX1_has_14 : decode cX1_has 14 = .ok (.if_icmp .ge 7, 3) := by decide +kernel
theorem dX1_has_17 : decode cX1_has 17 = .ok (.iconst 1, 1) := by decide +kernel
theorem dX1_has_18 : decode cX1_has 18 = .ok (.goto 4, 3) := by decide +kernel
theorem dX1_has_21 : decode cX1_has 21 = .ok (.iconst 0, 1) := by decide +kernel
theorem dX1_has_22 : decode cX1_has 22 = .ok (.ireturn, 1) := by decide +kernel
theorem dX1_add_0 : decode cX1_add 0 = .ok (.aload_n 0, 1) := by decide +kernel
theorem dX1_add_1 : decode cX1_add 1 = .ok (.getfield 9, 3) := by decide +kernel
theorem dX1_add_4 : decode cX1_add 4 = .ok (.iconst 4, 1) := by decide +kernel
theorem dX1_add_5 : decode cX1_add 5 = .ok (.if_icmp .lt 6, 3) := by decide +kernel
theorem dX1_add_8 : decode cX1_add 8 = .ok (.bipush (-4), 2) := by decide +kernel
theorem dX1_add_10 : decode cX1_add 10 = .ok (.ireturn, 1) := by decide +kernel
theorem dX1_add_11 : decode cX1_add 11 = .ok (.aload_n 0, 1) := by decide +kernel
theorem dX1_add_12 : decode cX1_add 12 = .ok (.getfield 25, 3) := by decide +kernel
theorem dX1_add_15 : decode cX1_add 15 = .ok (.aload_n 0, 1) := by decide +kernel
theorem dX1_add_16 : decode cX1_add 16 = .ok (.getfield 9, 3) := by decide +kernel
theorem dX1_add_19 : decode cX1_add 19 = .ok (.iload_n 1, 1) := by decide +kernel
theorem dX1_add_20 : decode cX1_add 20 = .ok (.iastore, 1) := by decide +kernel
theorem dX1_add_21 : decode cX1_add 21 = .ok (.aload_n 0, 1) := by decide +kernel
theorem dX1_add_22 : decode cX1_add 22 = .ok (.getfield 29, 3) := by decide +kernel
theorem dX1_add_25 : decode cX1_add 25 = .ok (.aload_n 0, 1) := by decide +kernel
theorem dX1_add_26 : decode cX1_add 26 = .ok (.getfield 9, 3) := by decide +kernel
theorem dX1_add_29 : decode cX1_add 29 = .ok (.iload_n 2, 1) := by decide +kernel
theorem dX1_add_30 : decode cX1_add 30 = .ok (.iastore, 1) := by decide +kernel
theorem dX1_add_31 : decode cX1_add 31 = .ok (.aload_n 0, 1) := by decide +kernel
theorem dX1_add_32 : decode cX1_add 32 = .ok (.getfield 32, 3) := by decide +kernel
theorem dX1_add_35 : decode cX1_add 35 = .ok (.aload_n 0, 1) := by decide +kernel
theorem dX1_add_36 : decode cX1_add 36 = .ok (.getfield 9, 3) := by decide +kernel
theorem dX1_add_39 : decode cX1_add 39 = .ok (.aload_n 0, 1) := by decide +kernel
theorem dX1_add_40 : decode cX1_add 40 = .ok (.getfield 15, 3) := by decide +kernel
theorem dX1_add_43 : decode cX1_add 43 = .ok (.iastore, 1) := by decide +kernel
theorem dX1_add_44 : decode cX1_add 44 = .ok (.aload_n 0, 1) := by decide +kernel
theorem dX1_add_45 : decode cX1_add 45 = .ok (.dup, 1) := by decide +kernel
theorem dX1_add_46 : decode cX1_add 46 = .ok (.getfield 15, 3) := by decide +kernel
theorem dX1_add_49 : decode cX1_add 49 = .ok (.iload_n 1, 1) := by decide +kernel
theorem dX1_add_50 : decode cX1_add 50 = .ok (.iconst 1, 1) := by decide +kernel
theorem dX1_add_51 : decode cX1_add 51 = .ok (.iadd, 1) := by decide +kernel
theorem dX1_add_52 : decode cX1_add 52 = .ok (.imul, 1) := by decide +kernel
theorem dX1_add_53 : decode cX1_add 53 = .ok (.putfield 15, 3) := by decide +kernel
theorem dX1_add_56 : decode cX1_add 56 = .ok (.aload_n 0, 1) := by decide +kernel
theorem dX1_add_57 : decode cX1_add 57 = .ok (.dup, 1) := by decide +kernel
theorem dX1_add_58 : decode cX1_add 58 = .ok (.getfield 9, 3) := by decide +kernel
theorem dX1_add_61 : decode cX1_add 61 = .ok (.iconst 1, 1) := by decide +kernel
theorem dX1_add_62 : decode cX1_add 62 = .ok (.iadd, 1) := by decide +kernel
theorem dX1_add_63 : decode cX1_add 63 = .ok (.putfield 9, 3) := by decide +kernel
theorem dX1_add_66 : decode cX1_add 66 = .ok (.aload_n 0, 1) := by decide +kernel
theorem dX1_add_67 : decode cX1_add 67 = .ok (.getfield 9, 3) := by decide +kernel
theorem dX1_add_70 : decode cX1_add 70 = .ok (.iconst 1, 1) := by decide +kernel
theorem dX1_add_71 : decode cX1_add 71 = .ok (.isub, 1) := by decide +kernel
theorem dX1_add_72 : decode cX1_add 72 = .ok (.ireturn, 1) := by decide +kernel
theorem dX1_removeAll_0 : decode cX1_removeAll 0 = .ok (.aload_n 0, 1) := by decide +kernel
theorem dX1_removeAll_1 : decode cX1_removeAll 1 = .ok (.getfield 9, 3) := by decide +kernel
theorem dX1_removeAll_4 : decode cX1_removeAll 4 = .ok (.istore_n 1, 1) := by decide +kernel
theorem dX1_removeAll_5 : decode cX1_removeAll 5 = .ok (.aload_n 0, 1) := by decide +kernel
theorem dX1_removeAll_6 : decode cX1_removeAll 6 = .ok (.iconst 0, 1) := by decide +kernel
theorem dX1_removeAll_7 : decode cX1_removeAll 7 = .ok (.putfield 9, 3) := by decide +kernel
theorem dX1_removeAll_10 : decode cX1_removeAll 10 = .ok (.aload_n 0, 1) := by decide +kernel
theorem dX1_removeAll_11 : decode cX1_removeAll 11 = .ok (.iconst 1, 1) := by decide +kernel
theorem dX1_removeAll_12 : decode cX1_removeAll 12 = .ok (.putfield 15, 3) := by decide +kernel
theorem dX1_removeAll_15 : decode cX1_removeAll 15 = .ok (.iload_n 1, 1) := by decide +kernel
theorem dX1_removeAll_16 : decode cX1_removeAll 16 = .ok (.ireturn, 1) := by decide +kernel
theorem dX1_liken_0 : decode cX1_liken 0 = .ok (.aload_n 0, 1) := by decide +kernel
theorem dX1_liken_1 : decode cX1_liken 1 = .ok (.aload_n 1, 1) := by decide +kernel
theorem dX1_liken_2 : decode cX1_liken 2 = .ok (.getfield 9, 3) := by decide +kernel
theorem dX1_liken_5 : decode cX1_liken 5 = .ok (.putfield 9, 3) := by decide +kernel
theorem dX1_liken_8 : decode cX1_liken 8 = .ok (.aload_n 0, 1) := by decide +kernel
theorem dX1_liken_9 : decode cX1_liken 9 = .ok (.aload_n 1, 1) := by decide +kernel
theorem dX1_liken_10 : decode cX1_liken 10 = .ok (.getfield 15, 3) := by decide +kernel
theorem dX1_liken_13 : decode cX1_liken 13 = .ok (.putfield 15, 3) := by decide +kernel
theorem dX1_liken_16 : decode cX1_liken 16 = .ok (.aload_n 0, 1) := by decide +kernel
theorem dX1_liken_17 : decode cX1_liken 17 = .ok (.aload_n 1, 1) := by decide +kernel
theorem dX1_liken_18 : decode cX1_liken 18 = .ok (.getfield 18, 3) := by decide +kernel
theorem dX1_liken_21 : decode cX1_liken 21 = .ok (.putfield 18, 3) := by decide +kernel
theorem dX1_liken_24 : decode cX1_liken 24 = .ok (.aload_n 0, 1) := by decide +kernel
theorem dX1_liken_25 : decode cX1_liken 25 = .ok (.aload_n 1, 1) := by decide +kernel
theorem dX1_liken_26 : decode cX1_liken 26 = .ok (.getfield 22, 3) := by decide +kernel
theorem dX1_liken_29 : decode cX1_liken 29 = .ok (.putfield 22, 3) := by decide +kernel
theorem dX1_liken_32 : decode cX1_liken 32 = .ok (.iconst 0, 1) := by decide +kernel
theorem dX1_liken_33 : decode cX1_liken 33 = .ok (.istore_n 2, 1) := by decide +kernel
theorem dX1_liken_34 : decode cX1_liken 34 = .ok (.iload_n 2, 1) := by decide +kernel
theorem dX1_liken_35 : decode cX1_liken 35 = .ok (.iconst 4, 1) := by decide +kernel
theorem dX1_liken_36 : decode cX1_liken 36 = .ok (.if_icmp .ge 45, 3) := by decide +kernel
theorem dX1_liken_39 : decode cX1_liken 39 = .ok (.aload_n 0, 1) := by decide +kernel
theorem dX1_liken_40 : decode cX1_liken 40 = .ok (.getfield 25, 3) := by decide +kernel
theorem dX1_liken_43 : decode cX1_liken 43 = .ok (.iload_n 2, 1) := by decide +kernel
theorem dX1_liken_44 : decode cX1_liken 44 = .ok (.aload_n 1, 1) := by decide +kernel
theorem dX1_liken_45 : decode cX1_liken 45 = .ok (.getfield 25, 3) := by decide +kernel
theorem dX1_liken_48 : decode cX1_liken 48 = .ok (.iload_n 2, 1) := by decide +kernel
theorem dX1_liken_49 : decode cX1_liken 49 = .ok (.iaload, 1) := by decide +kernel
theorem dX1_liken_50 : decode cX1_liken 50 = .ok (.iastore, 1) := by decide +kernel
theorem dX1_liken_51 : decode cX1_liken 51 = .ok (.aload_n 0, 1) := by decide +kernel
theorem dX1_liken_52 : decode cX1_liken 52 = .ok (.getfield 29, 3) := by decide +kernel
theorem dX1_liken_55 : decode cX1_liken 55 = .ok (.iload_n 2, 1) := by decide +kernel
theorem dX1_liken_56 : decode cX1_liken 56 = .ok (.aload_n 1, 1) := by decide +kernel
theorem dX1_liken_57 : decode cX1_liken 57 = .ok (.getfield 29, 3) := by decide +kernel
theorem dX1_liken_60 : decode cX1_liken 60 = .ok (.iload_n 2, 1) := by decide +kernel
theorem dX1_liken_61 : decode cX1_liken 61 = .ok (.iaload, 1) := by decide +kernel
theorem dX1_liken_62 : decode cX1_liken 62 = .ok (.iastore, 1) := by decide +kernel
theorem dX1_liken_63 : decode cX1_liken 63 = .ok (.aload_n 0, 1) := by decide +kernel
theorem dX1_liken_64 : decode cX1_liken 64 = .ok (.getfield 32, 3) := by decide +kernel
theorem dX1_liken_67 : decode cX1_liken 67 = .ok (.iload_n 2, 1) := by decide +kernel
theorem dX1_liken_68 : decode cX1_liken 68 = .ok (.aload_n 1, 1) := by decide +kernel
theorem dX1_liken_69 : decode cX1_liken 69 = .ok (.getfield 32, 3) := by decide +kernel
theorem dX1_liken_72 : decode cX1_liken 72 = .ok (.iload_n 2, 1) := by decide +kernel
theorem dX1_liken_73 : decode cX1_liken 73 = .ok (.iaload, 1) := by decide +kernel
theorem dX1_liken_74 : decode cX1_liken 74 = .ok (.iastore, 1) := by decide +kernel
theorem dX1_liken_75 : decode cX1_liken 75 = .ok (.iinc 2 1, 3) := by decide +kernel
theorem dX1_liken_78 : decode cX1_liken 78 = .ok (.goto (-44), 3) := by decide +kernel
theorem dX1_liken_81 : decode cX1_liken 81 = .ok (.return_, 1) := by decide +kernel
theorem dX1_haveAct_0 : decode cX1_haveAct 0 = .ok (.iload_n 1, 1) := by decide +kernel
theorem dX1_haveAct_1 : decode cX1_haveAct 1 = .ok (.ifCond .lt 50, 3) := by decide +kernel
theorem dX1_haveAct_4 : decode cX1_haveAct 4 = .ok (.iload_n 1, 1) := by decide +kernel
theorem dX1_haveAct_5 : decode cX1_haveAct 5 = .ok (.bipush 24, 2) := by decide +kernel
theorem dX1_haveAct_7 : decode cX1_haveAct 7 = .ok (.if_icmp .ge 44, 3) := by decide +kernel
theorem dX1_haveAct_10 : decode cX1_haveAct 10 = .ok (.getstatic 35, 3) := by decide +kernel
theorem dX1_haveAct_13 : decode cX1_haveAct 13 = .ok (.iload_n 1, 1) := by decide +kernel
theorem dX1_haveAct_14 : decode cX1_haveAct 14 = .ok (.iaload, 1) := by decide +kernel
theorem dX1_haveAct_15 : decode cX1_haveAct 15 = .ok (.aload_n 0, 1) := by decide +kernel
theorem dX1_haveAct_16 : decode cX1_haveAct 16 = .ok (.getfield 9, 3) := by decide +kernel
theorem dX1_haveAct_19 : decode cX1_haveAct 19 = .ok (.if_icmp .ge 32, 3) := by decide +kernel
theorem dX1_haveAct_22 : decode cX1_haveAct 22 = .ok (.getstatic 38, 3) := by decide +kernel
theorem dX1_haveAct_25 : decode cX1_haveAct 25 = .ok (.iload_n 1, 1) := by decide +kernel
theorem dX1_haveAct_26 : decode cX1_haveAct 26 = .ok (.iaload, 1) := by decide +kernel
theorem dX1_haveAct_27 : decode cX1_haveAct 27 = .ok (.aload_n 0, 1) := by decide +kernel
theorem dX1_haveAct_28 : decode cX1_haveAct 28 = .ok (.getfield 9, 3) := by decide +kernel
theorem dX1_haveAct_31 : decode cX1_haveAct 31 = .ok (.if_icmp .ge 20, 3) := by decide +kernel
theorem dX1_haveAct_34 : decode cX1_haveAct 34 = .ok (.getstatic 35, 3) := by decide +kernel
theorem dX1_haveAct_37 : decode cX1_haveAct 37 = .ok (.iload_n 1, 1) := by decide +kernel
theorem dX1_haveAct_38 : decode cX1_haveAct 38 = .ok (.iaload, 1) := by decide +kernel
theorem dX1_haveAct_39 : decode cX1_haveAct 39 = .ok (.getstatic 38, 3) := by decide +kernel
theorem dX1_haveAct_42 : decode cX1_haveAct 42 = .ok (.iload_n 1, 1) := by decide +kernel
theorem dX1_haveAct_43 : decode cX1_haveAct 43 = .ok (.iaload, 1) := by decide +kernel
theorem dX1_haveAct_44 : decode cX1_haveAct 44 = .ok (.if_icmp .eq 7, 3) := by decide +kernel
theorem dX1_haveAct_47 : decode cX1_haveAct 47 = .ok (.iconst 1, 1) := by decide +kernel
theorem dX1_haveAct_48 : decode cX1_haveAct 48 = .ok (.goto 4, 3) := by decide +kernel
theorem dX1_haveAct_51 : decode cX1_haveAct 51 = .ok (.iconst 0, 1) := by decide +kernel
theorem dX1_haveAct_52 : decode cX1_haveAct 52 = .ok (.ireturn, 1) := by decide +kernel
theorem dX1_moved_0 : decode cX1_moved 0 = .ok (.iload_n 1, 1) := by decide +kernel
theorem dX1_moved_1 : decode cX1_moved 1 = .ok (.ifCond .lt 9, 3) := by decide +kernel
theorem dX1_moved_4 : decode cX1_moved 4 = .ok (.iload_n 1, 1) := by decide +kernel
theorem dX1_moved_5 : decode cX1_moved 5 = .ok (.bipush 24, 2) := by decide +kernel
theorem dX1_moved_7 : decode cX1_moved 7 = .ok (.if_icmp .lt 5, 3) := by decide +kernel
theorem dX1_moved_10 : decode cX1_moved 10 = .ok (.iconst 0, 1) := by decide +kernel
theorem dX1_moved_11 : decode cX1_moved 11 = .ok (.ireturn, 1) := by decide +kernel
theorem dX1_moved_12 : decode cX1_moved 12 = .ok (.getstatic 35, 3) := by decide +kernel
theorem dX1_moved_15 : decode cX1_moved 15 = .ok (.iload_n 1, 1) := by decide +kernel
theorem dX1_moved_16 : decode cX1_moved 16 = .ok (.iaload, 1) := by decide +kernel
theorem dX1_moved_17 : decode cX1_moved 17 = .ok (.istore_n 2, 1) := by decide +kernel
theorem dX1_moved_18 : decode cX1_moved 18 = .ok (.getstatic 38, 3) := by decide +kernel
theorem dX1_moved_21 : decode cX1_moved 21 = .ok (.iload_n 1, 1) := by decide +kernel
theorem dX1_moved_22 : decode cX1_moved 22 = .ok (.iaload, 1) := by decide +kernel
theorem dX1_moved_23 : decode cX1_moved 23 = .ok (.istore_n 3, 1) := by decide +kernel
theorem dX1_moved_24 : decode cX1_moved 24 = .ok (.iload_n 2, 1) := by decide +kernel
theorem dX1_moved_25 : decode cX1_moved 25 = .ok (.aload_n 0, 1) := by decide +kernel
theorem dX1_moved_26 : decode cX1_moved 26 = .ok (.getfield 9, 3) := by decide +kernel
theorem dX1_moved_29 : decode cX1_moved 29 = .ok (.if_icmp .ge 16, 3) := by decide +kernel
theorem dX1_moved_32 : decode cX1_moved 32 = .ok (.iload_n 3, 1) := by decide +kernel
theorem dX1_moved_33 : decode cX1_moved 33 = .ok (.aload_n 0, 1) := by decide +kernel
theorem dX1_moved_34 : decode cX1_moved 34 = .ok (.getfield 9, 3) := by decide +kernel
theorem dX1_moved_37 : decode cX1_moved 37 = .ok (.if_icmp .ge 8, 3) := by decide +kernel
theorem dX1_moved_40 : decode cX1_moved 40 = .ok (.iload_n 2, 1) := by decide +kernel
theorem dX1_moved_41 : decode cX1_moved 41 = .ok (.iload_n 3, 1) := by decide +kernel
theorem dX1_moved_42 : decode cX1_moved 42 = .ok (.if_icmp .ne 5, 3) := by decide +kernel
theorem dX1_moved_45 : decode cX1_moved 45 = .ok (.iconst 0, 1) := by decide +kernel
theorem dX1_moved_46 : decode cX1_moved 46 = .ok (.ireturn, 1) := by decide +kernel
theorem dX1_moved_47 : decode cX1_moved 47 = .ok (.iload_n 2, 1) := by decide +kernel
theorem dX1_moved_48 : decode cX1_moved 48 = .ok (.ifCond .lt 12, 3) := by decide +kernel
theorem dX1_moved_51 : decode cX1_moved 51 = .ok (.aload_n 0, 1) := by decide +kernel
theorem dX1_moved_52 : decode cX1_moved 52 = .ok (.getfield 29, 3) := by decide +kernel
theorem dX1_moved_55 : decode cX1_moved 55 = .ok (.iload_n 2, 1) := by decide +kernel
theorem dX1_moved_56 : decode cX1_moved 56 = .ok (.iaload, 1) := by decide +kernel
theorem dX1_moved_57 : decode cX1_moved 57 = .ok (.goto 16, 3) := by decide +kernel
theorem dX1_moved_60 : decode cX1_moved 60 = .ok (.aload_n 0, 1) := by decide +kernel
theorem dX1_moved_61 : decode cX1_moved 61 = .ok (.getfield 18, 3) := by decide +kernel
theorem dX1_moved_64 : decode cX1_moved 64 = .ok (.ifCond .eq 8, 3) := by decide +kernel
theorem dX1_moved_67 : decode cX1_moved 67 = .ok (.bipush 10, 2) := by decide +kernel
theorem dX1_moved_69 : decode cX1_moved 69 = .ok (.goto 4, 3) := by decide +kernel
theorem dX1_moved_72 : decode cX1_moved 72 = .ok (.iconst 0, 1) := by decide +kernel
theorem dX1_moved_73 : decode cX1_moved 73 = .ok (.istore 4, 2) := by decide +kernel
theorem dX1_moved_75 : decode cX1_moved 75 = .ok (.iload_n 3, 1) := by decide +kernel
theorem dX1_moved_76 : decode cX1_moved 76 = .ok (.ifCond .lt 19, 3) := by decide +kernel
theorem dX1_moved_79 : decode cX1_moved 79 = .ok (.aload_n 0, 1) := by decide +kernel
theorem dX1_moved_80 : decode cX1_moved 80 = .ok (.getfield 25, 3) := by decide +kernel
theorem dX1_moved_83 : decode cX1_moved 83 = .ok (.iload_n 3, 1) := by decide +kernel
theorem dX1_moved_84 : decode cX1_moved 84 = .ok (.iaload, 1) := by decide +kernel
theorem dX1_moved_85 : decode cX1_moved 85 = .ok (.aload_n 0, 1) := by decide +kernel
theorem dX1_moved_86 : decode cX1_moved 86 = .ok (.getfield 29, 3) := by decide +kernel
theorem dX1_moved_89 : decode cX1_moved 89 = .ok (.iload_n 3, 1) := by decide +kernel
theorem dX1_moved_90 : decode cX1_moved 90 = .ok (.iaload, 1) := by decide +kernel
theorem dX1_moved_91 : decode cX1_moved 91 = .ok (.isub, 1) := by decide +kernel
theorem dX1_moved_92 : decode cX1_moved 92 = .ok (.goto 16, 3) := by decide +kernel
theorem dX1_moved_95 : decode cX1_moved 95 = .ok (.aload_n 0, 1) := by decide +kernel
theorem dX1_moved_96 : decode cX1_moved 96 = .ok (.getfield 22, 3) := by decide +kernel
theorem dX1_moved_99 : decode cX1_moved 99 = .ok (.ifCond .eq 8, 3) := by decide +kernel
theorem dX1_moved_102 : decode cX1_moved 102 = .ok (.bipush 10, 2) := by decide +kernel
theorem dX1_moved_104 : decode cX1_moved 104 = .ok (.goto 4, 3) := by decide +kernel
theorem dX1_moved_107 : decode cX1_moved 107 = .ok (.iconst 0, 1) := by decide +kernel
theorem dX1_moved_108 : decode cX1_moved 108 = .ok (.istore 5, 2) := by decide +kernel
theorem dX1_moved_110 : decode cX1_moved 110 = .ok (.iload 4, 2) := by decide +kernel
theorem dX1_moved_112 : decode cX1_moved 112 = .ok (.iload 5, 2) := by decide +kernel
theorem dX1_moved_114 : decode cX1_moved 114 = .ok (.if_icmp .ge 8, 3) := by decide +kernel
theorem dX1_moved_117 : decode cX1_moved 117 = .ok (.iload 4, 2) := by decide +kernel
theorem dX1_moved_119 : decode cX1_moved 119 = .ok (.goto 5, 3) := by decide +kernel
theorem dX1_moved_122 : decode cX1_moved 122 = .ok (.iload 5, 2) := by decide +kernel
theorem dX1_moved_124 : decode cX1_moved 124 = .ok (.ireturn, 1) := by decide +kernel
set_option maxRecDepth 20000 in
theorem ggX1_move_X1_haveAct : GoodIn wsX1_move wsX1_haveAct := goodIn_r _ [6, 7, 8, 9, 10, 11, 12, 13, 14] (by decide +kernel) (by decide +kernel)
set_option maxRecDepth 20000 in
theorem gX1_move_X1_haveAct : GoodIn wsX1_move (wsV RX1 41 RX1 yX1_haveAct wsX1_haveAct) := goodIn_app (goodIn_of _ (by decide +kernel)) ggX1_move_X1_haveAct
theorem dX1_move_0 : decode cX1_move 0 = .ok (.aload_n 0, 1) := by decide +kernel
theorem dX1_move_1 : decode cX1_move 1 = .ok (.iload_n 1, 1) := by decide +kernel
theorem dX1_move_2 : decode cX1_move 2 = .ok (.invokevirtual 41, 3) := by decide +kernel
theorem dX1_move_5 : decode cX1_move 5 = .ok (.ifCond .ne 4, 3) := by decide +kernel
theorem dX1_move_8 : decode cX1_move 8 = .ok (.return_, 1) := by decide +kernel
theorem dX1_move_9 : decode cX1_move 9 = .ok (.getstatic 35, 3) := by decide +kernel
theorem dX1_move_12 : decode cX1_move 12 = .ok (.iload_n 1, 1) := by decide +kernel
theorem dX1_move_13 : decode cX1_move 13 = .ok (.iaload, 1) := by decide +kernel
theorem dX1_move_14 : decode cX1_move 14 = .ok (.ifCond .lt 17, 3) := by decide +kernel
theorem dX1_move_17 : decode cX1_move 17 = .ok (.aload_n 0, 1) := by decide +kernel
theorem dX1_move_18 : decode cX1_move 18 = .ok (.getfield 29, 3) := by decide +kernel
theorem dX1_move_21 : decode cX1_move 21 = .ok (.getstatic 35, 3) := by decide +kernel
theorem dX1_move_24 : decode cX1_move 24 = .ok (.iload_n 1, 1) := by decide +kernel
theorem dX1_move_25 : decode cX1_move 25 = .ok (.iaload, 1) := by decide +kernel
theorem dX1_move_26 : decode cX1_move 26 = .ok (.dup2, 1) := by decide +kernel
theorem dX1_move_27 : decode cX1_move 27 = .ok (.iaload, 1) := by decide +kernel
theorem dX1_move_28 : decode cX1_move 28 = .ok (.iload_n 2, 1) := by decide +kernel
theorem dX1_move_29 : decode cX1_move 29 = .ok (.isub, 1) := by decide +kernel
theorem dX1_move_30 : decode cX1_move 30 = .ok (.iastore, 1) := by decide +kernel
theorem dX1_move_31 : decode cX1_move 31 = .ok (.getstatic 38, 3) := by decide +kernel
theorem dX1_move_34 : decode cX1_move 34 = .ok (.iload_n 1, 1) := by decide +kernel
theorem dX1_move_35 : decode cX1_move 35 = .ok (.iaload, 1) := by decide +kernel
theorem dX1_move_36 : decode cX1_move 36 = .ok (.ifCond .lt 17, 3) := by decide +kernel
theorem dX1_move_39 : decode cX1_move 39 = .ok (.aload_n 0, 1) := by decide +kernel
theorem dX1_move_40 : decode cX1_move 40 = .ok (.getfield 29, 3) := by decide +kernel
theorem dX1_move_43 : decode cX1_move 43 = .ok (.getstatic 38, 3) := by decide +kernel
theorem dX1_move_46 : decode cX1_move 46 = .ok (.iload_n 1, 1) := by decide +kernel
theorem dX1_move_47 : decode cX1_move 47 = .ok (.iaload, 1) := by decide +kernel
theorem dX1_move_48 : decode cX1_move 48 = .ok (.dup2, 1) := by decide +kernel
theorem dX1_move_49 : decode cX1_move 49 = .ok (.iaload, 1) := by decide +kernel
theorem dX1_move_50 : decode cX1_move 50 = .ok (.iload_n 2, 1) := by decide +kernel
theorem dX1_move_51 : decode cX1_move 51 = .ok (.iadd, 1) := by decide +kernel
theorem dX1_move_52 : decode cX1_move 52 = .ok (.iastore, 1) := by decide +kernel
theorem dX1_move_53 : decode cX1_move 53 = .ok (.return_, 1) := by decide +kernel
set_option maxRecDepth 20000 in
theorem ggX1_shiftBy_X1_moved : GoodIn wsX1_shiftBy wsX1_moved := goodIn_r _ [6, 7, 8, 9, 10, 11, 12, 13, 14, 15, 16, 17, 18] (by decide +kernel) (by decide +kernel)
set_option maxRecDepth 20000 in
theorem gX1_shiftBy_X1_moved : GoodIn wsX1_shiftBy (wsV RX1 45 RX1 yX1_moved wsX1_moved) := goodIn_app (goodIn_of _ (by decide +kernel)) ggX1_shiftBy_X1_moved
theorem dX1_shiftBy_0 : decode cX1_shiftBy 0 = .ok (.aload_n 0, 1) := by decide +kernel
theorem dX1_shiftBy_1 : decode cX1_shiftBy 1 = .ok (.iload_n 1, 1) := by decide +kernel
theorem dX1_shiftBy_2 : decode cX1_shiftBy 2 = .ok (.invokevirtual 45, 3) := by decide +kernel
theorem dX1_shiftBy_5 : decode cX1_shiftBy 5 = .ok (.istore_n 2, 1) := by decide +kernel
theorem dX1_shiftBy_6 : decode cX1_shiftBy 6 = .ok (.iload_n 2, 1) := by decide +kernel
theorem dX1_shiftBy_7 : decode cX1_shiftBy 7 = .ok (.ifCond .ne 5, 3) := by decide +kernel
theorem dX1_shiftBy_10 : decode cX1_shiftBy 10 = .ok (.iconst 0, 1) := by decide +kernel
theorem dX1_shiftBy_11 : decode cX1_shiftBy 11 = .ok (.ireturn, 1) := by decide +kernel
theorem dX1_shiftBy_12 : decode cX1_shiftBy 12 = .ok (.getstatic 35, 3) := by decide +kernel
theorem dX1_shiftBy_15 : decode cX1_shiftBy 15 = .ok (.iload_n 1, 1) := by decide +kernel
theorem dX1_shiftBy_16 : decode cX1_shiftBy 16 = .ok (.iaload, 1) := by decide +kernel
theorem dX1_shiftBy_17 : decode cX1_shiftBy 17 = .ok (.ifCond .lt 16, 3) := by decide +kernel
theorem dX1_shiftBy_20 : decode cX1_shiftBy 20 = .ok (.aload_n 0, 1) := by decide +kernel
theorem dX1_shiftBy_21 : decode cX1_shiftBy 21 = .ok (.getfield 32, 3) := by decide +kernel
theorem dX1_shiftBy_24 : decode cX1_shiftBy 24 = .ok (.getstatic 35, 3) := by decide +kernel
theorem dX1_shiftBy_27 : decode cX1_shiftBy 27 = .ok (.iload_n 1, 1) := by decide +kernel
theorem dX1_shiftBy_28 : decode cX1_shiftBy 28 = .ok (.iaload, 1) := by decide +kernel
theorem dX1_shiftBy_29 : decode cX1_shiftBy 29 = .ok (.iaload, 1) := by decide +kernel
theorem dX1_shiftBy_30 : decode cX1_shiftBy 30 = .ok (.goto 4, 3) := by decide +kernel
theorem dX1_shiftBy_33 : decode cX1_shiftBy 33 = .ok (.iconst 0, 1) := by decide +kernel
theorem dX1_shiftBy_34 : decode cX1_shiftBy 34 = .ok (.istore_n 3, 1) := by decide +kernel
theorem dX1_shiftBy_35 : decode cX1_shiftBy 35 = .ok (.getstatic 38, 3) := by decide +kernel
theorem dX1_shiftBy_38 : decode cX1_shiftBy 38 = .ok (.iload_n 1, 1) := by decide +kernel
theorem dX1_shiftBy_39 : decode cX1_shiftBy 39 = .ok (.iaload, 1) := by decide +kernel
theorem dX1_shiftBy_40 : decode cX1_shiftBy 40 = .ok (.ifCond .lt 16, 3) := by decide +kernel
theorem dX1_shiftBy_43 : decode cX1_shiftBy 43 = .ok (.aload_n 0, 1) := by decide +kernel
theorem dX1_shiftBy_44 : decode cX1_shiftBy 44 = .ok (.getfield 32, 3) := by decide +kernel
theorem dX1_shiftBy_47 : decode cX1_shiftBy 47 = .ok (.getstatic 38, 3) := by decide +kernel
theorem dX1_shiftBy_50 : decode cX1_shiftBy 50 = .ok (.iload_n 1, 1) := by decide +kernel
theorem dX1_shiftBy_51 : decode cX1_shiftBy 51 = .ok (.iaload, 1) := by decide +kernel
theorem dX1_shiftBy_52 : decode cX1_shiftBy 52 = .ok (.iaload, 1) := by decide +kernel
theorem dX1_shiftBy_53 : decode cX1_shiftBy 53 = .ok (.goto 4, 3) := by decide +kernel
theorem dX1_shiftBy_56 : decode cX1_shiftBy 56 = .ok (.iconst 0, 1) := by decide +kernel
