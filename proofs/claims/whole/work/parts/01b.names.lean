theorem dX0_init_0 : decode cX0_init 0 = .ok (.aload_n 0, 1) := by decide +kernel
theorem dX0_init_1 : decode cX0_init 1 = .ok (.invokespecial 3, 3) := by decide +kernel
theorem dX0_init_4 : decode cX0_init 4 = .ok (.aload_n 0, 1) := by decide +kernel
theorem dX0_init_5 : decode cX0_init 5 = .ok (.iconst 0, 1) := by decide +kernel
theorem dX0_init_6 : decode cX0_init 6 = .ok (.putfield 9, 3) := by decide +kernel
theorem dX0_init_9 : decode cX0_init 9 = .ok (.aload_n 0, 1) := by decide +kernel
theorem dX0_init_10 : decode cX0_init 10 = .ok (.iconst 3, 1) := by decide +kernel
theorem dX0_init_11 : decode cX0_init 11 = .ok (.newarray .int, 2) := by decide +kernel
theorem dX0_init_13 : decode cX0_init 13 = .ok (.putfield 15, 3) := by decide +kernel
theorem dX0_init_16 : decode cX0_init 16 = .ok (.aload_n 0, 1) := by decide +kernel
theorem dX0_init_17 : decode cX0_init 17 = .ok (.bipush 41, 2) := by decide +kernel
theorem dX0_init_19 : decode cX0_init 19 = .ok (.newarray .int, 2) := by decide +kernel
theorem dX0_init_21 : decode cX0_init 21 = .ok (.putfield 19, 3) := by decide +kernel
theorem dX0_init_24 : decode cX0_init 24 = .ok (.aload_n 0, 1) := by decide +kernel
theorem dX0_init_25 : decode cX0_init 25 = .ok (.bipush 41, 2) := by decide +kernel
theorem dX0_init_27 : decode cX0_init 27 = .ok (.newarray .int, 2) := by decide +kernel
theorem dX0_init_29 : decode cX0_init 29 = .ok (.putfield 22, 3) := by decide +kernel
theorem dX0_init_32 : decode cX0_init 32 = .ok (.aload_n 0, 1) := by decide +kernel
theorem dX0_init_33 : decode cX0_init 33 = .ok (.iconst 0, 1) := by decide +kernel
theorem dX0_init_34 : decode cX0_init 34 = .ok (.putfield 25, 3) := by decide +kernel
theorem dX0_init_37 : decode cX0_init 37 = .ok (.aload_n 0, 1) := by decide +kernel
theorem dX0_init_38 : decode cX0_init 38 = .ok (.iconst 0, 1) := by decide +kernel
theorem dX0_init_39 : decode cX0_init 39 = .ok (.newarray .int, 2) := by decide +kernel
theorem dX0_init_41 : decode cX0_init 41 = .ok (.putfield 29, 3) := by decide +kernel
theorem dX0_init_44 : decode cX0_init 44 = .ok (.aload_n 0, 1) := by decide +kernel
theorem dX0_init_45 : decode cX0_init 45 = .ok (.iconst 0, 1) := by decide +kernel
theorem dX0_init_46 : decode cX0_init 46 = .ok (.newarray .boolean, 2) := by decide +kernel
theorem dX0_init_48 : decode cX0_init 48 = .ok (.putfield 32, 3) := by decide +kernel
theorem dX0_init_51 : decode cX0_init 51 = .ok (.aload_n 0, 1) := by decide +kernel
theorem dX0_init_52 : decode cX0_init 52 = .ok (.iconst 0, 1) := by decide +kernel
theorem dX0_init_53 : decode cX0_init 53 = .ok (.putfield 36, 3) := by decide +kernel
theorem dX0_init_56 : decode cX0_init 56 = .ok (.aload_n 0, 1) := by decide +kernel
theorem dX0_init_57 : decode cX0_init 57 = .ok (.iconst 0, 1) := by decide +kernel
theorem dX0_init_58 : decode cX0_init 58 = .ok (.newarray .int, 2) := by decide +kernel
theorem dX0_init_60 : decode cX0_init 60 = .ok (.putfield 39, 3) := by decide +kernel
theorem dX0_init_63 : decode cX0_init 63 = .ok (.aload_n 0, 1) := by decide +kernel
theorem dX0_init_64 : decode cX0_init 64 = .ok (.iconst 0, 1) := by decide +kernel
theorem dX0_init_65 : decode cX0_init 65 = .ok (.newarray .int, 2) := by decide +kernel
theorem dX0_init_67 : decode cX0_init 67 = .ok (.putfield 42, 3) := by decide +kernel
theorem dX0_init_70 : decode cX0_init 70 = .ok (.aload_n 0, 1) := by decide +kernel
theorem dX0_init_71 : decode cX0_init 71 = .ok (.iconst 0, 1) := by decide +kernel
theorem dX0_init_72 : decode cX0_init 72 = .ok (.newarray .int, 2) := by decide +kernel
theorem dX0_init_74 : decode cX0_init 74 = .ok (.putfield 45, 3) := by decide +kernel
theorem dX0_init_77 : decode cX0_init 77 = .ok (.aload_n 0, 1) := by decide +kernel
theorem dX0_init_78 : decode cX0_init 78 = .ok (.iconst 0, 1) := by decide +kernel
theorem dX0_init_79 : decode cX0_init 79 = .ok (.newarray .int, 2) := by decide +kernel
theorem dX0_init_81 : decode cX0_init 81 = .ok (.putfield 48, 3) := by decide +kernel
theorem dX0_init_84 : decode cX0_init 84 = .ok (.return_, 1) := by decide +kernel
theorem dX0_add_0 : decode cX0_add 0 = .ok (.aload_n 0, 1) := by decide +kernel
theorem dX0_add_1 : decode cX0_add 1 = .ok (.getfield 9, 3) := by decide +kernel
theorem dX0_add_4 : decode cX0_add 4 = .ok (.iconst 3, 1) := by decide +kernel
theorem dX0_add_5 : decode cX0_add 5 = .ok (.if_icmp .lt 6, 3) := by decide +kernel
theorem dX0_add_8 : decode cX0_add 8 = .ok (.bipush (-4), 2) := by decide +kernel
theorem dX0_add_10 : decode cX0_add 10 = .ok (.ireturn, 1) := by decide +kernel
theorem dX0_add_11 : decode cX0_add 11 = .ok (.aload_n 0, 1) := by decide +kernel
theorem dX0_add_12 : decode cX0_add 12 = .ok (.getfield 15, 3) := by decide +kernel
theorem dX0_add_15 : decode cX0_add 15 = .ok (.aload_n 0, 1) := by decide +kernel
theorem dX0_add_16 : decode cX0_add 16 = .ok (.getfield 9, 3) := by decide +kernel
theorem dX0_add_19 : decode cX0_add 19 = .ok (.iload_n 1, 1) := by decide +kernel
theorem dX0_add_20 : decode cX0_add 20 = .ok (.iastore, 1) := by decide +kernel
theorem dX0_add_21 : decode cX0_add 21 = .ok (.aload_n 0, 1) := by decide +kernel
theorem dX0_add_22 : decode cX0_add 22 = .ok (.dup, 1) := by decide +kernel
theorem dX0_add_23 : decode cX0_add 23 = .ok (.getfield 9, 3) := by decide +kernel
theorem dX0_add_26 : decode cX0_add 26 = .ok (.iconst 1, 1) := by decide +kernel
theorem dX0_add_27 : decode cX0_add 27 = .ok (.iadd, 1) := by decide +kernel
theorem dX0_add_28 : decode cX0_add 28 = .ok (.putfield 9, 3) := by decide +kernel
theorem dX0_add_31 : decode cX0_add 31 = .ok (.aload_n 0, 1) := by decide +kernel
theorem dX0_add_32 : decode cX0_add 32 = .ok (.iconst 0, 1) := by decide +kernel
theorem dX0_add_33 : decode cX0_add 33 = .ok (.putfield 25, 3) := by decide +kernel
theorem dX0_add_36 : decode cX0_add 36 = .ok (.aload_n 0, 1) := by decide +kernel
theorem dX0_add_37 : decode cX0_add 37 = .ok (.getfield 9, 3) := by decide +kernel
theorem dX0_add_40 : decode cX0_add 40 = .ok (.iconst 1, 1) := by decide +kernel
theorem dX0_add_41 : decode cX0_add 41 = .ok (.isub, 1) := by decide +kernel
theorem dX0_add_42 : decode cX0_add 42 = .ok (.ireturn, 1) := by decide +kernel
theorem dX0_removeAll_0 : decode cX0_removeAll 0 = .ok (.aload_n 0, 1) := by decide +kernel
theorem dX0_removeAll_1 : decode cX0_removeAll 1 = .ok (.getfield 9, 3) := by decide +kernel
theorem dX0_removeAll_4 : decode cX0_removeAll 4 = .ok (.istore_n 1, 1) := by decide +kernel
theorem dX0_removeAll_5 : decode cX0_removeAll 5 = .ok (.aload_n 0, 1) := by decide +kernel
theorem dX0_removeAll_6 : decode cX0_removeAll 6 = .ok (.iconst 0, 1) := by decide +kernel
theorem dX0_removeAll_7 : decode cX0_removeAll 7 = .ok (.putfield 9, 3) := by decide +kernel
theorem dX0_removeAll_10 : decode cX0_removeAll 10 = .ok (.aload_n 0, 1) := by decide +kernel
theorem dX0_removeAll_11 : decode cX0_removeAll 11 = .ok (.iconst 0, 1) := by decide +kernel
theorem dX0_removeAll_12 : decode cX0_removeAll 12 = .ok (.putfield 25, 3) := by decide +kernel
theorem dX0_removeAll_15 : decode cX0_removeAll 15 = .ok (.iload_n 1, 1) := by decide +kernel
theorem dX0_removeAll_16 : decode cX0_removeAll 16 = .ok (.ireturn, 1) := by decide +kernel
set_option maxRecDepth 20000 in
theorem ggX0_workOut_X0_makeRoom : GoodIn wsX0_workOut wsX0_makeRoom := goodIn_r _ [8, 9, 10, 11, 12, 13, 14, 15, 16, 17, 101, 102, 103, 104, 105, 106, 107, 108, 109, 110, 111, 112] (by decide +kernel) (by decide +kernel)
set_option maxRecDepth 20000 in
theorem gX0_workOut_X0_makeRoom : GoodIn wsX0_workOut (wsV RX0 54 RX0 yX0_makeRoom wsX0_makeRoom) := goodIn_app (goodIn_of _ (by decide +kernel)) ggX0_workOut_X0_makeRoom
set_option maxRecDepth 20000 in
theorem ggX0_workOut_X0_listEvents : GoodIn wsX0_workOut wsX0_listEvents := goodIn_r _ [21, 17, 9, 2, 13, 22, 23, 24, 7, 25, 12, 26, 27, 28, 29, 30, 31, 32, 33, 34, 35, 36, 37, 38, 39, 40, 101, 102, 103, 104, 105, 106, 107, 108, 109, 110, 111, 112] (by decide +kernel) (by decide +kernel)
set_option maxRecDepth 20000 in
theorem gX0_workOut_X0_listEvents : GoodIn wsX0_workOut (wsV RX0 58 RX0 yX0_listEvents wsX0_listEvents) := goodIn_app (goodIn_of _ (by decide +kernel)) ggX0_workOut_X0_listEvents
set_option maxRecDepth 20000 in
theorem ggX0_workOut_X0_goForth : GoodIn wsX0_workOut wsX0_goForth := goodIn_r _ [44, 14, 30, 15, 17, 9, 45, 46, 47, 48, 49, 50, 51, 7, 52, 53, 54, 55, 56, 57, 58, 59, 60, 2, 61, 62, 63, 64, 65, 66, 67, 68, 13, 69, 70, 71, 72, 73, 74, 75, 101, 102, 103, 104, 105, 106, 107, 108, 109, 110, 111, 112] (by decide +kernel) (by decide +kernel)
set_option maxRecDepth 20000 in
theorem gX0_workOut_X0_goForth : GoodIn wsX0_workOut (wsV RX0 61 RX0 yX0_goForth wsX0_goForth) := goodIn_app (goodIn_of _ (by decide +kernel)) ggX0_workOut_X0_goForth
set_option maxRecDepth 20000 in
theorem ggX0_workOut_X0_lookAhead : GoodIn wsX0_workOut wsX0_lookAhead := goodIn_r _ [79, 17, 9, 16, 80, 81, 82, 7, 83, 84, 85, 86, 87, 30, 2, 88, 89, 33, 90, 65, 66, 67, 68, 13, 91, 92, 93, 94, 69, 70, 71, 72, 73, 74, 75, 101, 102, 103, 104, 105, 106, 107, 108, 109, 110, 111, 112] (by decide +kernel) (by decide +kernel)
set_option maxRecDepth 20000 in
theorem gX0_workOut_X0_lookAhead : GoodIn wsX0_workOut (wsV RX0 64 RX0 yX0_lookAhead wsX0_lookAhead) := goodIn_app (goodIn_of _ (by decide +kernel)) ggX0_workOut_X0_lookAhead
set_option maxRecDepth 20000 in
theorem ggX0_workOut_X0_answer : GoodIn wsX0_workOut wsX0_answer := goodIn_r _ [98, 30, 17, 9, 88, 89, 33, 90, 99, 100, 91, 92, 93, 7, 94, 16, 80, 81, 82, 83, 53, 54, 55, 56, 14, 61, 62, 63, 64, 15, 101, 102, 103, 104, 105, 106, 107, 108, 109, 110, 111, 112] (by decide +kernel) (by decide +kernel)
set_option maxRecDepth 20000 in
theorem gX0_workOut_X0_answer : GoodIn wsX0_workOut (wsV RX0 67 RX0 yX0_answer wsX0_answer) := goodIn_app (goodIn_of _ (by decide +kernel)) ggX0_workOut_X0_answer
theorem dX0_workOut_0 : decode cX0_workOut 0 = .ok (.aload_n 0, 1) := by decide +kernel
theorem dX0_workOut_1 : decode cX0_workOut 1 = .ok (.getfield 25, 3) := by decide +kernel
theorem dX0_workOut_4 : decode cX0_workOut 4 = .ok (.ifCond .eq 4, 3) := by decide +kernel
theorem dX0_workOut_7 : decode cX0_workOut 7 = .ok (.return_, 1) := by decide +kernel
theorem dX0_workOut_8 : decode cX0_workOut 8 = .ok (.aload_n 0, 1) := by decide +kernel
theorem dX0_workOut_9 : decode cX0_workOut 9 = .ok (.getfield 9, 3) := by decide +kernel
theorem dX0_workOut_12 : decode cX0_workOut 12 = .ok (.ifCond .lt 14, 3) := by decide +kernel
theorem dX0_workOut_15 : decode cX0_workOut 15 = .ok (.aload_n 0, 1) := by decide +kernel
theorem dX0_workOut_16 : decode cX0_workOut 16 = .ok (.getfield 9, 3) := by decide +kernel
theorem dX0_workOut_19 : decode cX0_workOut 19 = .ok (.getstatic 51, 3) := by decide +kernel
theorem dX0_workOut_22 : decode cX0_workOut 22 = .ok (.arraylength, 1) := by decide +kernel
theorem dX0_workOut_23 : decode cX0_workOut 23 = .ok (.if_icmp .lt 4, 3) := by decide +kernel
theorem dX0_workOut_26 : decode cX0_workOut 26 = .ok (.return_, 1) := by decide +kernel
theorem dX0_workOut_27 : decode cX0_workOut 27 = .ok (.aload_n 0, 1) := by decide +kernel
theorem dX0_workOut_28 : decode cX0_workOut 28 = .ok (.getstatic 51, 3) := by decide +kernel
theorem dX0_workOut_31 : decode cX0_workOut 31 = .ok (.aload_n 0, 1) := by decide +kernel
theorem dX0_workOut_32 : decode cX0_workOut 32 = .ok (.getfield 9, 3) := by decide +kernel
theorem dX0_workOut_35 : decode cX0_workOut 35 = .ok (.iaload, 1) := by decide +kernel
theorem dX0_workOut_36 : decode cX0_workOut 36 = .ok (.invokevirtual 54, 3) := by decide +kernel
theorem dX0_workOut_39 : decode cX0_workOut 39 = .ok (.aload_n 0, 1) := by decide +kernel
theorem dX0_workOut_40 : decode cX0_workOut 40 = .ok (.invokevirtual 58, 3) := by decide +kernel
theorem dX0_workOut_43 : decode cX0_workOut 43 = .ok (.aload_n 0, 1) := by decide +kernel
theorem dX0_workOut_44 : decode cX0_workOut 44 = .ok (.invokevirtual 61, 3) := by decide +kernel
theorem dX0_workOut_47 : decode cX0_workOut 47 = .ok (.iconst 0, 1) := by decide +kernel
theorem dX0_workOut_48 : decode cX0_workOut 48 = .ok (.istore_n 1, 1) := by decide +kernel
theorem dX0_workOut_49 : decode cX0_workOut 49 = .ok (.iload_n 1, 1) := by decide +kernel
theorem dX0_workOut_50 : decode cX0_workOut 50 = .ok (.bipush 40, 2) := by decide +kernel
theorem dX0_workOut_52 : decode cX0_workOut 52 = .ok (.if_icmp .gt 19, 3) := by decide +kernel
theorem dX0_workOut_55 : decode cX0_workOut 55 = .ok (.aload_n 0, 1) := by decide +kernel
theorem dX0_workOut_56 : decode cX0_workOut 56 = .ok (.iload_n 1, 1) := by decide +kernel
theorem dX0_workOut_57 : decode cX0_workOut 57 = .ok (.invokevirtual 64, 3) := by decide +kernel
theorem dX0_workOut_60 : decode cX0_workOut 60 = .ok (.aload_n 0, 1) := by decide +kernel
theorem dX0_workOut_61 : decode cX0_workOut 61 = .ok (.iload_n 1, 1) := by decide +kernel
theorem dX0_workOut_62 : decode cX0_workOut 62 = .ok (.invokevirtual 67, 3) := by decide +kernel
theorem dX0_workOut_65 : decode cX0_workOut 65 = .ok (.iinc 1 1, 3) := by decide +kernel
theorem dX0_workOut_68 : decode cX0_workOut 68 = .ok (.goto (-19), 3) := by decide +kernel
theorem dX0_workOut_71 : decode cX0_workOut 71 = .ok (.aload_n 0, 1) := by decide +kernel
theorem dX0_workOut_72 : decode cX0_workOut 72 = .ok (.iconst 1, 1) := by decide +kernel
theorem dX0_workOut_73 : decode cX0_workOut 73 = .ok (.putfield 25, 3) := by decide +kernel
theorem dX0_workOut_76 : decode cX0_workOut 76 = .ok (.return_, 1) := by decide +kernel
theorem dX0_makeRoom_0 : decode cX0_makeRoom 0 = .ok (.aload_n 0, 1) := by decide +kernel
theorem dX0_makeRoom_1 : decode cX0_makeRoom 1 = .ok (.getfield 29, 3) := by decide +kernel
theorem dX0_makeRoom_4 : decode cX0_makeRoom 4 = .ok (.arraylength, 1) := by decide +kernel
theorem dX0_makeRoom_5 : decode cX0_makeRoom 5 = .ok (.iload_n 1, 1) := by decide +kernel
theorem dX0_makeRoom_6 : decode cX0_makeRoom 6 = .ok (.if_icmp .ge 51, 3) := by decide +kernel
theorem dX0_makeRoom_9 : decode cX0_makeRoom 9 = .ok (.aload_n 0, 1) := by decide +kernel
theorem dX0_makeRoom_10 : decode cX0_makeRoom 10 = .ok (.iload_n 1, 1) := by decide +kernel
theorem dX0_makeRoom_11 : decode cX0_makeRoom 11 = .ok (.newarray .int, 2) := by decide +kernel
theorem dX0_makeRoom_13 : decode cX0_makeRoom 13 = .ok (.putfield 29, 3) := by decide +kernel
theorem dX0_makeRoom_16 : decode cX0_makeRoom 16 = .ok (.aload_n 0, 1) := by decide +kernel
theorem dX0_makeRoom_17 : decode cX0_makeRoom 17 = .ok (.iload_n 1, 1) := by decide +kernel
theorem dX0_makeRoom_18 : decode cX0_makeRoom 18 = .ok (.newarray .boolean, 2) := by decide +kernel
theorem dX0_makeRoom_20 : decode cX0_makeRoom 20 = .ok (.putfield 32, 3) := by decide +kernel
theorem dX0_makeRoom_23 : decode cX0_makeRoom 23 = .ok (.aload_n 0, 1) := by decide +kernel
theorem dX0_makeRoom_24 : decode cX0_makeRoom 24 = .ok (.iload_n 1, 1) := by decide +kernel
theorem dX0_makeRoom_25 : decode cX0_makeRoom 25 = .ok (.bipush 8, 2) := by decide +kernel
theorem dX0_makeRoom_27 : decode cX0_makeRoom 27 = .ok (.imul, 1) := by decide +kernel
theorem dX0_makeRoom_28 : decode cX0_makeRoom 28 = .ok (.newarray .int, 2) := by decide +kernel
theorem dX0_makeRoom_30 : decode cX0_makeRoom 30 = .ok (.putfield 39, 3) := by decide +kernel
theorem dX0_makeRoom_33 : decode cX0_makeRoom 33 = .ok (.aload_n 0, 1) := by decide +kernel
theorem dX0_makeRoom_34 : decode cX0_makeRoom 34 = .ok (.iload_n 1, 1) := by decide +kernel
theorem dX0_makeRoom_35 : decode cX0_makeRoom 35 = .ok (.newarray .int, 2) := by decide +kernel
theorem dX0_makeRoom_37 : decode cX0_makeRoom 37 = .ok (.putfield 42, 3) := by decide +kernel
theorem dX0_makeRoom_40 : decode cX0_makeRoom 40 = .ok (.aload_n 0, 1) := by decide +kernel
theorem dX0_makeRoom_41 : decode cX0_makeRoom 41 = .ok (.iload_n 1, 1) := by decide +kernel
theorem dX0_makeRoom_42 : decode cX0_makeRoom 42 = .ok (.newarray .int, 2) := by decide +kernel
theorem dX0_makeRoom_44 : decode cX0_makeRoom 44 = .ok (.putfield 45, 3) := by decide +kernel
theorem dX0_makeRoom_47 : decode cX0_makeRoom 47 = .ok (.aload_n 0, 1) := by decide +kernel
theorem dX0_makeRoom_48 : decode cX0_makeRoom 48 = .ok (.iload_n 1, 1) := by decide +kernel
theorem dX0_makeRoom_49 : decode cX0_makeRoom 49 = .ok (.bipush 13, 2) := by decide +kernel
theorem dX0_makeRoom_51 : decode cX0_makeRoom 51 = .ok (.imul, 1) := by decide +kernel
theorem dX0_makeRoom_52 : decode cX0_makeRoom 52 = .ok (.newarray .int, 2) := by decide +kernel
theorem dX0_makeRoom_54 : decode cX0_makeRoom 54 = .ok (.putfield 48, 3) := by decide +kernel
theorem dX0_makeRoom_57 : decode cX0_makeRoom 57 = .ok (.iconst 0, 1) := by decide +kernel
theorem dX0_makeRoom_58 : decode cX0_makeRoom 58 = .ok (.istore_n 2, 1) := by decide +kernel
theorem dX0_makeRoom_59 : decode cX0_makeRoom 59 = .ok (.iload_n 2, 1) := by decide +kernel
theorem dX0_makeRoom_60 : decode cX0_makeRoom 60 = .ok (.aload_n 0, 1) := by decide +kernel
theorem dX0_makeRoom_61 : decode cX0_makeRoom 61 = .ok (.getfield 32, 3) := by decide +kernel
theorem dX0_makeRoom_64 : decode cX0_makeRoom 64 = .ok (.arraylength, 1) := by decide +kernel
theorem dX0_makeRoom_65 : decode cX0_makeRoom 65 = .ok (.if_icmp .ge 16, 3) := by decide +kernel
theorem dX0_makeRoom_68 : decode cX0_makeRoom 68 = .ok (.aload_n 0, 1) := by decide +kernel
theorem dX0_makeRoom_69 : decode cX0_makeRoom 69 = .ok (.getfield 32, 3) := by decide +kernel
theorem dX0_makeRoom_72 : decode cX0_makeRoom 72 = .ok (.iload_n 2, 1) := by decide +kernel
theorem dX0_makeRoom_73 : decode cX0_makeRoom 73 = .ok (.iconst 0, 1) := by decide +kernel
theorem dX0_makeRoom_74 : decode cX0_makeRoom 74 = .ok (.bastore, 1) := by decide +kernel
theorem dX0_makeRoom_75 : decode cX0_makeRoom 75 = .ok (.iinc 2 1, 3) := by decide +kernel
theorem dX0_makeRoom_78 : decode cX0_makeRoom 78 = .ok (.goto (-19), 3) := by decide +kernel
theorem dX0_makeRoom_81 : decode cX0_makeRoom 81 = .ok (.aload_n 0, 1) := by decide +kernel
theorem dX0_makeRoom_82 : decode cX0_makeRoom 82 = .ok (.iconst 0, 1) := by decide +kernel
theorem dX0_makeRoom_83 : decode cX0_makeRoom 83 = .ok (.putfield 36, 3) := by decide +kernel
theorem dX0_makeRoom_86 : decode cX0_makeRoom 86 = .ok (.return_, 1) := by decide +kernel
set_option maxRecDepth 20000 in
theorem ggX0_listEvents_X0_list : GoodIn wsX0_listEvents wsX0_list := goodIn_r _ [9, 10, 1, 2, 26, 27, 28, 29, 30, 31, 32, 33, 34, 35, 36, 37] (by decide +kernel) (by decide +kernel)
set_option maxRecDepth 20000 in
theorem gX0_listEvents_X0_list : GoodIn wsX0_listEvents (wsV RX0 70 RX0 yX0_list wsX0_list) := goodIn_app (goodIn_of _ (by decide +kernel)) ggX0_listEvents_X0_list
set_option maxRecDepth 20000 in
theorem ggX0_listEvents_X0_leapFrom : GoodIn wsX0_listEvents wsX0_leapFrom := goodIn_r _ [14, 15, 3, 16, 17, 18, 19, 20, 21, 22, 23, 8, 24, 25, 26, 27, 28, 29, 30, 31, 32, 33, 34, 35, 36, 37] (by decide +kernel) (by decide +kernel)
set_option maxRecDepth 20000 in
theorem gX0_listEvents_X0_leapFrom : GoodIn wsX0_listEvents (wsV RX0 73 RX0 yX0_leapFrom wsX0_leapFrom) := goodIn_app (goodIn_of _ (by decide +kernel)) ggX0_listEvents_X0_leapFrom
theorem dX0_listEvents_0 : decode cX0_listEvents 0 = .ok (.aload_n 0, 1) := by decide +kernel
theorem dX0_listEvents_1 : decode cX0_listEvents 1 = .ok (.iconst 0, 1) := by decide +kernel
theorem dX0_listEvents_2 : decode cX0_listEvents 2 = .ok (.invokevirtual 70, 3) := by decide +kernel
theorem dX0_listEvents_5 : decode cX0_listEvents 5 = .ok (.iconst 0, 1) := by decide +kernel
theorem dX0_listEvents_6 : decode cX0_listEvents 6 = .ok (.istore_n 1, 1) := by decide +kernel
theorem dX0_listEvents_7 : decode cX0_listEvents 7 = .ok (.iload_n 1, 1) := by decide +kernel
theorem dX0_listEvents_8 : decode cX0_listEvents 8 = .ok (.aload_n 0, 1) := by decide +kernel
theorem dX0_listEvents_9 : decode cX0_listEvents 9 = .ok (.getfield 36, 3) := by decide +kernel
theorem dX0_listEvents_12 : decode cX0_listEvents 12 = .ok (.if_icmp .ge 98, 3) := by decide +kernel
theorem dX0_listEvents_15 : decode cX0_listEvents 15 = .ok (.iload_n 1, 1) := by decide +kernel
theorem dX0_listEvents_16 : decode cX0_listEvents 16 = .ok (.aload_n 0, 1) := by decide +kernel
theorem dX0_listEvents_17 : decode cX0_listEvents 17 = .ok (.getfield 29, 3) := by decide +kernel
theorem dX0_listEvents_20 : decode cX0_listEvents 20 = .ok (.arraylength, 1) := by decide +kernel
theorem dX0_listEvents_21 : decode cX0_listEvents 21 = .ok (.if_icmp .ge 89, 3) := by decide +kernel
theorem dX0_listEvents_24 : decode cX0_listEvents 24 = .ok (.aload_n 0, 1) := by decide +kernel
theorem dX0_listEvents_25 : decode cX0_listEvents 25 = .ok (.getfield 29, 3) := by decide +kernel
theorem dX0_listEvents_28 : decode cX0_listEvents 28 = .ok (.iload_n 1, 1) := by decide +kernel
theorem dX0_listEvents_29 : decode cX0_listEvents 29 = .ok (.iaload, 1) := by decide +kernel
theorem dX0_listEvents_30 : decode cX0_listEvents 30 = .ok (.istore_n 2, 1) := by decide +kernel
theorem dX0_listEvents_31 : decode cX0_listEvents 31 = .ok (.iconst 0, 1) := by decide +kernel
theorem dX0_listEvents_32 : decode cX0_listEvents 32 = .ok (.istore_n 3, 1) := by decide +kernel
theorem dX0_listEvents_33 : decode cX0_listEvents 33 = .ok (.iload_n 3, 1) := by decide +kernel
theorem dX0_listEvents_34 : decode cX0_listEvents 34 = .ok (.iconst 1, 1) := by decide +kernel
theorem dX0_listEvents_35 : decode cX0_listEvents 35 = .ok (.aload_n 0, 1) := by decide +kernel
theorem dX0_listEvents_36 : decode cX0_listEvents 36 = .ok (.getfield 9, 3) := by decide +kernel
theorem dX0_listEvents_39 : decode cX0_listEvents 39 = .ok (.ishl, 1) := by decide +kernel
theorem dX0_listEvents_40 : decode cX0_listEvents 40 = .ok (.if_icmp .ge 64, 3) := by decide +kernel
theorem dX0_listEvents_43 : decode cX0_listEvents 43 = .ok (.iload_n 2, 1) := by decide +kernel
theorem dX0_listEvents_44 : decode cX0_listEvents 44 = .ok (.bipush 8, 2) := by decide +kernel
theorem dX0_listEvents_46 : decode cX0_listEvents 46 = .ok (.imul, 1) := by decide +kernel
theorem dX0_listEvents_47 : decode cX0_listEvents 47 = .ok (.iload_n 3, 1) := by decide +kernel
theorem dX0_listEvents_48 : decode cX0_listEvents 48 = .ok (.iadd, 1) := by decide +kernel
theorem dX0_listEvents_49 : decode cX0_listEvents 49 = .ok (.istore 4, 2) := by decide +kernel
theorem dX0_listEvents_51 : decode cX0_listEvents 51 = .ok (.aload_n 0, 1) := by decide +kernel
theorem dX0_listEvents_52 : decode cX0_listEvents 52 = .ok (.iload_n 2, 1) := by decide +kernel
theorem dX0_listEvents_53 : decode cX0_listEvents 53 = .ok (.iload_n 3, 1) := by decide +kernel
theorem dX0_listEvents_54 : decode cX0_listEvents 54 = .ok (.invokevirtual 73, 3) := by decide +kernel
theorem dX0_listEvents_57 : decode cX0_listEvents 57 = .ok (.istore 5, 2) := by decide +kernel
theorem dX0_listEvents_59 : decode cX0_listEvents 59 = .ok (.iload 4, 2) := by decide +kernel
theorem dX0_listEvents_61 : decode cX0_listEvents 61 = .ok (.ifCond .lt 22, 3) := by decide +kernel
theorem dX0_listEvents_64 : decode cX0_listEvents 64 = .ok (.iload 4, 2) := by decide +kernel
theorem dX0_listEvents_66 : decode cX0_listEvents 66 = .ok (.aload_n 0, 1) := by decide +kernel
theorem dX0_listEvents_67 : decode cX0_listEvents 67 = .ok (.getfield 39, 3) := by decide +kernel
theorem dX0_listEvents_70 : decode cX0_listEvents 70 = .ok (.arraylength, 1) := by decide +kernel
theorem dX0_listEvents_71 : decode cX0_listEvents 71 = .ok (.if_icmp .ge 12, 3) := by decide +kernel
theorem dX0_listEvents_74 : decode cX0_listEvents 74 = .ok (.aload_n 0, 1) := by decide +kernel
theorem dX0_listEvents_75 : decode cX0_listEvents 75 = .ok (.getfield 39, 3) := by decide +kernel
theorem dX0_listEvents_78 : decode cX0_listEvents 78 = .ok (.iload 4, 2) := by decide +kernel
theorem dX0_listEvents_80 : decode cX0_listEvents 80 = .ok (.iload 5, 2) := by decide +kernel
theorem dX0_listEvents_82 : decode cX0_listEvents 82 = .ok (.iastore, 1) := by decide +kernel
theorem dX0_listEvents_83 : decode cX0_listEvents 83 = .ok (.iload 5, 2) := by decide +kernel
theorem dX0_listEvents_85 : decode cX0_listEvents 85 = .ok (.iconst (-1), 1) := by decide +kernel
theorem dX0_listEvents_86 : decode cX0_listEvents 86 = .ok (.if_icmp .eq 12, 3) := by decide +kernel
theorem dX0_listEvents_89 : decode cX0_listEvents 89 = .ok (.aload_n 0, 1) := by decide +kernel
theorem dX0_listEvents_90 : decode cX0_listEvents 90 = .ok (.iload 5, 2) := by decide +kernel
theorem dX0_listEvents_92 : decode cX0_listEvents 92 = .ok (.bipush 16, 2) := by decide +kernel
theorem dX0_listEvents_94 : decode cX0_listEvents 94 = .ok (.idiv, 1) := by decide +kernel
theorem dX0_listEvents_95 : decode cX0_listEvents 95 = .ok (.invokevirtual 70, 3) := by decide +kernel
theorem dX0_listEvents_98 : decode cX0_listEvents 98 = .ok (.iinc 3 1, 3) := by decide +kernel
theorem dX0_listEvents_101 : decode cX0_listEvents 101 = .ok (.goto (-68), 3) := by decide +kernel
theorem dX0_listEvents_104 : decode cX0_listEvents 104 = .ok (.iinc 1 1, 3) := by decide +kernel
theorem dX0_listEvents_107 : decode cX0_listEvents 107 = .ok (.goto (-100), 3) := by decide +kernel
theorem dX0_listEvents_110 : decode cX0_listEvents 110 = .ok (.return_, 1) := by decide +kernel
theorem dX0_list_0 : decode cX0_list 0 = .ok (.iload_n 1, 1) := by decide +kernel
theorem dX0_list_1 : decode cX0_list 1 = .ok (.ifCond .lt 60, 3) := by decide +kernel
theorem dX0_list_4 : decode cX0_list 4 = .ok (.iload_n 1, 1) := by decide +kernel
theorem dX0_list_5 : decode cX0_list 5 = .ok (.aload_n 0, 1) := by decide +kernel
theorem dX0_list_6 : decode cX0_list 6 = .ok (.getfield 32, 3) := by decide +kernel
theorem dX0_list_9 : decode cX0_list 9 = .ok (.arraylength, 1) := by decide +kernel
theorem dX0_list_10 : decode cX0_list 10 = .ok (.if_icmp .ge 51, 3) := by decide +kernel
theorem dX0_list_13 : decode cX0_list 13 = .ok (.aload_n 0, 1) := by decide +kernel
theorem dX0_list_14 : decode cX0_list 14 = .ok (.getfield 32, 3) := by decide +kernel
theorem dX0_list_17 : decode cX0_list 17 = .ok (.iload_n 1, 1) := by decide +kernel
theorem dX0_list_18 : decode cX0_list 18 = .ok (.baload, 1) := by decide +kernel
theorem dX0_list_19 : decode cX0_list 19 = .ok (.ifCond .ne 42, 3) := by decide +kernel
theorem dX0_list_22 : decode cX0_list 22 = .ok (.aload_n 0, 1) := by decide +kernel
theorem dX0_list_23 : decode cX0_list 23 = .ok (.getfield 36, 3) := by decide +kernel
theorem dX0_list_26 : decode cX0_list 26 = .ok (.aload_n 0, 1) := by decide +kernel
theorem dX0_list_27 : decode cX0_list 27 = .ok (.getfield 29, 3) := by decide +kernel
theorem dX0_list_30 : decode cX0_list 30 = .ok (.arraylength, 1) := by decide +kernel
theorem dX0_list_31 : decode cX0_list 31 = .ok (.if_icmp .ge 30, 3) := by decide +kernel
theorem dX0_list_34 : decode cX0_list 34 = .ok (.aload_n 0, 1) := by decide +kernel
theorem dX0_list_35 : decode cX0_list 35 = .ok (.getfield 32, 3) := by decide +kernel
theorem dX0_list_38 : decode cX0_list 38 = .ok (.iload_n 1, 1) := by decide +kernel
theorem dX0_list_39 : decode cX0_list 39 = .ok (.iconst 1, 1) := by decide +kernel
theorem dX0_list_40 : decode cX0_list 40 = .ok (.bastore, 1) := by decide +kernel
theorem dX0_list_41 : decode cX0_list 41 = .ok (.aload_n 0, 1) := by decide +kernel
theorem dX0_list_42 : decode cX0_list 42 = .ok (.getfield 29, 3) := by decide +kernel
theorem dX0_list_45 : decode cX0_list 45 = .ok (.aload_n 0, 1) := by decide +kernel
theorem dX0_list_46 : decode cX0_list 46 = .ok (.getfield 36, 3) := by decide +kernel
theorem dX0_list_49 : decode cX0_list 49 = .ok (.iload_n 1, 1) := by decide +kernel
theorem dX0_list_50 : decode cX0_list 50 = .ok (.iastore, 1) := by decide +kernel
theorem dX0_list_51 : decode cX0_list 51 = .ok (.aload_n 0, 1) := by decide +kernel
theorem dX0_list_52 : decode cX0_list 52 = .ok (.dup, 1) := by decide +kernel
theorem dX0_list_53 : decode cX0_list 53 = .ok (.getfield 36, 3) := by decide +kernel
theorem dX0_list_56 : decode cX0_list 56 = .ok (.iconst 1, 1) := by decide +kernel
theorem dX0_list_57 : decode cX0_list 57 = .ok (.iadd, 1) := by decide +kernel
theorem dX0_list_58 : decode cX0_list 58 = .ok (.putfield 36, 3) := by decide +kernel
theorem dX0_list_61 : decode cX0_list 61 = .ok (.return_, 1) := by decide +kernel
set_option maxRecDepth 20000 in
theorem ggX0_leapFrom_X0_sandAbove : GoodIn wsX0_leapFrom wsX0_sandAbove := goodIn_r _ [12, 13, 14, 15, 16, 17, 18, 19, 20, 21, 22, 23, 24, 25] (by decide +kernel) (by decide +kernel)
set_option maxRecDepth 20000 in
theorem gX0_leapFrom_X0_sandAbove : GoodIn wsX0_leapFrom (wsV RX0 78 RX0 yX0_sandAbove wsX0_sandAbove) := goodIn_app (goodIn_of _ (by decide +kernel)) ggX0_leapFrom_X0_sandAbove
theorem dX0_leapFrom_0 : decode cX0_leapFrom 0 = .ok (.ldc 77, 2) := by decide +kernel
theorem dX0_leapFrom_2 : decode cX0_leapFrom 2 = .ok (.istore_n 3, 1) := by decide +kernel
theorem dX0_leapFrom_3 : decode cX0_leapFrom 3 = .ok (.iconst 0, 1) := by decide +kernel
theorem dX0_leapFrom_4 : decode cX0_leapFrom 4 = .ok (.istore 4, 2) := by decide +kernel
theorem dX0_leapFrom_6 : decode cX0_leapFrom 6 = .ok (.iload 4, 2) := by decide +kernel
theorem dX0_leapFrom_8 : decode cX0_leapFrom 8 = .ok (.aload_n 0, 1) := by decide +kernel
theorem dX0_leapFrom_9 : decode cX0_leapFrom 9 = .ok (.getfield 9, 3) := by decide +kernel
theorem dX0_leapFrom_12 : decode cX0_leapFrom 12 = .ok (.if_icmp .ge 39, 3) := by decide +kernel
theorem dX0_leapFrom_15 : decode cX0_leapFrom 15 = .ok (.iload 4, 2) := by decide +kernel
theorem dX0_leapFrom_17 : decode cX0_leapFrom 17 = .ok (.iconst 3, 1) := by decide +kernel
theorem dX0_leapFrom_18 : decode cX0_leapFrom 18 = .ok (.if_icmp .ge 33, 3) := by decide +kernel
theorem dX0_leapFrom_21 : decode cX0_leapFrom 21 = .ok (.aload_n 0, 1) := by decide +kernel
theorem dX0_leapFrom_22 : decode cX0_leapFrom 22 = .ok (.iload_n 1, 1) := by decide +kernel
theorem dX0_leapFrom_23 : decode cX0_leapFrom 23 = .ok (.iload_n 2, 1) := by decide +kernel
theorem dX0_leapFrom_24 : decode cX0_leapFrom 24 = .ok (.iload 4, 2) := by decide +kernel
theorem dX0_leapFrom_26 : decode cX0_leapFrom 26 = .ok (.invokevirtual 78, 3) := by decide +kernel
theorem dX0_leapFrom_29 : decode cX0_leapFrom 29 = .ok (.istore 5, 2) := by decide +kernel
theorem dX0_leapFrom_31 : decode cX0_leapFrom 31 = .ok (.iload 5, 2) := by decide +kernel
theorem dX0_leapFrom_33 : decode cX0_leapFrom 33 = .ok (.ifCond .le 12, 3) := by decide +kernel
theorem dX0_leapFrom_36 : decode cX0_leapFrom 36 = .ok (.iload 5, 2) := by decide +kernel
theorem dX0_leapFrom_38 : decode cX0_leapFrom 38 = .ok (.iload_n 3, 1) := by decide +kernel
theorem dX0_leapFrom_39 : decode cX0_leapFrom 39 = .ok (.if_icmp .ge 6, 3) := by decide +kernel
theorem dX0_leapFrom_42 : decode cX0_leapFrom 42 = .ok (.iload 5, 2) := by decide +kernel
theorem dX0_leapFrom_44 : decode cX0_leapFrom 44 = .ok (.istore_n 3, 1) := by decide +kernel
theorem dX0_leapFrom_45 : decode cX0_leapFrom 45 = .ok (.iinc 4 1, 3) := by decide +kernel
theorem dX0_leapFrom_48 : decode cX0_leapFrom 48 = .ok (.goto (-42), 3) := by decide +kernel
theorem dX0_leapFrom_51 : decode cX0_leapFrom 51 = .ok (.iload_n 3, 1) := by decide +kernel
theorem dX0_leapFrom_52 : decode cX0_leapFrom 52 = .ok (.ldc 77, 2) := by decide +kernel
theorem dX0_leapFrom_54 : decode cX0_leapFrom 54 = .ok (.if_icmp .ne 5, 3) := by decide +kernel
theorem dX0_leapFrom_57 : decode cX0_leapFrom 57 = .ok (.iconst (-1), 1) := by decide +kernel
theorem dX0_leapFrom_58 : decode cX0_leapFrom 58 = .ok (.ireturn, 1) := by decide +kernel
theorem dX0_leapFrom_59 : decode cX0_leapFrom 59 = .ok (.iconst 0, 1) := by decide +kernel
theorem dX0_leapFrom_60 : decode cX0_leapFrom 60 = .ok (.istore 4, 2) := by decide +kernel
theorem dX0_leapFrom_62 : decode cX0_leapFrom 62 = .ok (.iconst 0, 1) := by decide +kernel
theorem dX0_leapFrom_63 : decode cX0_leapFrom 63 = .ok (.istore 5, 2) := by decide +kernel
theorem dX0_leapFrom_65 : decode cX0_leapFrom 65 = .ok (.iload 5, 2) := by decide +kernel
theorem dX0_leapFrom_67 : decode cX0_leapFrom 67 = .ok (.aload_n 0, 1) := by decide +kernel
theorem dX0_leapFrom_68 : decode cX0_leapFrom 68 = .ok (.getfield 9, 3) := by decide +kernel
theorem dX0_leapFrom_71 : decode cX0_leapFrom 71 = .ok (.if_icmp .ge 41, 3) := by decide +kernel
theorem dX0_leapFrom_74 : decode cX0_leapFrom 74 = .ok (.iload 5, 2) := by decide +kernel
theorem dX0_leapFrom_76 : decode cX0_leapFrom 76 = .ok (.iconst 3, 1) := by decide +kernel
theorem dX0_leapFrom_77 : decode cX0_leapFrom 77 = .ok (.if_icmp .ge 35, 3) := by decide +kernel
theorem dX0_leapFrom_80 : decode cX0_leapFrom 80 = .ok (.iload 4, 2) := by decide +kernel
theorem dX0_leapFrom_82 : decode cX0_leapFrom 82 = .ok (.iconst 0, 1) := by decide +kernel
theorem dX0_leapFrom_83 : decode cX0_leapFrom 83 = .ok (.aload_n 0, 1) := by decide +kernel
theorem dX0_leapFrom_84 : decode cX0_leapFrom 84 = .ok (.iload_n 1, 1) := by decide +kernel
theorem dX0_leapFrom_85 : decode cX0_leapFrom 85 = .ok (.iload_n 2, 1) := by decide +kernel
theorem dX0_leapFrom_86 : decode cX0_leapFrom 86 = .ok (.iload 5, 2) := by decide +kernel
theorem dX0_leapFrom_88 : decode cX0_leapFrom 88 = .ok (.invokevirtual 78, 3) := by decide +kernel
theorem dX0_leapFrom_91 : decode cX0_leapFrom 91 = .ok (.iload_n 3, 1) := by decide +kernel
theorem dX0_leapFrom_92 : decode cX0_leapFrom 92 = .ok (.isub, 1) := by decide +kernel
theorem dX0_leapFrom_93 : decode cX0_leapFrom 93 = .ok (.invokestatic 82, 3) := by decide +kernel
theorem dX0_leapFrom_96 : decode cX0_leapFrom 96 = .ok (.getstatic 87, 3) := by decide +kernel
theorem dX0_leapFrom_99 : decode cX0_leapFrom 99 = .ok (.iload 5, 2) := by decide +kernel
theorem dX0_leapFrom_101 : decode cX0_leapFrom 101 = .ok (.iaload, 1) := by decide +kernel
theorem dX0_leapFrom_102 : decode cX0_leapFrom 102 = .ok (.imul, 1) := by decide +kernel
theorem dX0_leapFrom_103 : decode cX0_leapFrom 103 = .ok (.iadd, 1) := by decide +kernel
theorem dX0_leapFrom_104 : decode cX0_leapFrom 104 = .ok (.istore 4, 2) := by decide +kernel
theorem dX0_leapFrom_106 : decode cX0_leapFrom 106 = .ok (.iinc 5 1, 3) := by decide +kernel
theorem dX0_leapFrom_109 : decode cX0_leapFrom 109 = .ok (.goto (-44), 3) := by decide +kernel
theorem dX0_leapFrom_112 : decode cX0_leapFrom 112 = .ok (.iload 4, 2) := by decide +kernel
theorem dX0_leapFrom_114 : decode cX0_leapFrom 114 = .ok (.bipush 16, 2) := by decide +kernel
theorem dX0_leapFrom_116 : decode cX0_leapFrom 116 = .ok (.imul, 1) := by decide +kernel
theorem dX0_leapFrom_117 : decode cX0_leapFrom 117 = .ok (.iload_n 3, 1) := by decide +kernel
theorem dX0_leapFrom_118 : decode cX0_leapFrom 118 = .ok (.iadd, 1) := by decide +kernel
theorem dX0_leapFrom_119 : decode cX0_leapFrom 119 = .ok (.ireturn, 1) := by decide +kernel
theorem dX0_leapBy_0 : decode cX0_leapBy 0 = .ok (.iload_n 1, 1) := by decide +kernel
theorem dX0_leapBy_1 : decode cX0_leapBy 1 = .ok (.bipush 8, 2) := by decide +kernel
theorem dX0_leapBy_3 : decode cX0_leapBy 3 = .ok (.imul, 1) := by decide +kernel
theorem dX0_leapBy_4 : decode cX0_leapBy 4 = .ok (.iload_n 2, 1) := by decide +kernel
theorem dX0_leapBy_5 : decode cX0_leapBy 5 = .ok (.iadd, 1) := by decide +kernel
theorem dX0_leapBy_6 : decode cX0_leapBy 6 = .ok (.istore_n 3, 1) := by decide +kernel
theorem dX0_leapBy_7 : decode cX0_leapBy 7 = .ok (.iload_n 3, 1) := by decide +kernel
theorem dX0_leapBy_8 : decode cX0_leapBy 8 = .ok (.ifCond .lt 21, 3) := by decide +kernel
theorem dX0_leapBy_11 : decode cX0_leapBy 11 = .ok (.iload_n 3, 1) := by decide +kernel
theorem dX0_leapBy_12 : decode cX0_leapBy 12 = .ok (.aload_n 0, 1) := by decide +kernel
theorem dX0_leapBy_13 : decode cX0_leapBy 13 = .ok (.getfield 39, 3) := by decide +kernel
theorem dX0_leapBy_16 : decode cX0_leapBy 16 = .ok (.arraylength, 1) := by decide +kernel
theorem dX0_leapBy_17 : decode cX0_leapBy 17 = .ok (.if_icmp .ge 12, 3) := by decide +kernel
theorem dX0_leapBy_20 : decode cX0_leapBy 20 = .ok (.aload_n 0, 1) := by decide +kernel
theorem dX0_leapBy_21 : decode cX0_leapBy 21 = .ok (.getfield 39, 3) := by decide +kernel
theorem dX0_leapBy_24 : decode cX0_leapBy 24 = .ok (.iload_n 3, 1) := by decide +kernel
theorem dX0_leapBy_25 : decode cX0_leapBy 25 = .ok (.iaload, 1) := by decide +kernel
theorem dX0_leapBy_26 : decode cX0_leapBy 26 = .ok (.goto 4, 3) := by decide +kernel
theorem dX0_leapBy_29 : decode cX0_leapBy 29 = .ok (.iconst (-1), 1) := by decide +kernel
theorem dX0_leapBy_30 : decode cX0_leapBy 30 = .ok (.ireturn, 1) := by decide +kernel
theorem dX0_sandAbove_0 : decode cX0_sandAbove 0 = .ok (.iload_n 1, 1) := by decide +kernel
theorem dX0_sandAbove_1 : decode cX0_sandAbove 1 = .ok (.istore 4, 2) := by decide +kernel
theorem dX0_sandAbove_3 : decode cX0_sandAbove 3 = .ok (.iconst 0, 1) := by decide +kernel
theorem dX0_sandAbove_4 : decode cX0_sandAbove 4 = .ok (.istore 5, 2) := by decide +kernel
theorem dX0_sandAbove_6 : decode cX0_sandAbove 6 = .ok (.iload 5, 2) := by decide +kernel
theorem dX0_sandAbove_8 : decode cX0_sandAbove 8 = .ok (.iload_n 3, 1) := by decide +kernel
theorem dX0_sandAbove_9 : decode cX0_sandAbove 9 = .ok (.if_icmp .ge 16, 3) := by decide +kernel
theorem dX0_sandAbove_12 : decode cX0_sandAbove 12 = .ok (.iload 4, 2) := by decide +kernel
theorem dX0_sandAbove_14 : decode cX0_sandAbove 14 = .ok (.bipush 12, 2) := by decide +kernel
theorem dX0_sandAbove_16 : decode cX0_sandAbove 16 = .ok (.idiv, 1) := by decide +kernel
theorem dX0_sandAbove_17 : decode cX0_sandAbove 17 = .ok (.istore 4, 2) := by decide +kernel
theorem dX0_sandAbove_19 : decode cX0_sandAbove 19 = .ok (.iinc 5 1, 3) := by decide +kernel
theorem dX0_sandAbove_22 : decode cX0_sandAbove 22 = .ok (.goto (-16), 3) := by decide +kernel
theorem dX0_sandAbove_25 : decode cX0_sandAbove 25 = .ok (.iload 4, 2) := by decide +kernel
theorem dX0_sandAbove_27 : decode cX0_sandAbove 27 = .ok (.bipush 12, 2) := by decide +kernel
theorem dX0_sandAbove_29 : decode cX0_sandAbove 29 = .ok (.irem, 1) := by decide +kernel
theorem dX0_sandAbove_30 : decode cX0_sandAbove 30 = .ok (.istore 5, 2) := by decide +kernel
theorem dX0_sandAbove_32 : decode cX0_sandAbove 32 = .ok (.iload_n 2, 1) := by decide +kernel
theorem dX0_sandAbove_33 : decode cX0_sandAbove 33 = .ok (.iload_n 3, 1) := by decide +kernel
theorem dX0_sandAbove_34 : decode cX0_sandAbove 34 = .ok (.ishr, 1) := by decide +kernel
theorem dX0_sandAbove_35 : decode cX0_sandAbove 35 = .ok (.iconst 1, 1) := by decide +kernel
theorem dX0_sandAbove_36 : decode cX0_sandAbove 36 = .ok (.iand, 1) := by decide +kernel
theorem dX0_sandAbove_37 : decode cX0_sandAbove 37 = .ok (.iconst 1, 1) := by decide +kernel
theorem dX0_sandAbove_38 : decode cX0_sandAbove 38 = .ok (.if_icmp .ne 15, 3) := by decide +kernel
theorem dX0_sandAbove_41 : decode cX0_sandAbove 41 = .ok (.aload_n 0, 1) := by decide +kernel
theorem dX0_sandAbove_42 : decode cX0_sandAbove 42 = .ok (.getfield 15, 3) := by decide +kernel
theorem dX0_sandAbove_45 : decode cX0_sandAbove 45 = .ok (.iload_n 3, 1) := by decide +kernel
theorem dX0_sandAbove_46 : decode cX0_sandAbove 46 = .ok (.iaload, 1) := by decide +kernel
theorem dX0_sandAbove_47 : decode cX0_sandAbove 47 = .ok (.iload 5, 2) := by decide +kernel
theorem dX0_sandAbove_49 : decode cX0_sandAbove 49 = .ok (.isub, 1) := by decide +kernel
theorem dX0_sandAbove_50 : decode cX0_sandAbove 50 = .ok (.goto 5, 3) := by decide +kernel
theorem dX0_sandAbove_53 : decode cX0_sandAbove 53 = .ok (.iload 5, 2) := by decide +kernel
theorem dX0_sandAbove_55 : decode cX0_sandAbove 55 = .ok (.ireturn, 1) := by decide +kernel
set_option maxRecDepth 20000 in
theorem ggX0_goForth_J7_fill_53178 : GoodIn wsX0_goForth wsJ7_fill_53178 := goodIn_r _ [9] (by decide +kernel) (by decide +kernel)
set_option maxRecDepth 20000 in
theorem gX0_goForth_J7_fill_53178 : GoodIn wsX0_goForth (va_wsS RX0 90 yJ7_fill_53178 wsJ7_fill_53178) := goodIn_app (goodIn_of _ (by decide +kernel)) ggX0_goForth_J7_fill_53178
set_option maxRecDepth 20000 in
theorem ggX0_goForth_X0_comeTo : GoodIn wsX0_goForth wsX0_comeTo := goodIn_r _ [14, 1, 3, 40, 41, 42, 43, 44, 45, 46, 47, 48, 49, 50, 51] (by decide +kernel) (by decide +kernel)
set_option maxRecDepth 20000 in
theorem gX0_goForth_X0_comeTo : GoodIn wsX0_goForth (wsV RX0 96 RX0 yX0_comeTo wsX0_comeTo) := goodIn_app (goodIn_of _ (by decide +kernel)) ggX0_goForth_X0_comeTo
set_option maxRecDepth 20000 in
theorem ggX0_goForth_X0_earlyAt : GoodIn wsX0_goForth wsX0_earlyAt := goodIn_r _ [18, 1, 2, 40, 41, 42, 43, 44, 45, 46, 47, 48, 49, 50, 51] (by decide +kernel) (by decide +kernel)
set_option maxRecDepth 20000 in
theorem gX0_goForth_X0_earlyAt : GoodIn wsX0_goForth (wsV RX0 100 RX0 yX0_earlyAt wsX0_earlyAt) := goodIn_app (goodIn_of _ (by decide +kernel)) ggX0_goForth_X0_earlyAt
set_option maxRecDepth 20000 in
theorem ggX0_goForth_X0_goOnFrom : GoodIn wsX0_goForth wsX0_goOnFrom := goodIn_r _ [22, 23, 24, 25, 26, 13, 27, 3, 2, 28, 29, 30, 31, 32, 33, 34, 35, 36, 37, 38, 39, 10, 11, 12, 14, 1, 40, 41, 42, 43, 44, 45, 46, 47, 48, 49, 50, 51] (by decide +kernel) (by decide +kernel)
set_option maxRecDepth 20000 in
theorem gX0_goForth_X0_goOnFrom : GoodIn wsX0_goForth (wsV RX0 104 RX0 yX0_goOnFrom wsX0_goOnFrom) := goodIn_app (goodIn_of _ (by decide +kernel)) ggX0_goForth_X0_goOnFrom
theorem dX0_goForth_0 : decode cX0_goForth 0 = .ok (.aload_n 0, 1) := by decide +kernel
theorem dX0_goForth_1 : decode cX0_goForth 1 = .ok (.getfield 42, 3) := by decide +kernel
theorem dX0_goForth_4 : decode cX0_goForth 4 = .ok (.ldc 77, 2) := by decide +kernel
theorem dX0_goForth_6 : decode cX0_goForth 6 = .ok (.invokestatic 90, 3) := by decide +kernel
theorem dX0_goForth_9 : decode cX0_goForth 9 = .ok (.aload_n 0, 1) := by decide +kernel
theorem dX0_goForth_10 : decode cX0_goForth 10 = .ok (.getfield 45, 3) := by decide +kernel
theorem dX0_goForth_13 : decode cX0_goForth 13 = .ok (.ldc 77, 2) := by decide +kernel
theorem dX0_goForth_15 : decode cX0_goForth 15 = .ok (.invokestatic 90, 3) := by decide +kernel
theorem dX0_goForth_18 : decode cX0_goForth 18 = .ok (.aload_n 0, 1) := by decide +kernel
theorem dX0_goForth_19 : decode cX0_goForth 19 = .ok (.iconst 0, 1) := by decide +kernel
theorem dX0_goForth_20 : decode cX0_goForth 20 = .ok (.iconst 0, 1) := by decide +kernel
theorem dX0_goForth_21 : decode cX0_goForth 21 = .ok (.iconst 0, 1) := by decide +kernel
theorem dX0_goForth_22 : decode cX0_goForth 22 = .ok (.invokevirtual 96, 3) := by decide +kernel
theorem dX0_goForth_25 : decode cX0_goForth 25 = .ok (.iconst 0, 1) := by decide +kernel
theorem dX0_goForth_26 : decode cX0_goForth 26 = .ok (.istore_n 1, 1) := by decide +kernel
theorem dX0_goForth_27 : decode cX0_goForth 27 = .ok (.iload_n 1, 1) := by decide +kernel
theorem dX0_goForth_28 : decode cX0_goForth 28 = .ok (.bipush 60, 2) := by decide +kernel
theorem dX0_goForth_30 : decode cX0_goForth 30 = .ok (.if_icmp .gt 59, 3) := by decide +kernel
theorem dX0_goForth_33 : decode cX0_goForth 33 = .ok (.iconst 0, 1) := by decide +kernel
theorem dX0_goForth_34 : decode cX0_goForth 34 = .ok (.istore_n 2, 1) := by decide +kernel
theorem dX0_goForth_35 : decode cX0_goForth 35 = .ok (.iload_n 2, 1) := by decide +kernel
theorem dX0_goForth_36 : decode cX0_goForth 36 = .ok (.aload_n 0, 1) := by decide +kernel
theorem dX0_goForth_37 : decode cX0_goForth 37 = .ok (.getfield 36, 3) := by decide +kernel
theorem dX0_goForth_40 : decode cX0_goForth 40 = .ok (.if_icmp .ge 43, 3) := by decide +kernel
theorem dX0_goForth_43 : decode cX0_goForth 43 = .ok (.iload_n 2, 1) := by decide +kernel
theorem dX0_goForth_44 : decode cX0_goForth 44 = .ok (.aload_n 0, 1) := by decide +kernel
theorem dX0_goForth_45 : decode cX0_goForth 45 = .ok (.getfield 29, 3) := by decide +kernel
theorem dX0_goForth_48 : decode cX0_goForth 48 = .ok (.arraylength, 1) := by decide +kernel
theorem dX0_goForth_49 : decode cX0_goForth 49 = .ok (.if_icmp .ge 34, 3) := by decide +kernel
theorem dX0_goForth_52 : decode cX0_goForth 52 = .ok (.aload_n 0, 1) := by decide +kernel
theorem dX0_goForth_53 : decode cX0_goForth 53 = .ok (.aload_n 0, 1) := by decide +kernel
theorem dX0_goForth_54 : decode cX0_goForth 54 = .ok (.getfield 29, 3) := by decide +kernel
theorem dX0_goForth_57 : decode cX0_goForth 57 = .ok (.iload_n 2, 1) := by decide +kernel
theorem dX0_goForth_58 : decode cX0_goForth 58 = .ok (.iaload, 1) := by decide +kernel
theorem dX0_goForth_59 : decode cX0_goForth 59 = .ok (.invokevirtual 100, 3) := by decide +kernel
theorem dX0_goForth_62 : decode cX0_goForth 62 = .ok (.iload_n 1, 1) := by decide +kernel
theorem dX0_goForth_63 : decode cX0_goForth 63 = .ok (.if_icmp .ne 14, 3) := by decide +kernel
theorem dX0_goForth_66 : decode cX0_goForth 66 = .ok (.aload_n 0, 1) := by decide +kernel
theorem dX0_goForth_67 : decode cX0_goForth 67 = .ok (.aload_n 0, 1) := by decide +kernel
theorem dX0_goForth_68 : decode cX0_goForth 68 = .ok (.getfield 29, 3) := by decide +kernel
theorem dX0_goForth_71 : decode cX0_goForth 71 = .ok (.iload_n 2, 1) := by decide +kernel
theorem dX0_goForth_72 : decode cX0_goForth 72 = .ok (.iaload, 1) := by decide +kernel
theorem dX0_goForth_73 : decode cX0_goForth 73 = .ok (.iload_n 1, 1) := by decide +kernel
theorem dX0_goForth_74 : decode cX0_goForth 74 = .ok (.invokevirtual 104, 3) := by decide +kernel
theorem dX0_goForth_77 : decode cX0_goForth 77 = .ok (.iinc 2 1, 3) := by decide +kernel
theorem dX0_goForth_80 : decode cX0_goForth 80 = .ok (.goto (-45), 3) := by decide +kernel
theorem dX0_goForth_83 : decode cX0_goForth 83 = .ok (.iinc 1 1, 3) := by decide +kernel
theorem dX0_goForth_86 : decode cX0_goForth 86 = .ok (.goto (-59), 3) := by decide +kernel
theorem dX0_goForth_89 : decode cX0_goForth 89 = .ok (.return_, 1) := by decide +kernel
set_option maxRecDepth 20000 in
theorem ggX0_goOnFrom_X0_turnedAt : GoodIn wsX0_goOnFrom wsX0_turnedAt := goodIn_r _ [6, 7, 8, 26, 27, 28, 29, 30, 31, 32, 33, 34, 35, 36, 37] (by decide +kernel) (by decide +kernel)
set_option maxRecDepth 20000 in
theorem gX0_goOnFrom_X0_turnedAt : GoodIn wsX0_goOnFrom (wsV RX0 108 RX0 yX0_turnedAt wsX0_turnedAt) := goodIn_app (goodIn_of _ (by decide +kernel)) ggX0_goOnFrom_X0_turnedAt
set_option maxRecDepth 20000 in
theorem ggX0_goOnFrom_X0_leapBy : GoodIn wsX0_goOnFrom wsX0_leapBy := goodIn_r _ [12, 13, 26, 27, 28, 29, 30, 31, 32, 33, 34, 35, 36, 37] (by decide +kernel) (by decide +kernel)
set_option maxRecDepth 20000 in
theorem gX0_goOnFrom_X0_leapBy : GoodIn wsX0_goOnFrom (wsV RX0 111 RX0 yX0_leapBy wsX0_leapBy) := goodIn_app (goodIn_of _ (by decide +kernel)) ggX0_goOnFrom_X0_leapBy
set_option maxRecDepth 20000 in
theorem ggX0_goOnFrom_J6_bitCount_0f7a4 : GoodIn wsX0_goOnFrom wsJ6_bitCount_0f7a4 := goodIn_r _ [17, 18, 19, 20] (by decide +kernel) (by decide +kernel)
set_option maxRecDepth 20000 in
theorem gX0_goOnFrom_J6_bitCount_0f7a4 : GoodIn wsX0_goOnFrom (va_wsS RX0 114 yJ6_bitCount_0f7a4 wsJ6_bitCount_0f7a4) := goodIn_app (goodIn_of _ (by decide +kernel)) ggX0_goOnFrom_J6_bitCount_0f7a4
set_option maxRecDepth 20000 in
theorem ggX0_goOnFrom_X0_comeTo : GoodIn wsX0_goOnFrom wsX0_comeTo := goodIn_r _ [24, 25, 7, 26, 27, 28, 29, 30, 31, 32, 33, 34, 35, 36, 37] (by decide +kernel) (by decide +kernel)
set_option maxRecDepth 20000 in
theorem gX0_goOnFrom_X0_comeTo : GoodIn wsX0_goOnFrom (wsV RX0 96 RX0 yX0_comeTo wsX0_comeTo) := goodIn_app (goodIn_of _ (by decide +kernel)) ggX0_goOnFrom_X0_comeTo
theorem dX0_goOnFrom_0 : decode cX0_goOnFrom 0 = .ok (.aload_n 0, 1) := by decide +kernel
theorem dX0_goOnFrom_1 : decode cX0_goOnFrom 1 = .ok (.iload_n 1, 1) := by decide +kernel
theorem dX0_goOnFrom_2 : decode cX0_goOnFrom 2 = .ok (.invokevirtual 108, 3) := by decide +kernel
theorem dX0_goOnFrom_5 : decode cX0_goOnFrom 5 = .ok (.istore_n 3, 1) := by decide +kernel
theorem dX0_goOnFrom_6 : decode cX0_goOnFrom 6 = .ok (.iconst 0, 1) := by decide +kernel
theorem dX0_goOnFrom_7 : decode cX0_goOnFrom 7 = .ok (.istore 4, 2) := by decide +kernel
theorem dX0_goOnFrom_9 : decode cX0_goOnFrom 9 = .ok (.iload 4, 2) := by decide +kernel
theorem dX0_goOnFrom_11 : decode cX0_goOnFrom 11 = .ok (.iconst 1, 1) := by decide +kernel
theorem dX0_goOnFrom_12 : decode cX0_goOnFrom 12 = .ok (.aload_n 0, 1) := by decide +kernel
theorem dX0_goOnFrom_13 : decode cX0_goOnFrom 13 = .ok (.getfield 9, 3) := by decide +kernel
theorem dX0_goOnFrom_16 : decode cX0_goOnFrom 16 = .ok (.ishl, 1) := by decide +kernel
theorem dX0_goOnFrom_17 : decode cX0_goOnFrom 17 = .ok (.if_icmp .ge 47, 3) := by decide +kernel
theorem dX0_goOnFrom_20 : decode cX0_goOnFrom 20 = .ok (.aload_n 0, 1) := by decide +kernel
theorem dX0_goOnFrom_21 : decode cX0_goOnFrom 21 = .ok (.iload_n 1, 1) := by decide +kernel
theorem dX0_goOnFrom_22 : decode cX0_goOnFrom 22 = .ok (.iload 4, 2) := by decide +kernel
theorem dX0_goOnFrom_24 : decode cX0_goOnFrom 24 = .ok (.invokevirtual 111, 3) := by decide +kernel
theorem dX0_goOnFrom_27 : decode cX0_goOnFrom 27 = .ok (.istore 5, 2) := by decide +kernel
theorem dX0_goOnFrom_29 : decode cX0_goOnFrom 29 = .ok (.iload 5, 2) := by decide +kernel
theorem dX0_goOnFrom_31 : decode cX0_goOnFrom 31 = .ok (.iconst (-1), 1) := by decide +kernel
theorem dX0_goOnFrom_32 : decode cX0_goOnFrom 32 = .ok (.if_icmp .eq 26, 3) := by decide +kernel
theorem dX0_goOnFrom_35 : decode cX0_goOnFrom 35 = .ok (.aload_n 0, 1) := by decide +kernel
theorem dX0_goOnFrom_36 : decode cX0_goOnFrom 36 = .ok (.iload 5, 2) := by decide +kernel
theorem dX0_goOnFrom_38 : decode cX0_goOnFrom 38 = .ok (.bipush 16, 2) := by decide +kernel
theorem dX0_goOnFrom_40 : decode cX0_goOnFrom 40 = .ok (.idiv, 1) := by decide +kernel
theorem dX0_goOnFrom_41 : decode cX0_goOnFrom 41 = .ok (.iload_n 2, 1) := by decide +kernel
theorem dX0_goOnFrom_42 : decode cX0_goOnFrom 42 = .ok (.iload 5, 2) := by decide +kernel
theorem dX0_goOnFrom_44 : decode cX0_goOnFrom 44 = .ok (.bipush 16, 2) := by decide +kernel
theorem dX0_goOnFrom_46 : decode cX0_goOnFrom 46 = .ok (.irem, 1) := by decide +kernel
theorem dX0_goOnFrom_47 : decode cX0_goOnFrom 47 = .ok (.iadd, 1) := by decide +kernel
theorem dX0_goOnFrom_48 : decode cX0_goOnFrom 48 = .ok (.iload_n 3, 1) := by decide +kernel
theorem dX0_goOnFrom_49 : decode cX0_goOnFrom 49 = .ok (.iload 4, 2) := by decide +kernel
theorem dX0_goOnFrom_51 : decode cX0_goOnFrom 51 = .ok (.invokestatic 114, 3) := by decide +kernel
theorem dX0_goOnFrom_54 : decode cX0_goOnFrom 54 = .ok (.iadd, 1) := by decide +kernel
theorem dX0_goOnFrom_55 : decode cX0_goOnFrom 55 = .ok (.invokevirtual 96, 3) := by decide +kernel
theorem dX0_goOnFrom_58 : decode cX0_goOnFrom 58 = .ok (.iinc 4 1, 3) := by decide +kernel
theorem dX0_goOnFrom_61 : decode cX0_goOnFrom 61 = .ok (.goto (-52), 3) := by decide +kernel
theorem dX0_goOnFrom_64 : decode cX0_goOnFrom 64 = .ok (.return_, 1) := by decide +kernel
theorem dX0_comeTo_0 : decode cX0_comeTo 0 = .ok (.iload_n 1, 1) := by decide +kernel
theorem dX0_comeTo_1 : decode cX0_comeTo 1 = .ok (.ifCond .lt 21, 3) := by decide +kernel
theorem dX0_comeTo_4 : decode cX0_comeTo 4 = .ok (.iload_n 1, 1) := by decide +kernel
theorem dX0_comeTo_5 : decode cX0_comeTo 5 = .ok (.aload_n 0, 1) := by decide +kernel
theorem dX0_comeTo_6 : decode cX0_comeTo 6 = .ok (.getfield 42, 3) := by decide +kernel
theorem dX0_comeTo_9 : decode cX0_comeTo 9 = .ok (.arraylength, 1) := by decide +kernel
theorem dX0_comeTo_10 : decode cX0_comeTo 10 = .ok (.if_icmp .ge 12, 3) := by decide +kernel
theorem dX0_comeTo_13 : decode cX0_comeTo 13 = .ok (.iload_n 1, 1) := by decide +kernel
theorem dX0_comeTo_14 : decode cX0_comeTo 14 = .ok (.aload_n 0, 1) := by decide +kernel
theorem dX0_comeTo_15 : decode cX0_comeTo 15 = .ok (.getfield 45, 3) := by decide +kernel
theorem dX0_comeTo_18 : decode cX0_comeTo 18 = .ok (.arraylength, 1) := by decide +kernel
theorem dX0_comeTo_19 : decode cX0_comeTo 19 = .ok (.if_icmp .lt 4, 3) := by decide +kernel
theorem dX0_comeTo_22 : decode cX0_comeTo 22 = .ok (.return_, 1) := by decide +kernel
theorem dX0_comeTo_23 : decode cX0_comeTo 23 = .ok (.iload_n 2, 1) := by decide +kernel
theorem dX0_comeTo_24 : decode cX0_comeTo 24 = .ok (.aload_n 0, 1) := by decide +kernel
theorem dX0_comeTo_25 : decode cX0_comeTo 25 = .ok (.getfield 42, 3) := by decide +kernel
theorem dX0_comeTo_28 : decode cX0_comeTo 28 = .ok (.iload_n 1, 1) := by decide +kernel
theorem dX0_comeTo_29 : decode cX0_comeTo 29 = .ok (.iaload, 1) := by decide +kernel
theorem dX0_comeTo_30 : decode cX0_comeTo 30 = .ok (.if_icmp .lt 23, 3) := by decide +kernel
theorem dX0_comeTo_33 : decode cX0_comeTo 33 = .ok (.iload_n 2, 1) := by decide +kernel
theorem dX0_comeTo_34 : decode cX0_comeTo 34 = .ok (.aload_n 0, 1) := by decide +kernel
theorem dX0_comeTo_35 : decode cX0_comeTo 35 = .ok (.getfield 42, 3) := by decide +kernel
theorem dX0_comeTo_38 : decode cX0_comeTo 38 = .ok (.iload_n 1, 1) := by decide +kernel
theorem dX0_comeTo_39 : decode cX0_comeTo 39 = .ok (.iaload, 1) := by decide +kernel
theorem dX0_comeTo_40 : decode cX0_comeTo 40 = .ok (.if_icmp .ne 27, 3) := by decide +kernel
theorem dX0_comeTo_43 : decode cX0_comeTo 43 = .ok (.iload_n 3, 1) := by decide +kernel
theorem dX0_comeTo_44 : decode cX0_comeTo 44 = .ok (.aload_n 0, 1) := by decide +kernel
theorem dX0_comeTo_45 : decode cX0_comeTo 45 = .ok (.getfield 45, 3) := by decide +kernel
theorem dX0_comeTo_48 : decode cX0_comeTo 48 = .ok (.iload_n 1, 1) := by decide +kernel
theorem dX0_comeTo_49 : decode cX0_comeTo 49 = .ok (.iaload, 1) := by decide +kernel
theorem dX0_comeTo_50 : decode cX0_comeTo 50 = .ok (.if_icmp .ge 17, 3) := by decide +kernel
theorem dX0_comeTo_53 : decode cX0_comeTo 53 = .ok (.aload_n 0, 1) := by decide +kernel
theorem dX0_comeTo_54 : decode cX0_comeTo 54 = .ok (.getfield 42, 3) := by decide +kernel
theorem dX0_comeTo_57 : decode cX0_comeTo 57 = .ok (.iload_n 1, 1) := by decide +kernel
theorem dX0_comeTo_58 : decode cX0_comeTo 58 = .ok (.iload_n 2, 1) := by decide +kernel
theorem dX0_comeTo_59 : decode cX0_comeTo 59 = .ok (.iastore, 1) := by decide +kernel
theorem dX0_comeTo_60 : decode cX0_comeTo 60 = .ok (.aload_n 0, 1) := by decide +kernel
theorem dX0_comeTo_61 : decode cX0_comeTo 61 = .ok (.getfield 45, 3) := by decide +kernel
theorem dX0_comeTo_64 : decode cX0_comeTo 64 = .ok (.iload_n 1, 1) := by decide +kernel
theorem dX0_comeTo_65 : decode cX0_comeTo 65 = .ok (.iload_n 3, 1) := by decide +kernel
theorem dX0_comeTo_66 : decode cX0_comeTo 66 = .ok (.iastore, 1) := by decide +kernel
theorem dX0_comeTo_67 : decode cX0_comeTo 67 = .ok (.return_, 1) := by decide +kernel
theorem dX0_earlyAt_0 : decode cX0_earlyAt 0 = .ok (.iload_n 1, 1) := by decide +kernel
theorem dX0_earlyAt_1 : decode cX0_earlyAt 1 = .ok (.ifCond .lt 21, 3) := by decide +kernel
theorem dX0_earlyAt_4 : decode cX0_earlyAt 4 = .ok (.iload_n 1, 1) := by decide +kernel
theorem dX0_earlyAt_5 : decode cX0_earlyAt 5 = .ok (.aload_n 0, 1) := by decide +kernel
theorem dX0_earlyAt_6 : decode cX0_earlyAt 6 = .ok (.getfield 42, 3) := by decide +kernel
theorem dX0_earlyAt_9 : decode cX0_earlyAt 9 = .ok (.arraylength, 1) := by decide +kernel
theorem dX0_earlyAt_10 : decode cX0_earlyAt 10 = .ok (.if_icmp .ge 12, 3) := by decide +kernel
theorem dX0_earlyAt_13 : decode cX0_earlyAt 13 = .ok (.aload_n 0, 1) := by decide +kernel
theorem dX0_earlyAt_14 : decode cX0_earlyAt 14 = .ok (.getfield 42, 3) := by decide +kernel
theorem dX0_earlyAt_17 : decode cX0_earlyAt 17 = .ok (.iload_n 1, 1) := by decide +kernel
theorem dX0_earlyAt_18 : decode cX0_earlyAt 18 = .ok (.iaload, 1) := by decide +kernel
theorem dX0_earlyAt_19 : decode cX0_earlyAt 19 = .ok (.goto 5, 3) := by decide +kernel
theorem dX0_earlyAt_22 : decode cX0_earlyAt 22 = .ok (.ldc 77, 2) := by decide +kernel
theorem dX0_earlyAt_24 : decode cX0_earlyAt 24 = .ok (.ireturn, 1) := by decide +kernel
theorem dX0_turnedAt_0 : decode cX0_turnedAt 0 = .ok (.iload_n 1, 1) := by decide +kernel
theorem dX0_turnedAt_1 : decode cX0_turnedAt 1 = .ok (.ifCond .lt 21, 3) := by decide +kernel
theorem dX0_turnedAt_4 : decode cX0_turnedAt 4 = .ok (.iload_n 1, 1) := by decide +kernel
theorem dX0_turnedAt_5 : decode cX0_turnedAt 5 = .ok (.aload_n 0, 1) := by decide +kernel
theorem dX0_turnedAt_6 : decode cX0_turnedAt 6 = .ok (.getfield 45, 3) := by decide +kernel
theorem dX0_turnedAt_9 : decode cX0_turnedAt 9 = .ok (.arraylength, 1) := by decide +kernel
theorem dX0_turnedAt_10 : decode cX0_turnedAt 10 = .ok (.if_icmp .ge 12, 3) := by decide +kernel
theorem dX0_turnedAt_13 : decode cX0_turnedAt 13 = .ok (.aload_n 0, 1) := by decide +kernel
theorem dX0_turnedAt_14 : decode cX0_turnedAt 14 = .ok (.getfield 45, 3) := by decide +kernel
theorem dX0_turnedAt_17 : decode cX0_turnedAt 17 = .ok (.iload_n 1, 1) := by decide +kernel
theorem dX0_turnedAt_18 : decode cX0_turnedAt 18 = .ok (.iaload, 1) := by decide +kernel
theorem dX0_turnedAt_19 : decode cX0_turnedAt 19 = .ok (.goto 5, 3) := by decide +kernel
theorem dX0_turnedAt_22 : decode cX0_turnedAt 22 = .ok (.ldc 77, 2) := by decide +kernel
theorem dX0_turnedAt_24 : decode cX0_turnedAt 24 = .ok (.ireturn, 1) := by decide +kernel
set_option maxRecDepth 20000 in
theorem ggX0_lookAhead_X0_placeAhead : GoodIn wsX0_lookAhead wsX0_placeAhead := goodIn_r _ [8] (by decide +kernel) (by decide +kernel)
set_option maxRecDepth 20000 in
theorem gX0_lookAhead_X0_placeAhead : GoodIn wsX0_lookAhead (wsV RX0 119 RX0 yX0_placeAhead wsX0_placeAhead) := goodIn_app (goodIn_of _ (by decide +kernel)) ggX0_lookAhead_X0_placeAhead
set_option maxRecDepth 20000 in
theorem ggX0_lookAhead_X0_fewestTurned : GoodIn wsX0_lookAhead wsX0_fewestTurned := goodIn_r _ [12, 13, 14, 15, 16, 17, 18, 19, 20, 21, 7, 22, 23, 24, 25, 26, 27, 3, 4, 5, 6, 8, 28, 29, 30, 31, 32, 33, 34, 35, 36, 37, 38, 39, 40, 41, 42, 43, 44, 45, 46] (by decide +kernel) (by decide +kernel)
set_option maxRecDepth 20000 in
theorem gX0_lookAhead_X0_fewestTurned : GoodIn wsX0_lookAhead (wsV RX0 122 RX0 yX0_fewestTurned wsX0_fewestTurned) := goodIn_app (goodIn_of _ (by decide +kernel)) ggX0_lookAhead_X0_fewestTurned
theorem dX0_lookAhead_0 : decode cX0_lookAhead 0 = .ok (.iconst 0, 1) := by decide +kernel
theorem dX0_lookAhead_1 : decode cX0_lookAhead 1 = .ok (.istore_n 2, 1) := by decide +kernel
theorem dX0_lookAhead_2 : decode cX0_lookAhead 2 = .ok (.iload_n 2, 1) := by decide +kernel
theorem dX0_lookAhead_3 : decode cX0_lookAhead 3 = .ok (.aload_n 0, 1) := by decide +kernel
theorem dX0_lookAhead_4 : decode cX0_lookAhead 4 = .ok (.getfield 36, 3) := by decide +kernel
theorem dX0_lookAhead_7 : decode cX0_lookAhead 7 = .ok (.if_icmp .ge 68, 3) := by decide +kernel
theorem dX0_lookAhead_10 : decode cX0_lookAhead 10 = .ok (.iload_n 2, 1) := by decide +kernel
theorem dX0_lookAhead_11 : decode cX0_lookAhead 11 = .ok (.aload_n 0, 1) := by decide +kernel
theorem dX0_lookAhead_12 : decode cX0_lookAhead 12 = .ok (.getfield 29, 3) := by decide +kernel
theorem dX0_lookAhead_15 : decode cX0_lookAhead 15 = .ok (.arraylength, 1) := by decide +kernel
theorem dX0_lookAhead_16 : decode cX0_lookAhead 16 = .ok (.if_icmp .ge 59, 3) := by decide +kernel
theorem dX0_lookAhead_19 : decode cX0_lookAhead 19 = .ok (.aload_n 0, 1) := by decide +kernel
theorem dX0_lookAhead_20 : decode cX0_lookAhead 20 = .ok (.iload_n 1, 1) := by decide +kernel
theorem dX0_lookAhead_21 : decode cX0_lookAhead 21 = .ok (.aload_n 0, 1) := by decide +kernel
theorem dX0_lookAhead_22 : decode cX0_lookAhead 22 = .ok (.getfield 29, 3) := by decide +kernel
theorem dX0_lookAhead_25 : decode cX0_lookAhead 25 = .ok (.iload_n 2, 1) := by decide +kernel
theorem dX0_lookAhead_26 : decode cX0_lookAhead 26 = .ok (.iaload, 1) := by decide +kernel
theorem dX0_lookAhead_27 : decode cX0_lookAhead 27 = .ok (.invokevirtual 119, 3) := by decide +kernel
theorem dX0_lookAhead_30 : decode cX0_lookAhead 30 = .ok (.istore_n 3, 1) := by decide +kernel
theorem dX0_lookAhead_31 : decode cX0_lookAhead 31 = .ok (.iload_n 3, 1) := by decide +kernel
theorem dX0_lookAhead_32 : decode cX0_lookAhead 32 = .ok (.ifCond .lt 37, 3) := by decide +kernel
theorem dX0_lookAhead_35 : decode cX0_lookAhead 35 = .ok (.iload_n 3, 1) := by decide +kernel
theorem dX0_lookAhead_36 : decode cX0_lookAhead 36 = .ok (.aload_n 0, 1) := by decide +kernel
theorem dX0_lookAhead_37 : decode cX0_lookAhead 37 = .ok (.getfield 48, 3) := by decide +kernel
theorem dX0_lookAhead_40 : decode cX0_lookAhead 40 = .ok (.arraylength, 1) := by decide +kernel
theorem dX0_lookAhead_41 : decode cX0_lookAhead 41 = .ok (.if_icmp .ge 28, 3) := by decide +kernel
theorem dX0_lookAhead_44 : decode cX0_lookAhead 44 = .ok (.aload_n 0, 1) := by decide +kernel
theorem dX0_lookAhead_45 : decode cX0_lookAhead 45 = .ok (.getfield 48, 3) := by decide +kernel
theorem dX0_lookAhead_48 : decode cX0_lookAhead 48 = .ok (.iload_n 3, 1) := by decide +kernel
theorem dX0_lookAhead_49 : decode cX0_lookAhead 49 = .ok (.iload_n 1, 1) := by decide +kernel
theorem dX0_lookAhead_50 : decode cX0_lookAhead 50 = .ok (.ifCond .ne 7, 3) := by decide +kernel
theorem dX0_lookAhead_53 : decode cX0_lookAhead 53 = .ok (.iconst 0, 1) := by decide +kernel
theorem dX0_lookAhead_54 : decode cX0_lookAhead 54 = .ok (.goto 14, 3) := by decide +kernel
theorem dX0_lookAhead_57 : decode cX0_lookAhead 57 = .ok (.aload_n 0, 1) := by decide +kernel
theorem dX0_lookAhead_58 : decode cX0_lookAhead 58 = .ok (.aload_n 0, 1) := by decide +kernel
theorem dX0_lookAhead_59 : decode cX0_lookAhead 59 = .ok (.getfield 29, 3) := by decide +kernel
theorem dX0_lookAhead_62 : decode cX0_lookAhead 62 = .ok (.iload_n 2, 1) := by decide +kernel
theorem dX0_lookAhead_63 : decode cX0_lookAhead 63 = .ok (.iaload, 1) := by decide +kernel
theorem dX0_lookAhead_64 : decode cX0_lookAhead 64 = .ok (.iload_n 1, 1) := by decide +kernel
theorem dX0_lookAhead_65 : decode cX0_lookAhead 65 = .ok (.invokevirtual 122, 3) := by decide +kernel
theorem dX0_lookAhead_68 : decode cX0_lookAhead 68 = .ok (.iastore, 1) := by decide +kernel
theorem dX0_lookAhead_69 : decode cX0_lookAhead 69 = .ok (.iinc 2 1, 3) := by decide +kernel
theorem dX0_lookAhead_72 : decode cX0_lookAhead 72 = .ok (.goto (-70), 3) := by decide +kernel
theorem dX0_lookAhead_75 : decode cX0_lookAhead 75 = .ok (.return_, 1) := by decide +kernel
theorem dX0_placeAhead_0 : decode cX0_placeAhead 0 = .ok (.iload_n 2, 1) := by decide +kernel
theorem dX0_placeAhead_1 : decode cX0_placeAhead 1 = .ok (.bipush 13, 2) := by decide +kernel
theorem dX0_placeAhead_3 : decode cX0_placeAhead 3 = .ok (.imul, 1) := by decide +kernel
theorem dX0_placeAhead_4 : decode cX0_placeAhead 4 = .ok (.iload_n 1, 1) := by decide +kernel
theorem dX0_placeAhead_5 : decode cX0_placeAhead 5 = .ok (.bipush 13, 2) := by decide +kernel
theorem dX0_placeAhead_7 : decode cX0_placeAhead 7 = .ok (.irem, 1) := by decide +kernel
theorem dX0_placeAhead_8 : decode cX0_placeAhead 8 = .ok (.iadd, 1) := by decide +kernel
theorem dX0_placeAhead_9 : decode cX0_placeAhead 9 = .ok (.ireturn, 1) := by decide +kernel
set_option maxRecDepth 20000 in
theorem ggX0_aheadAt_X0_placeAhead : GoodIn wsX0_aheadAt wsX0_placeAhead := goodIn_r _ [7] (by decide +kernel) (by decide +kernel)
set_option maxRecDepth 20000 in
theorem gX0_aheadAt_X0_placeAhead : GoodIn wsX0_aheadAt (wsV RX0 119 RX0 yX0_placeAhead wsX0_placeAhead) := goodIn_app (goodIn_of _ (by decide +kernel)) ggX0_aheadAt_X0_placeAhead
theorem dX0_aheadAt_0 : decode cX0_aheadAt 0 = .ok (.aload_n 0, 1) := by decide +kernel
theorem dX0_aheadAt_1 : decode cX0_aheadAt 1 = .ok (.iload_n 1, 1) := by decide +kernel
theorem dX0_aheadAt_2 : decode cX0_aheadAt 2 = .ok (.iload_n 2, 1) := by decide +kernel
theorem dX0_aheadAt_3 : decode cX0_aheadAt 3 = .ok (.invokevirtual 119, 3) := by decide +kernel
theorem dX0_aheadAt_6 : decode cX0_aheadAt 6 = .ok (.istore_n 3, 1) := by decide +kernel
theorem dX0_aheadAt_7 : decode cX0_aheadAt 7 = .ok (.iload_n 3, 1) := by decide +kernel
theorem dX0_aheadAt_8 : decode cX0_aheadAt 8 = .ok (.ifCond .lt 21, 3) := by decide +kernel
theorem dX0_aheadAt_11 : decode cX0_aheadAt 11 = .ok (.iload_n 3, 1) := by decide +kernel
theorem dX0_aheadAt_12 : decode cX0_aheadAt 12 = .ok (.aload_n 0, 1) := by decide +kernel
theorem dX0_aheadAt_13 : decode cX0_aheadAt 13 = .ok (.getfield 48, 3) := by decide +kernel
theorem dX0_aheadAt_16 : decode cX0_aheadAt 16 = .ok (.arraylength, 1) := by decide +kernel
theorem dX0_aheadAt_17 : decode cX0_aheadAt 17 = .ok (.if_icmp .ge 12, 3) := by decide +kernel
theorem dX0_aheadAt_20 : decode cX0_aheadAt 20 = .ok (.aload_n 0, 1) := by decide +kernel
theorem dX0_aheadAt_21 : decode cX0_aheadAt 21 = .ok (.getfield 48, 3) := by decide +kernel
theorem dX0_aheadAt_24 : decode cX0_aheadAt 24 = .ok (.iload_n 3, 1) := by decide +kernel
theorem dX0_aheadAt_25 : decode cX0_aheadAt 25 = .ok (.iaload, 1) := by decide +kernel
theorem dX0_aheadAt_26 : decode cX0_aheadAt 26 = .ok (.goto 5, 3) := by decide +kernel
theorem dX0_aheadAt_29 : decode cX0_aheadAt 29 = .ok (.ldc 77, 2) := by decide +kernel
theorem dX0_aheadAt_31 : decode cX0_aheadAt 31 = .ok (.ireturn, 1) := by decide +kernel
set_option maxRecDepth 20000 in
theorem ggX0_fewestTurned_X0_leapBy : GoodIn wsX0_fewestTurned wsX0_leapBy := goodIn_r _ [11, 12, 29, 30, 31, 32, 33, 34, 35, 36, 37, 38, 39, 40] (by decide +kernel) (by decide +kernel)
set_option maxRecDepth 20000 in
theorem gX0_fewestTurned_X0_leapBy : GoodIn wsX0_fewestTurned (wsV RX0 111 RX0 yX0_leapBy wsX0_leapBy) := goodIn_app (goodIn_of _ (by decide +kernel)) ggX0_fewestTurned_X0_leapBy
set_option maxRecDepth 20000 in
theorem ggX0_fewestTurned_X0_aheadAt : GoodIn wsX0_fewestTurned wsX0_aheadAt := goodIn_r _ [16, 17, 1, 18, 19, 20, 10, 21, 29, 30, 31, 32, 33, 34, 35, 36, 37, 38, 39, 40] (by decide +kernel) (by decide +kernel)
set_option maxRecDepth 20000 in
theorem gX0_fewestTurned_X0_aheadAt : GoodIn wsX0_fewestTurned (wsV RX0 125 RX0 yX0_aheadAt wsX0_aheadAt) := goodIn_app (goodIn_of _ (by decide +kernel)) ggX0_fewestTurned_X0_aheadAt
set_option maxRecDepth 20000 in
theorem ggX0_fewestTurned_J6_bitCount_0f7a4 : GoodIn wsX0_fewestTurned wsJ6_bitCount_0f7a4 := goodIn_r _ [25, 26, 27, 28] (by decide +kernel) (by decide +kernel)
set_option maxRecDepth 20000 in
theorem gX0_fewestTurned_J6_bitCount_0f7a4 : GoodIn wsX0_fewestTurned (va_wsS RX0 114 yJ6_bitCount_0f7a4 wsJ6_bitCount_0f7a4) := goodIn_app (goodIn_of _ (by decide +kernel)) ggX0_fewestTurned_J6_bitCount_0f7a4
theorem dX0_fewestTurned_0 : decode cX0_fewestTurned 0 = .ok (.ldc 77, 2) := by decide +kernel
theorem dX0_fewestTurned_2 : decode cX0_fewestTurned 2 = .ok (.istore_n 3, 1) := by decide +kernel
theorem dX0_fewestTurned_3 : decode cX0_fewestTurned 3 = .ok (.iconst 0, 1) := by decide +kernel
theorem dX0_fewestTurned_4 : decode cX0_fewestTurned 4 = .ok (.istore 4, 2) := by decide +kernel
theorem dX0_fewestTurned_6 : decode cX0_fewestTurned 6 = .ok (.iload 4, 2) := by decide +kernel
theorem dX0_fewestTurned_8 : decode cX0_fewestTurned 8 = .ok (.iconst 1, 1) := by decide +kernel
theorem dX0_fewestTurned_9 : decode cX0_fewestTurned 9 = .ok (.aload_n 0, 1) := by decide +kernel
theorem dX0_fewestTurned_10 : decode cX0_fewestTurned 10 = .ok (.getfield 9, 3) := by decide +kernel
theorem dX0_fewestTurned_13 : decode cX0_fewestTurned 13 = .ok (.ishl, 1) := by decide +kernel
theorem dX0_fewestTurned_14 : decode cX0_fewestTurned 14 = .ok (.if_icmp .ge 74, 3) := by decide +kernel
theorem dX0_fewestTurned_17 : decode cX0_fewestTurned 17 = .ok (.aload_n 0, 1) := by decide +kernel
theorem dX0_fewestTurned_18 : decode cX0_fewestTurned 18 = .ok (.iload_n 1, 1) := by decide +kernel
theorem dX0_fewestTurned_19 : decode cX0_fewestTurned 19 = .ok (.iload 4, 2) := by decide +kernel
theorem dX0_fewestTurned_21 : decode cX0_fewestTurned 21 = .ok (.invokevirtual 111, 3) := by decide +kernel
theorem dX0_fewestTurned_24 : decode cX0_fewestTurned 24 = .ok (.istore 5, 2) := by decide +kernel
theorem dX0_fewestTurned_26 : decode cX0_fewestTurned 26 = .ok (.iload 5, 2) := by decide +kernel
theorem dX0_fewestTurned_28 : decode cX0_fewestTurned 28 = .ok (.iconst (-1), 1) := by decide +kernel
theorem dX0_fewestTurned_29 : decode cX0_fewestTurned 29 = .ok (.if_icmp .eq 53, 3) := by decide +kernel
theorem dX0_fewestTurned_32 : decode cX0_fewestTurned 32 = .ok (.iload 5, 2) := by decide +kernel
theorem dX0_fewestTurned_34 : decode cX0_fewestTurned 34 = .ok (.bipush 16, 2) := by decide +kernel
theorem dX0_fewestTurned_36 : decode cX0_fewestTurned 36 = .ok (.irem, 1) := by decide +kernel
theorem dX0_fewestTurned_37 : decode cX0_fewestTurned 37 = .ok (.iload_n 2, 1) := by decide +kernel
theorem dX0_fewestTurned_38 : decode cX0_fewestTurned 38 = .ok (.if_icmp .le 6, 3) := by decide +kernel
theorem dX0_fewestTurned_41 : decode cX0_fewestTurned 41 = .ok (.goto 41, 3) := by decide +kernel
theorem dX0_fewestTurned_44 : decode cX0_fewestTurned 44 = .ok (.aload_n 0, 1) := by decide +kernel
theorem dX0_fewestTurned_45 : decode cX0_fewestTurned 45 = .ok (.iload_n 2, 1) := by decide +kernel
theorem dX0_fewestTurned_46 : decode cX0_fewestTurned 46 = .ok (.iload 5, 2) := by decide +kernel
theorem dX0_fewestTurned_48 : decode cX0_fewestTurned 48 = .ok (.bipush 16, 2) := by decide +kernel
theorem dX0_fewestTurned_50 : decode cX0_fewestTurned 50 = .ok (.irem, 1) := by decide +kernel
theorem dX0_fewestTurned_51 : decode cX0_fewestTurned 51 = .ok (.isub, 1) := by decide +kernel
theorem dX0_fewestTurned_52 : decode cX0_fewestTurned 52 = .ok (.iload 5, 2) := by decide +kernel
theorem dX0_fewestTurned_54 : decode cX0_fewestTurned 54 = .ok (.bipush 16, 2) := by decide +kernel
theorem dX0_fewestTurned_56 : decode cX0_fewestTurned 56 = .ok (.idiv, 1) := by decide +kernel
theorem dX0_fewestTurned_57 : decode cX0_fewestTurned 57 = .ok (.invokevirtual 125, 3) := by decide +kernel
theorem dX0_fewestTurned_60 : decode cX0_fewestTurned 60 = .ok (.istore 6, 2) := by decide +kernel
theorem dX0_fewestTurned_62 : decode cX0_fewestTurned 62 = .ok (.iload 6, 2) := by decide +kernel
theorem dX0_fewestTurned_64 : decode cX0_fewestTurned 64 = .ok (.ldc 77, 2) := by decide +kernel
theorem dX0_fewestTurned_66 : decode cX0_fewestTurned 66 = .ok (.if_icmp .ge 16, 3) := by decide +kernel
theorem dX0_fewestTurned_69 : decode cX0_fewestTurned 69 = .ok (.iload_n 3, 1) := by decide +kernel
theorem dX0_fewestTurned_70 : decode cX0_fewestTurned 70 = .ok (.iload 6, 2) := by decide +kernel
theorem dX0_fewestTurned_72 : decode cX0_fewestTurned 72 = .ok (.iload 4, 2) := by decide +kernel
theorem dX0_fewestTurned_74 : decode cX0_fewestTurned 74 = .ok (.invokestatic 114, 3) := by decide +kernel
theorem dX0_fewestTurned_77 : decode cX0_fewestTurned 77 = .ok (.iadd, 1) := by decide +kernel
theorem dX0_fewestTurned_78 : decode cX0_fewestTurned 78 = .ok (.invokestatic 128, 3) := by decide +kernel
theorem dX0_fewestTurned_81 : decode cX0_fewestTurned 81 = .ok (.istore_n 3, 1) := by decide +kernel
theorem dX0_fewestTurned_82 : decode cX0_fewestTurned 82 = .ok (.iinc 4 1, 3) := by decide +kernel
theorem dX0_fewestTurned_85 : decode cX0_fewestTurned 85 = .ok (.goto (-79), 3) := by decide +kernel
theorem dX0_fewestTurned_88 : decode cX0_fewestTurned 88 = .ok (.iload_n 3, 1) := by decide +kernel
theorem dX0_fewestTurned_89 : decode cX0_fewestTurned 89 = .ok (.ireturn, 1) := by decide +kernel
set_option maxRecDepth 20000 in
theorem ggX0_answer_X0_aheadAt : GoodIn wsX0_answer wsX0_aheadAt := goodIn_r _ [14, 15, 1, 16, 17, 18, 13, 19, 30, 31, 32, 33, 34, 35, 36, 37, 38, 39, 40, 41] (by decide +kernel) (by decide +kernel)
set_option maxRecDepth 20000 in
theorem gX0_answer_X0_aheadAt : GoodIn wsX0_answer (wsV RX0 125 RX0 yX0_aheadAt wsX0_aheadAt) := goodIn_app (goodIn_of _ (by decide +kernel)) ggX0_answer_X0_aheadAt
set_option maxRecDepth 20000 in
theorem ggX0_answer_X0_earlyAt : GoodIn wsX0_answer wsX0_earlyAt := goodIn_r _ [23, 24, 1, 30, 31, 32, 33, 34, 35, 36, 37, 38, 39, 40, 41] (by decide +kernel) (by decide +kernel)
set_option maxRecDepth 20000 in
theorem gX0_answer_X0_earlyAt : GoodIn wsX0_answer (wsV RX0 100 RX0 yX0_earlyAt wsX0_earlyAt) := goodIn_app (goodIn_of _ (by decide +kernel)) ggX0_answer_X0_earlyAt
set_option maxRecDepth 20000 in
theorem ggX0_answer_X0_turnedAt : GoodIn wsX0_answer wsX0_turnedAt := goodIn_r _ [28, 29, 1, 30, 31, 32, 33, 34, 35, 36, 37, 38, 39, 40, 41] (by decide +kernel) (by decide +kernel)
set_option maxRecDepth 20000 in
theorem gX0_answer_X0_turnedAt : GoodIn wsX0_answer (wsV RX0 108 RX0 yX0_turnedAt wsX0_turnedAt) := goodIn_app (goodIn_of _ (by decide +kernel)) ggX0_answer_X0_turnedAt
theorem dX0_answer_0 : decode cX0_answer 0 = .ok (.ldc 77, 2) := by decide +kernel
theorem dX0_answer_2 : decode cX0_answer 2 = .ok (.istore_n 2, 1) := by decide +kernel
theorem dX0_answer_3 : decode cX0_answer 3 = .ok (.ldc 77, 2) := by decide +kernel
theorem dX0_answer_5 : decode cX0_answer 5 = .ok (.istore_n 3, 1) := by decide +kernel
theorem dX0_answer_6 : decode cX0_answer 6 = .ok (.iconst 0, 1) := by decide +kernel
theorem dX0_answer_7 : decode cX0_answer 7 = .ok (.istore 4, 2) := by decide +kernel
theorem dX0_answer_9 : decode cX0_answer 9 = .ok (.iload 4, 2) := by decide +kernel
theorem dX0_answer_11 : decode cX0_answer 11 = .ok (.aload_n 0, 1) := by decide +kernel
theorem dX0_answer_12 : decode cX0_answer 12 = .ok (.getfield 36, 3) := by decide +kernel
theorem dX0_answer_15 : decode cX0_answer 15 = .ok (.if_icmp .ge 100, 3) := by decide +kernel
theorem dX0_answer_18 : decode cX0_answer 18 = .ok (.iload 4, 2) := by decide +kernel
theorem dX0_answer_20 : decode cX0_answer 20 = .ok (.aload_n 0, 1) := by decide +kernel
theorem dX0_answer_21 : decode cX0_answer 21 = .ok (.getfield 29, 3) := by decide +kernel
theorem dX0_answer_24 : decode cX0_answer 24 = .ok (.arraylength, 1) := by decide +kernel
theorem dX0_answer_25 : decode cX0_answer 25 = .ok (.if_icmp .ge 90, 3) := by decide +kernel
theorem dX0_answer_28 : decode cX0_answer 28 = .ok (.aload_n 0, 1) := by decide +kernel
theorem dX0_answer_29 : decode cX0_answer 29 = .ok (.iload_n 1, 1) := by decide +kernel
theorem dX0_answer_30 : decode cX0_answer 30 = .ok (.aload_n 0, 1) := by decide +kernel
theorem dX0_answer_31 : decode cX0_answer 31 = .ok (.getfield 29, 3) := by decide +kernel
theorem dX0_answer_34 : decode cX0_answer 34 = .ok (.iload 4, 2) := by decide +kernel
theorem dX0_answer_36 : decode cX0_answer 36 = .ok (.iaload, 1) := by decide +kernel
theorem dX0_answer_37 : decode cX0_answer 37 = .ok (.invokevirtual 125, 3) := by decide +kernel
theorem dX0_answer_40 : decode cX0_answer 40 = .ok (.istore 5, 2) := by decide +kernel
theorem dX0_answer_42 : decode cX0_answer 42 = .ok (.aload_n 0, 1) := by decide +kernel
theorem dX0_answer_43 : decode cX0_answer 43 = .ok (.aload_n 0, 1) := by decide +kernel
theorem dX0_answer_44 : decode cX0_answer 44 = .ok (.getfield 29, 3) := by decide +kernel
theorem dX0_answer_47 : decode cX0_answer 47 = .ok (.iload 4, 2) := by decide +kernel
theorem dX0_answer_49 : decode cX0_answer 49 = .ok (.iaload, 1) := by decide +kernel
theorem dX0_answer_50 : decode cX0_answer 50 = .ok (.invokevirtual 100, 3) := by decide +kernel
theorem dX0_answer_53 : decode cX0_answer 53 = .ok (.istore 6, 2) := by decide +kernel
theorem dX0_answer_55 : decode cX0_answer 55 = .ok (.iload 5, 2) := by decide +kernel
theorem dX0_answer_57 : decode cX0_answer 57 = .ok (.ldc 77, 2) := by decide +kernel
theorem dX0_answer_59 : decode cX0_answer 59 = .ok (.if_icmp .eq 50, 3) := by decide +kernel
theorem dX0_answer_62 : decode cX0_answer 62 = .ok (.iload 6, 2) := by decide +kernel
theorem dX0_answer_64 : decode cX0_answer 64 = .ok (.bipush 60, 2) := by decide +kernel
theorem dX0_answer_66 : decode cX0_answer 66 = .ok (.if_icmp .gt 43, 3) := by decide +kernel
theorem dX0_answer_69 : decode cX0_answer 69 = .ok (.iload 6, 2) := by decide +kernel
theorem dX0_answer_71 : decode cX0_answer 71 = .ok (.iload_n 2, 1) := by decide +kernel
theorem dX0_answer_72 : decode cX0_answer 72 = .ok (.if_icmp .le 6, 3) := by decide +kernel
theorem dX0_answer_75 : decode cX0_answer 75 = .ok (.goto 34, 3) := by decide +kernel
theorem dX0_answer_78 : decode cX0_answer 78 = .ok (.iload 6, 2) := by decide +kernel
theorem dX0_answer_80 : decode cX0_answer 80 = .ok (.iload_n 2, 1) := by decide +kernel
theorem dX0_answer_81 : decode cX0_answer 81 = .ok (.if_icmp .ge 9, 3) := by decide +kernel
theorem dX0_answer_84 : decode cX0_answer 84 = .ok (.iload 6, 2) := by decide +kernel
theorem dX0_answer_86 : decode cX0_answer 86 = .ok (.istore_n 2, 1) := by decide +kernel
theorem dX0_answer_87 : decode cX0_answer 87 = .ok (.ldc 77, 2) := by decide +kernel
theorem dX0_answer_89 : decode cX0_answer 89 = .ok (.istore_n 3, 1) := by decide +kernel
theorem dX0_answer_90 : decode cX0_answer 90 = .ok (.iload_n 3, 1) := by decide +kernel
theorem dX0_answer_91 : decode cX0_answer 91 = .ok (.aload_n 0, 1) := by decide +kernel
theorem dX0_answer_92 : decode cX0_answer 92 = .ok (.aload_n 0, 1) := by decide +kernel
theorem dX0_answer_93 : decode cX0_answer 93 = .ok (.getfield 29, 3) := by decide +kernel
theorem dX0_answer_96 : decode cX0_answer 96 = .ok (.iload 4, 2) := by decide +kernel
theorem dX0_answer_98 : decode cX0_answer 98 = .ok (.iaload, 1) := by decide +kernel
theorem dX0_answer_99 : decode cX0_answer 99 = .ok (.invokevirtual 108, 3) := by decide +kernel
theorem dX0_answer_102 : decode cX0_answer 102 = .ok (.iload 5, 2) := by decide +kernel
theorem dX0_answer_104 : decode cX0_answer 104 = .ok (.iadd, 1) := by decide +kernel
theorem dX0_answer_105 : decode cX0_answer 105 = .ok (.invokestatic 128, 3) := by decide +kernel
theorem dX0_answer_108 : decode cX0_answer 108 = .ok (.istore_n 3, 1) := by decide +kernel
theorem dX0_answer_109 : decode cX0_answer 109 = .ok (.iinc 4 1, 3) := by decide +kernel
theorem dX0_answer_112 : decode cX0_answer 112 = .ok (.goto (-103), 3) := by decide +kernel
theorem dX0_answer_115 : decode cX0_answer 115 = .ok (.iload_n 1, 1) := by decide +kernel
theorem dX0_answer_116 : decode cX0_answer 116 = .ok (.ifCond .lt 43, 3) := by decide +kernel
theorem dX0_answer_119 : decode cX0_answer 119 = .ok (.iload_n 1, 1) := by decide +kernel
theorem dX0_answer_120 : decode cX0_answer 120 = .ok (.bipush 40, 2) := by decide +kernel
theorem dX0_answer_122 : decode cX0_answer 122 = .ok (.if_icmp .gt 37, 3) := by decide +kernel
theorem dX0_answer_125 : decode cX0_answer 125 = .ok (.aload_n 0, 1) := by decide +kernel
theorem dX0_answer_126 : decode cX0_answer 126 = .ok (.getfield 19, 3) := by decide +kernel
theorem dX0_answer_129 : decode cX0_answer 129 = .ok (.iload_n 1, 1) := by decide +kernel
theorem dX0_answer_130 : decode cX0_answer 130 = .ok (.iload_n 2, 1) := by decide +kernel
theorem dX0_answer_131 : decode cX0_answer 131 = .ok (.ldc 77, 2) := by decide +kernel
theorem dX0_answer_133 : decode cX0_answer 133 = .ok (.if_icmp .ne 7, 3) := by decide +kernel
theorem dX0_answer_136 : decode cX0_answer 136 = .ok (.iconst (-1), 1) := by decide +kernel
theorem dX0_answer_137 : decode cX0_answer 137 = .ok (.goto 4, 3) := by decide +kernel
theorem dX0_answer_140 : decode cX0_answer 140 = .ok (.iload_n 2, 1) := by decide +kernel
theorem dX0_answer_141 : decode cX0_answer 141 = .ok (.iastore, 1) := by decide +kernel
theorem dX0_answer_142 : decode cX0_answer 142 = .ok (.aload_n 0, 1) := by decide +kernel
theorem dX0_answer_143 : decode cX0_answer 143 = .ok (.getfield 22, 3) := by decide +kernel
theorem dX0_answer_146 : decode cX0_answer 146 = .ok (.iload_n 1, 1) := by decide +kernel
theorem dX0_answer_147 : decode cX0_answer 147 = .ok (.iload_n 2, 1) := by decide +kernel
theorem dX0_answer_148 : decode cX0_answer 148 = .ok (.ldc 77, 2) := by decide +kernel
theorem dX0_answer_150 : decode cX0_answer 150 = .ok (.if_icmp .ne 7, 3) := by decide +kernel
theorem dX0_answer_153 : decode cX0_answer 153 = .ok (.iconst (-1), 1) := by decide +kernel
theorem dX0_answer_154 : decode cX0_answer 154 = .ok (.goto 4, 3) := by decide +kernel
theorem dX0_answer_157 : decode cX0_answer 157 = .ok (.iload_n 3, 1) := by decide +kernel
theorem dX0_answer_158 : decode cX0_answer 158 = .ok (.iastore, 1) := by decide +kernel
theorem dX0_answer_159 : decode cX0_answer 159 = .ok (.return_, 1) := by decide +kernel
theorem dX1_init_0 : decode cX1_init 0 = .ok (.aload_n 0, 1) := by decide +kernel
theorem dX1_init_1 : decode cX1_init 1 = .ok (.invokespecial 3, 3) := by decide +kernel
theorem dX1_init_4 : decode cX1_init 4 = .ok (.aload_n 0, 1) := by decide +kernel
theorem dX1_init_5 : decode cX1_init 5 = .ok (.iconst 0, 1) := by decide +kernel
theorem dX1_init_6 : decode cX1_init 6 = .ok (.putfield 9, 3) := by decide +kernel
theorem dX1_init_9 : decode cX1_init 9 = .ok (.aload_n 0, 1) := by decide +kernel
theorem dX1_init_10 : decode cX1_init 10 = .ok (.iconst 1, 1) := by decide +kernel
theorem dX1_init_11 : decode cX1_init 11 = .ok (.putfield 15, 3) := by decide +kernel
theorem dX1_init_14 : decode cX1_init 14 = .ok (.aload_n 0, 1) := by decide +kernel
theorem dX1_init_15 : decode cX1_init 15 = .ok (.iconst 1, 1) := by decide +kernel
theorem dX1_init_16 : decode cX1_init 16 = .ok (.putfield 18, 3) := by decide +kernel
theorem dX1_init_19 : decode cX1_init 19 = .ok (.aload_n 0, 1) := by decide +kernel
theorem dX1_init_20 : decode cX1_init 20 = .ok (.iconst 1, 1) := by decide +kernel
theorem dX1_init_21 : decode cX1_init 21 = .ok (.putfield 22, 3) := by decide +kernel
theorem dX1_init_24 : decode cX1_init 24 = .ok (.aload_n 0, 1) := by decide +kernel
theorem dX1_init_25 : decode cX1_init 25 = .ok (.iconst 4, 1) := by decide +kernel
theorem dX1_init_26 : decode cX1_init 26 = .ok (.newarray .int, 2) := by decide +kernel
theorem dX1_init_28 : decode cX1_init 28 = .ok (.putfield 25, 3) := by decide +kernel
theorem dX1_init_31 : decode cX1_init 31 = .ok (.aload_n 0, 1) := by decide +kernel
theorem dX1_init_32 : decode cX1_init 32 = .ok (.iconst 4, 1) := by decide +kernel
theorem dX1_init_33 : decode cX1_init 33 = .ok (.newarray .int, 2) := by decide +kernel
theorem dX1_init_35 : decode cX1_init 35 = .ok (.putfield 29, 3) := by decide +kernel
theorem dX1_init_38 : decode cX1_init 38 = .ok (.aload_n 0, 1) := by decide +kernel
theorem dX1_init_39 : decode cX1_init 39 = .ok (.iconst 4, 1) := by decide +kernel
theorem dX1_init_40 : decode cX1_init 40 = .ok (.newarray .int, 2) := by decide +kernel
theorem dX1_init_42 : decode cX1_init 42 = .ok (.putfield 32, 3) := by decide +kernel
theorem dX1_init_45 : decode cX1_init 45 = .ok (.return_, 1) := by decide +kernel
theorem dX1_has_0 : decode cX1_has 0 = .ok (.iload_n 1, 1) := by decide +kernel
theorem dX1_has_1 : decode cX1_has 1 = .ok (.ifCond .lt 20, 3) := by decide +kernel
theorem dX1_has_4 : decode cX1_has 4 = .ok (.iload_n 1, 1) := by decide +kernel
theorem dX1_has_5 : decode cX1_has 5 = .ok (.aload_n 0, 1) := by decide +kernel
theorem dX1_has_6 : decode cX1_has 6 = .ok (.getfield 9, 3) := by decide +kernel
theorem dX1_has_9 : decode cX1_has 9 = .ok (.if_icmp .ge 12, 3) := by decide +kernel
theorem dX1_has_12 : decode cX1_has 12 = .ok (.iload_n 1, 1) := by decide +kernel
theorem dX1_has_13 : decode cX1_has 13 = .ok (.iconst 4, 1) := by decide +kernel
theorem dX1_has_14 : decode cX1_has 14 = .ok (.if_icmp .ge 7, 3) := by decide +kernel
theorem dX1_has_17 : decode cX1_has 17 = .ok (.iconst 1, 1) := by decide +kernel
theorem dX1_has_18 : decode cX1_has 18 = .ok (.goto 4, 3) := by decide +kernel
theorem dX1_has_21 : decode cX1_has 21 = .ok (.iconst 0, 1) := by decide +kernel
theorem dX1_has_22 : decode cX1_has 22 = .ok (.ireturn, 1) := by decide +kernel
theorem dX1_add_0 : decode cX1_add 0 = .ok (.aload_n 0, 1) := by decide +kernel
theorem dX1_add_1 : decode cX1_add 1 = .ok (.getfield 9, 3) := by decide +kernel
theorem dX1_add_4 : decode cX1_add 4 = .ok (.iconst 4, 1) := by decide +kernel
theorem dX1_add_5 : decode cX1_add 5 = .ok (.if_icmp .lt 6, 3) := by decide +kernel
theorem dX1_add_8 : decode cX1_add 8 = .ok (.bipush (-4), 2) := by decide +kernel
theorem dX1_add_10 : decode cX1_add 10 = .ok (.ireturn, 1) := by decide +kernel
theorem dX1_add_11 : decode cX1_add 11 = .ok (.aload_n 0, 1) := by decide +kernel
theorem dX1_add_12 : decode cX1_add 12 = .ok (.getfield 25, 3) := by decide +kernel
theorem dX1_add_15 : decode cX1_add 15 = .ok (.aload_n 0, 1) := by decide +kernel
theorem dX1_add_16 : decode cX1_add 16 = .ok (.getfield 9, 3) := by decide +kernel
theorem dX1_add_19 : decode cX1_add 19 = .ok (.iload_n 1, 1) := by decide +kernel
theorem dX1_add_20 : decode cX1_add 20 = .ok (.iastore, 1) := by decide +kernel
theorem dX1_add_21 : decode cX1_add 21 = .ok (.aload_n 0, 1) := by decide +kernel
theorem dX1_add_22 : decode cX1_add 22 = .ok (.getfield 29, 3) := by decide +kernel
theorem dX1_add_25 : decode cX1_add 25 = .ok (.aload_n 0, 1) := by decide +kernel
theorem dX1_add_26 : decode cX1_add 26 = .ok (.getfield 9, 3) := by decide +kernel
theorem dX1_add_29 : decode cX1_add 29 = .ok (.iload_n 2, 1) := by decide +kernel
theorem dX1_add_30 : decode cX1_add 30 = .ok (.iastore, 1) := by decide +kernel
theorem dX1_add_31 : decode cX1_add 31 = .ok (.aload_n 0, 1) := by decide +kernel
theorem dX1_add_32 : decode cX1_add 32 = .ok (.getfield 32, 3) := by decide +kernel
theorem dX1_add_35 : decode cX1_add 35 = .ok (.aload_n 0, 1) := by decide +kernel
theorem dX1_add_36 : decode cX1_add 36 = .ok (.getfield 9, 3) := by decide +kernel
theorem dX1_add_39 : decode cX1_add 39 = .ok (.aload_n 0, 1) := by decide +kernel
theorem dX1_add_40 : decode cX1_add 40 = .ok (.getfield 15, 3) := by decide +kernel
theorem dX1_add_43 : decode cX1_add 43 = .ok (.iastore, 1) := by decide +kernel
theorem dX1_add_44 : decode cX1_add 44 = .ok (.aload_n 0, 1) := by decide +kernel
theorem dX1_add_45 : decode cX1_add 45 = .ok (.dup, 1) := by decide +kernel
theorem dX1_add_46 : decode cX1_add 46 = .ok (.getfield 15, 3) := by decide +kernel
theorem dX1_add_49 : decode cX1_add 49 = .ok (.iload_n 1, 1) := by decide +kernel
theorem dX1_add_50 : decode cX1_add 50 = .ok (.iconst 1, 1) := by decide +kernel
theorem dX1_add_51 : decode cX1_add 51 = .ok (.iadd, 1) := by decide +kernel
theorem dX1_add_52 : decode cX1_add 52 = .ok (.imul, 1) := by decide +kernel
theorem dX1_add_53 : decode cX1_add 53 = .ok (.putfield 15, 3) := by decide +kernel
theorem dX1_add_56 : decode cX1_add 56 = .ok (.aload_n 0, 1) := by decide +kernel
theorem dX1_add_57 : decode cX1_add 57 = .ok (.dup, 1) := by decide +kernel
theorem dX1_add_58 : decode cX1_add 58 = .ok (.getfield 9, 3) := by decide +kernel
theorem dX1_add_61 : decode cX1_add 61 = .ok (.iconst 1, 1) := by decide +kernel
theorem dX1_add_62 : decode cX1_add 62 = .ok (.iadd, 1) := by decide +kernel
theorem dX1_add_63 : decode cX1_add 63 = .ok (.putfield 9, 3) := by decide +kernel
theorem dX1_add_66 : decode cX1_add 66 = .ok (.aload_n 0, 1) := by decide +kernel
theorem dX1_add_67 : decode cX1_add 67 = .ok (.getfield 9, 3) := by decide +kernel
theorem dX1_add_70 : decode cX1_add 70 = .ok (.iconst 1, 1) := by decide +kernel
theorem dX1_add_71 : decode cX1_add 71 = .ok (.isub, 1) := by decide +kernel
theorem dX1_add_72 : decode cX1_add 72 = .ok (.ireturn, 1) := by decide +kernel
theorem dX1_removeAll_0 : decode cX1_removeAll 0 = .ok (.aload_n 0, 1) := by decide +kernel
theorem dX1_removeAll_1 : decode cX1_removeAll 1 = .ok (.getfield 9, 3) := by decide +kernel
theorem dX1_removeAll_4 : decode cX1_removeAll 4 = .ok (.istore_n 1, 1) := by decide +kernel
theorem dX1_removeAll_5 : decode cX1_removeAll 5 = .ok (.aload_n 0, 1) := by decide +kernel
theorem dX1_removeAll_6 : decode cX1_removeAll 6 = .ok (.iconst 0, 1) := by decide +kernel
theorem dX1_removeAll_7 : decode cX1_removeAll 7 = .ok (.putfield 9, 3) := by decide +kernel
theorem dX1_removeAll_10 : decode cX1_removeAll 10 = .ok (.aload_n 0, 1) := by decide +kernel
theorem dX1_removeAll_11 : decode cX1_removeAll 11 = .ok (.iconst 1, 1) := by decide +kernel
theorem dX1_removeAll_12 : decode cX1_removeAll 12 = .ok (.putfield 15, 3) := by decide +kernel
theorem dX1_removeAll_15 : decode cX1_removeAll 15 = .ok (.iload_n 1, 1) := by decide +kernel
theorem dX1_removeAll_16 : decode cX1_removeAll 16 = .ok (.ireturn, 1) := by decide +kernel
theorem dX1_liken_0 : decode cX1_liken 0 = .ok (.aload_n 0, 1) := by decide +kernel
theorem dX1_liken_1 : decode cX1_liken 1 = .ok (.aload_n 1, 1) := by decide +kernel
theorem dX1_liken_2 : decode cX1_liken 2 = .ok (.getfield 9, 3) := by decide +kernel
theorem dX1_liken_5 : decode cX1_liken 5 = .ok (.putfield 9, 3) := by decide +kernel
theorem dX1_liken_8 : decode cX1_liken 8 = .ok (.aload_n 0, 1) := by decide +kernel
theorem dX1_liken_9 : decode cX1_liken 9 = .ok (.aload_n 1, 1) := by decide +kernel
theorem dX1_liken_10 : decode cX1_liken 10 = .ok (.getfield 15, 3) := by decide +kernel
theorem dX1_liken_13 : decode cX1_liken 13 = .ok (.putfield 15, 3) := by decide +kernel
theorem dX1_liken_16 : decode cX1_liken 16 = .ok (.aload_n 0, 1) := by decide +kernel
theorem dX1_liken_17 : decode cX1_liken 17 = .ok (.aload_n 1, 1) := by decide +kernel
theorem dX1_liken_18 : decode cX1_liken 18 = .ok (.getfield 18, 3) := by decide +kernel
theorem dX1_liken_21 : decode cX1_liken 21 = .ok (.putfield 18, 3) := by decide +kernel
theorem dX1_liken_24 : decode cX1_liken 24 = .ok (.aload_n 0, 1) := by decide +kernel
theorem dX1_liken_25 : decode cX1_liken 25 = .ok (.aload_n 1, 1) := by decide +kernel
theorem dX1_liken_26 : decode cX1_liken 26 = .ok (.getfield 22, 3) := by decide +kernel
theorem dX1_liken_29 : decode cX1_liken 29 = .ok (.putfield 22, 3) := by decide +kernel
theorem dX1_liken_32 : decode cX1_liken 32 = .ok (.iconst 0, 1) := by decide +kernel
theorem dX1_liken_33 : decode cX1_liken 33 = .ok (.istore_n 2, 1) := by decide +kernel
theorem dX1_liken_34 : decode cX1_liken 34 = .ok (.iload_n 2, 1) := by decide +kernel
theorem dX1_liken_35 : decode cX1_liken 35 = .ok (.iconst 4, 1) := by decide +kernel
theorem dX1_liken_36 : decode cX1_liken 36 = .ok (.if_icmp .ge 45, 3) := by decide +kernel
theorem dX1_liken_39 : decode cX1_liken 39 = .ok (.aload_n 0, 1) := by decide +kernel
theorem dX1_liken_40 : decode cX1_liken 40 = .ok (.getfield 25, 3) := by decide +kernel
theorem dX1_liken_43 : decode cX1_liken 43 = .ok (.iload_n 2, 1) := by decide +kernel
theorem dX1_liken_44 : decode cX1_liken 44 = .ok (.aload_n 1, 1) := by decide +kernel
theorem dX1_liken_45 : decode cX1_liken 45 = .ok (.getfield 25, 3) := by decide +kernel
theorem dX1_liken_48 : decode cX1_liken 48 = .ok (.iload_n 2, 1) := by decide +kernel
theorem dX1_liken_49 : decode cX1_liken 49 = .ok (.iaload, 1) := by decide +kernel
theorem dX1_liken_50 : decode cX1_liken 50 = .ok (.iastore, 1) := by decide +kernel
theorem dX1_liken_51 : decode cX1_liken 51 = .ok (.aload_n 0, 1) := by decide +kernel
theorem dX1_liken_52 : decode cX1_liken 52 = .ok (.getfield 29, 3) := by decide +kernel
theorem dX1_liken_55 : decode cX1_liken 55 = .ok (.iload_n 2, 1) := by decide +kernel
theorem dX1_liken_56 : decode cX1_liken 56 = .ok (.aload_n 1, 1) := by decide +kernel
theorem dX1_liken_57 : decode cX1_liken 57 = .ok (.getfield 29, 3) := by decide +kernel
theorem dX1_liken_60 : decode cX1_liken 60 = .ok (.iload_n 2, 1) := by decide +kernel
theorem dX1_liken_61 : decode cX1_liken 61 = .ok (.iaload, 1) := by decide +kernel
theorem dX1_liken_62 : decode cX1_liken 62 = .ok (.iastore, 1) := by decide +kernel
theorem dX1_liken_63 : decode cX1_liken 63 = .ok (.aload_n 0, 1) := by decide +kernel
theorem dX1_liken_64 : decode cX1_liken 64 = .ok (.getfield 32, 3) := by decide +kernel
theorem dX1_liken_67 : decode cX1_liken 67 = .ok (.iload_n 2, 1) := by decide +kernel
theorem dX1_liken_68 : decode cX1_liken 68 = .ok (.aload_n 1, 1) := by decide +kernel
theorem dX1_liken_69 : decode cX1_liken 69 = .ok (.getfield 32, 3) := by decide +kernel
theorem dX1_liken_72 : decode cX1_liken 72 = .ok (.iload_n 2, 1) := by decide +kernel
theorem dX1_liken_73 : decode cX1_liken 73 = .ok (.iaload, 1) := by decide +kernel
theorem dX1_liken_74 : decode cX1_liken 74 = .ok (.iastore, 1) := by decide +kernel
theorem dX1_liken_75 : decode cX1_liken 75 = .ok (.iinc 2 1, 3) := by decide +kernel
theorem dX1_liken_78 : decode cX1_liken 78 = .ok (.goto (-44), 3) := by decide +kernel
theorem dX1_liken_81 : decode cX1_liken 81 = .ok (.return_, 1) := by decide +kernel
theorem dX1_haveAct_0 : decode cX1_haveAct 0 = .ok (.iload_n 1, 1) := by decide +kernel
theorem dX1_haveAct_1 : decode cX1_haveAct 1 = .ok (.ifCond .lt 50, 3) := by decide +kernel
theorem dX1_haveAct_4 : decode cX1_haveAct 4 = .ok (.iload_n 1, 1) := by decide +kernel
theorem dX1_haveAct_5 : decode cX1_haveAct 5 = .ok (.bipush 24, 2) := by decide +kernel
theorem dX1_haveAct_7 : decode cX1_haveAct 7 = .ok (.if_icmp .ge 44, 3) := by decide +kernel
theorem dX1_haveAct_10 : decode cX1_haveAct 10 = .ok (.getstatic 35, 3) := by decide +kernel
theorem dX1_haveAct_13 : decode cX1_haveAct 13 = .ok (.iload_n 1, 1) := by decide +kernel
theorem dX1_haveAct_14 : decode cX1_haveAct 14 = .ok (.iaload, 1) := by decide +kernel
theorem dX1_haveAct_15 : decode cX1_haveAct 15 = .ok (.aload_n 0, 1) := by decide +kernel
theorem dX1_haveAct_16 : decode cX1_haveAct 16 = .ok (.getfield 9, 3) := by decide +kernel
theorem dX1_haveAct_19 : decode cX1_haveAct 19 = .ok (.if_icmp .ge 32, 3) := by decide +kernel
theorem dX1_haveAct_22 : decode cX1_haveAct 22 = .ok (.getstatic 38, 3) := by decide +kernel
theorem dX1_haveAct_25 : decode cX1_haveAct 25 = .ok (.iload_n 1, 1) := by decide +kernel
theorem dX1_haveAct_26 : decode cX1_haveAct 26 = .ok (.iaload, 1) := by decide +kernel
theorem dX1_haveAct_27 : decode cX1_haveAct 27 = .ok (.aload_n 0, 1) := by decide +kernel
theorem dX1_haveAct_28 : decode cX1_haveAct 28 = .ok (.getfield 9, 3) := by decide +kernel
theorem dX1_haveAct_31 : decode cX1_haveAct 31 = .ok (.if_icmp .ge 20, 3) := by decide +kernel
theorem dX1_haveAct_34 : decode cX1_haveAct 34 = .ok (.getstatic 35, 3) := by decide +kernel
theorem dX1_haveAct_37 : decode cX1_haveAct 37 = .ok (.iload_n 1, 1) := by decide +kernel
theorem dX1_haveAct_38 : decode cX1_haveAct 38 = .ok (.iaload, 1) := by decide +kernel
theorem dX1_haveAct_39 : decode cX1_haveAct 39 = .ok (.getstatic 38, 3) := by decide +kernel
theorem dX1_haveAct_42 : decode cX1_haveAct 42 = .ok (.iload_n 1, 1) := by decide +kernel
theorem dX1_haveAct_43 : decode cX1_haveAct 43 = .ok (.iaload, 1) := by decide +kernel
theorem dX1_haveAct_44 : decode cX1_haveAct 44 = .ok (.if_icmp .eq 7, 3) := by decide +kernel
theorem dX1_haveAct_47 : decode cX1_haveAct 47 = .ok (.iconst 1, 1) := by decide +kernel
theorem dX1_haveAct_48 : decode cX1_haveAct 48 = .ok (.goto 4, 3) := by decide +kernel
theorem dX1_haveAct_51 : decode cX1_haveAct 51 = .ok (.iconst 0, 1) := by decide +kernel
theorem dX1_haveAct_52 : decode cX1_haveAct 52 = .ok (.ireturn, 1) := by decide +kernel
theorem dX1_moved_0 : decode cX1_moved 0 = .ok (.iload_n 1, 1) := by decide +kernel
theorem dX1_moved_1 : decode cX1_moved 1 = .ok (.ifCond .lt 9, 3) := by decide +kernel
theorem dX1_moved_4 : decode cX1_moved 4 = .ok (.iload_n 1, 1) := by decide +kernel
theorem dX1_moved_5 : decode cX1_moved 5 = .ok (.bipush 24, 2) := by decide +kernel
theorem dX1_moved_7 : decode cX1_moved 7 = .ok (.if_icmp .lt 5, 3) := by decide +kernel
theorem dX1_moved_10 : decode cX1_moved 10 = .ok (.iconst 0, 1) := by decide +kernel
theorem dX1_moved_11 : decode cX1_moved 11 = .ok (.ireturn, 1) := by decide +kernel
theorem dX1_moved_12 : decode cX1_moved 12 = .ok (.getstatic 35, 3) := by decide +kernel
theorem dX1_moved_15 : decode cX1_moved 15 = .ok (.iload_n 1, 1) := by decide +kernel
theorem dX1_moved_16 : decode cX1_moved 16 = .ok (.iaload, 1) := by decide +kernel
theorem dX1_moved_17 : decode cX1_moved 17 = .ok (.istore_n 2, 1) := by decide +kernel
theorem dX1_moved_18 : decode cX1_moved 18 = .ok (.getstatic 38, 3) := by decide +kernel
theorem dX1_moved_21 : decode cX1_moved 21 = .ok (.iload_n 1, 1) := by decide +kernel
theorem dX1_moved_22 : decode cX1_moved 22 = .ok (.iaload, 1) := by decide +kernel
theorem dX1_moved_23 : decode cX1_moved 23 = .ok (.istore_n 3, 1) := by decide +kernel
theorem dX1_moved_24 : decode cX1_moved 24 = .ok (.iload_n 2, 1) := by decide +kernel
theorem dX1_moved_25 : decode cX1_moved 25 = .ok (.aload_n 0, 1) := by decide +kernel
theorem dX1_moved_26 : decode cX1_moved 26 = .ok (.getfield 9, 3) := by decide +kernel
theorem dX1_moved_29 : decode cX1_moved 29 = .ok (.if_icmp .ge 16, 3) := by decide +kernel
theorem dX1_moved_32 : decode cX1_moved 32 = .ok (.iload_n 3, 1) := by decide +kernel
theorem dX1_moved_33 : decode cX1_moved 33 = .ok (.aload_n 0, 1) := by decide +kernel
theorem dX1_moved_34 : decode cX1_moved 34 = .ok (.getfield 9, 3) := by decide +kernel
theorem dX1_moved_37 : decode cX1_moved 37 = .ok (.if_icmp .ge 8, 3) := by decide +kernel
theorem dX1_moved_40 : decode cX1_moved 40 = .ok (.iload_n 2, 1) := by decide +kernel
theorem dX1_moved_41 : decode cX1_moved 41 = .ok (.iload_n 3, 1) := by decide +kernel
theorem dX1_moved_42 : decode cX1_moved 42 = .ok (.if_icmp .ne 5, 3) := by decide +kernel
theorem dX1_moved_45 : decode cX1_moved 45 = .ok (.iconst 0, 1) := by decide +kernel
theorem dX1_moved_46 : decode cX1_moved 46 = .ok (.ireturn, 1) := by decide +kernel
