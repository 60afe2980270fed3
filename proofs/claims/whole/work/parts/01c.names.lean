theorem dX1_moved_47 : decode cX1_moved 47 = .ok (.iload_n 2, 1) := by decide +kernel
theorem dX1_moved_48 : decode cX1_moved 48 = .ok (.ifCond .lt 12, 3) := by decide +kernel
theorem dX1_moved_51 : decode cX1_moved 51 = .ok (.aload_n 0, 1) := by decide +kernel
theorem dX1_moved_52 : decode cX1_moved 52 = .ok (.getfield 29, 3) := by decide +kernel
theorem dX1_moved_55 : decode cX1_moved 55 = .ok (.iload_n 2, 1) := by decide +kernel
theorem dX1_moved_56 : decode cX1_moved 56 = .ok (.iaload, 1) := by decide +kernel
theorem dX1_moved_57 : decode cX1_moved 57 = .ok (.goto 16, 3) := by decide +kernel
theorem dX1_moved_60 : decode cX1_moved 60 = .ok (.aload_n 0, 1) := by decide +kernel
theorem dX1_moved_61 : decode cX1_moved 61 = .ok (.getfield 18, 3) := by decide +kernel
theorem dX1_moved_64 : decode cX1_moved 64 = .ok (.ifCond .eq 8, 3) := by decide +kernel
theorem dX1_moved_67 : decode cX1_moved 67 = .ok (.bipush 10, 2) := by decide +kernel
theorem dX1_moved_69 : decode cX1_moved 69 = .ok (.goto 4, 3) := by decide +kernel
theorem dX1_moved_72 : decode cX1_moved 72 = .ok (.iconst 0, 1) := by decide +kernel
theorem dX1_moved_73 : decode cX1_moved 73 = .ok (.istore 4, 2) := by decide +kernel
theorem dX1_moved_75 : decode cX1_moved 75 = .ok (.iload_n 3, 1) := by decide +kernel
theorem dX1_moved_76 : decode cX1_moved 76 = .ok (.ifCond .lt 19, 3) := by decide +kernel
theorem dX1_moved_79 : decode cX1_moved 79 = .ok (.aload_n 0, 1) := by decide +kernel
theorem dX1_moved_80 : decode cX1_moved 80 = .ok (.getfield 25, 3) := by decide +kernel
theorem dX1_moved_83 : decode cX1_moved 83 = .ok (.iload_n 3, 1) := by decide +kernel
theorem dX1_moved_84 : decode cX1_moved 84 = .ok (.iaload, 1) := by decide +kernel
theorem dX1_moved_85 : decode cX1_moved 85 = .ok (.aload_n 0, 1) := by decide +kernel
theorem dX1_moved_86 : decode cX1_moved 86 = .ok (.getfield 29, 3) := by decide +kernel
theorem dX1_moved_89 : decode cX1_moved 89 = .ok (.iload_n 3, 1) := by decide +kernel
theorem dX1_moved_90 : decode cX1_moved 90 = .ok (.iaload, 1) := by decide +kernel
theorem dX1_moved_91 : decode cX1_moved 91 = .ok (.isub, 1) := by decide +kernel
theorem dX1_moved_92 : decode cX1_moved 92 = .ok (.goto 16, 3) := by decide +kernel
theorem dX1_moved_95 : decode cX1_moved 95 = .ok (.aload_n 0, 1) := by decide +kernel
theorem dX1_moved_96 : decode cX1_moved 96 = .ok (.getfield 22, 3) := by decide +kernel
theorem dX1_moved_99 : decode cX1_moved 99 = .ok (.ifCond .eq 8, 3) := by decide +kernel
theorem dX1_moved_102 : decode cX1_moved 102 = .ok (.bipush 10, 2) := by decide +kernel
theorem dX1_moved_104 : decode cX1_moved 104 = .ok (.goto 4, 3) := by decide +kernel
theorem dX1_moved_107 : decode cX1_moved 107 = .ok (.iconst 0, 1) := by decide +kernel
theorem dX1_moved_108 : decode cX1_moved 108 = .ok (.istore 5, 2) := by decide +kernel
theorem dX1_moved_110 : decode cX1_moved 110 = .ok (.iload 4, 2) := by decide +kernel
theorem dX1_moved_112 : decode cX1_moved 112 = .ok (.iload 5, 2) := by decide +kernel
theorem dX1_moved_114 : decode cX1_moved 114 = .ok (.if_icmp .ge 8, 3) := by decide +kernel
theorem dX1_moved_117 : decode cX1_moved 117 = .ok (.iload 4, 2) := by decide +kernel
theorem dX1_moved_119 : decode cX1_moved 119 = .ok (.goto 5, 3) := by decide +kernel
theorem dX1_moved_122 : decode cX1_moved 122 = .ok (.iload 5, 2) := by decide +kernel
theorem dX1_moved_124 : decode cX1_moved 124 = .ok (.ireturn, 1) := by decide +kernel
set_option maxRecDepth 20000 in
theorem ggX1_move_X1_haveAct : GoodIn wsX1_move wsX1_haveAct := goodIn_r _ [6, 7, 8, 9, 10, 11, 12, 13, 14] (by decide +kernel) (by decide +kernel)
set_option maxRecDepth 20000 in
theorem gX1_move_X1_haveAct : GoodIn wsX1_move (wsV RX1 41 RX1 yX1_haveAct wsX1_haveAct) := goodIn_app (goodIn_of _ (by decide +kernel)) ggX1_move_X1_haveAct
theorem dX1_move_0 : decode cX1_move 0 = .ok (.aload_n 0, 1) := by decide +kernel
theorem dX1_move_1 : decode cX1_move 1 = .ok (.iload_n 1, 1) := by decide +kernel
theorem dX1_move_2 : decode cX1_move 2 = .ok (.invokevirtual 41, 3) := by decide +kernel
theorem dX1_move_5 : decode cX1_move 5 = .ok (.ifCond .ne 4, 3) := by decide +kernel
theorem dX1_move_8 : decode cX1_move 8 = .ok (.return_, 1) := by decide +kernel
theorem dX1_move_9 : decode cX1_move 9 = .ok (.getstatic 35, 3) := by decide +kernel
theorem dX1_move_12 : decode cX1_move 12 = .ok (.iload_n 1, 1) := by decide +kernel
theorem dX1_move_13 : decode cX1_move 13 = .ok (.iaload, 1) := by decide +kernel
theorem dX1_move_14 : decode cX1_move 14 = .ok (.ifCond .lt 17, 3) := by decide +kernel
theorem dX1_move_17 : decode cX1_move 17 = .ok (.aload_n 0, 1) := by decide +kernel
theorem dX1_move_18 : decode cX1_move 18 = .ok (.getfield 29, 3) := by decide +kernel
theorem dX1_move_21 : decode cX1_move 21 = .ok (.getstatic 35, 3) := by decide +kernel
theorem dX1_move_24 : decode cX1_move 24 = .ok (.iload_n 1, 1) := by decide +kernel
theorem dX1_move_25 : decode cX1_move 25 = .ok (.iaload, 1) := by decide +kernel
theorem dX1_move_26 : decode cX1_move 26 = .ok (.dup2, 1) := by decide +kernel
theorem dX1_move_27 : decode cX1_move 27 = .ok (.iaload, 1) := by decide +kernel
theorem dX1_move_28 : decode cX1_move 28 = .ok (.iload_n 2, 1) := by decide +kernel
theorem dX1_move_29 : decode cX1_move 29 = .ok (.isub, 1) := by decide +kernel
theorem dX1_move_30 : decode cX1_move 30 = .ok (.iastore, 1) := by decide +kernel
theorem dX1_move_31 : decode cX1_move 31 = .ok (.getstatic 38, 3) := by decide +kernel
theorem dX1_move_34 : decode cX1_move 34 = .ok (.iload_n 1, 1) := by decide +kernel
theorem dX1_move_35 : decode cX1_move 35 = .ok (.iaload, 1) := by decide +kernel
theorem dX1_move_36 : decode cX1_move 36 = .ok (.ifCond .lt 17, 3) := by decide +kernel
theorem dX1_move_39 : decode cX1_move 39 = .ok (.aload_n 0, 1) := by decide +kernel
theorem dX1_move_40 : decode cX1_move 40 = .ok (.getfield 29, 3) := by decide +kernel
theorem dX1_move_43 : decode cX1_move 43 = .ok (.getstatic 38, 3) := by decide +kernel
theorem dX1_move_46 : decode cX1_move 46 = .ok (.iload_n 1, 1) := by decide +kernel
theorem dX1_move_47 : decode cX1_move 47 = .ok (.iaload, 1) := by decide +kernel
theorem dX1_move_48 : decode cX1_move 48 = .ok (.dup2, 1) := by decide +kernel
theorem dX1_move_49 : decode cX1_move 49 = .ok (.iaload, 1) := by decide +kernel
theorem dX1_move_50 : decode cX1_move 50 = .ok (.iload_n 2, 1) := by decide +kernel
theorem dX1_move_51 : decode cX1_move 51 = .ok (.iadd, 1) := by decide +kernel
theorem dX1_move_52 : decode cX1_move 52 = .ok (.iastore, 1) := by decide +kernel
theorem dX1_move_53 : decode cX1_move 53 = .ok (.return_, 1) := by decide +kernel
set_option maxRecDepth 20000 in
theorem ggX1_shiftBy_X1_moved : GoodIn wsX1_shiftBy wsX1_moved := goodIn_r _ [6, 7, 8, 9, 10, 11, 12, 13, 14, 15, 16, 17, 18] (by decide +kernel) (by decide +kernel)
set_option maxRecDepth 20000 in
theorem gX1_shiftBy_X1_moved : GoodIn wsX1_shiftBy (wsV RX1 45 RX1 yX1_moved wsX1_moved) := goodIn_app (goodIn_of _ (by decide +kernel)) ggX1_shiftBy_X1_moved
theorem dX1_shiftBy_0 : decode cX1_shiftBy 0 = .ok (.aload_n 0, 1) := by decide +kernel
theorem dX1_shiftBy_1 : decode cX1_shiftBy 1 = .ok (.iload_n 1, 1) := by decide +kernel
theorem dX1_shiftBy_2 : decode cX1_shiftBy 2 = .ok (.invokevirtual 45, 3) := by decide +kernel
theorem dX1_shiftBy_5 : decode cX1_shiftBy 5 = .ok (.istore_n 2, 1) := by decide +kernel
theorem dX1_shiftBy_6 : decode cX1_shiftBy 6 = .ok (.iload_n 2, 1) := by decide +kernel
theorem dX1_shiftBy_7 : decode cX1_shiftBy 7 = .ok (.ifCond .ne 5, 3) := by decide +kernel
theorem dX1_shiftBy_10 : decode cX1_shiftBy 10 = .ok (.iconst 0, 1) := by decide +kernel
theorem dX1_shiftBy_11 : decode cX1_shiftBy 11 = .ok (.ireturn, 1) := by decide +kernel
theorem dX1_shiftBy_12 : decode cX1_shiftBy 12 = .ok (.getstatic 35, 3) := by decide +kernel
theorem dX1_shiftBy_15 : decode cX1_shiftBy 15 = .ok (.iload_n 1, 1) := by decide +kernel
theorem dX1_shiftBy_16 : decode cX1_shiftBy 16 = .ok (.iaload, 1) := by decide +kernel
theorem dX1_shiftBy_17 : decode cX1_shiftBy 17 = .ok (.ifCond .lt 16, 3) := by decide +kernel
theorem dX1_shiftBy_20 : decode cX1_shiftBy 20 = .ok (.aload_n 0, 1) := by decide +kernel
theorem dX1_shiftBy_21 : decode cX1_shiftBy 21 = .ok (.getfield 32, 3) := by decide +kernel
theorem dX1_shiftBy_24 : decode cX1_shiftBy 24 = .ok (.getstatic 35, 3) := by decide +kernel
theorem dX1_shiftBy_27 : decode cX1_shiftBy 27 = .ok (.iload_n 1, 1) := by decide +kernel
theorem dX1_shiftBy_28 : decode cX1_shiftBy 28 = .ok (.iaload, 1) := by decide +kernel
theorem dX1_shiftBy_29 : decode cX1_shiftBy 29 = .ok (.iaload, 1) := by decide +kernel
theorem dX1_shiftBy_30 : decode cX1_shiftBy 30 = .ok (.goto 4, 3) := by decide +kernel
theorem dX1_shiftBy_33 : decode cX1_shiftBy 33 = .ok (.iconst 0, 1) := by decide +kernel
theorem dX1_shiftBy_34 : decode cX1_shiftBy 34 = .ok (.istore_n 3, 1) := by decide +kernel
theorem dX1_shiftBy_35 : decode cX1_shiftBy 35 = .ok (.getstatic 38, 3) := by decide +kernel
theorem dX1_shiftBy_38 : decode cX1_shiftBy 38 = .ok (.iload_n 1, 1) := by decide +kernel
theorem dX1_shiftBy_39 : decode cX1_shiftBy 39 = .ok (.iaload, 1) := by decide +kernel
theorem dX1_shiftBy_40 : decode cX1_shiftBy 40 = .ok (.ifCond .lt 16, 3) := by decide +kernel
theorem dX1_shiftBy_43 : decode cX1_shiftBy 43 = .ok (.aload_n 0, 1) := by decide +kernel
theorem dX1_shiftBy_44 : decode cX1_shiftBy 44 = .ok (.getfield 32, 3) := by decide +kernel
theorem dX1_shiftBy_47 : decode cX1_shiftBy 47 = .ok (.getstatic 38, 3) := by decide +kernel
theorem dX1_shiftBy_50 : decode cX1_shiftBy 50 = .ok (.iload_n 1, 1) := by decide +kernel
theorem dX1_shiftBy_51 : decode cX1_shiftBy 51 = .ok (.iaload, 1) := by decide +kernel
theorem dX1_shiftBy_52 : decode cX1_shiftBy 52 = .ok (.iaload, 1) := by decide +kernel
theorem dX1_shiftBy_53 : decode cX1_shiftBy 53 = .ok (.goto 4, 3) := by decide +kernel
theorem dX1_shiftBy_56 : decode cX1_shiftBy 56 = .ok (.iconst 0, 1) := by decide +kernel
theorem dX1_shiftBy_57 : decode cX1_shiftBy 57 = .ok (.istore 4, 2) := by decide +kernel
theorem dX1_shiftBy_59 : decode cX1_shiftBy 59 = .ok (.iload_n 2, 1) := by decide +kernel
theorem dX1_shiftBy_60 : decode cX1_shiftBy 60 = .ok (.iload 4, 2) := by decide +kernel
theorem dX1_shiftBy_62 : decode cX1_shiftBy 62 = .ok (.iload_n 3, 1) := by decide +kernel
theorem dX1_shiftBy_63 : decode cX1_shiftBy 63 = .ok (.isub, 1) := by decide +kernel
theorem dX1_shiftBy_64 : decode cX1_shiftBy 64 = .ok (.imul, 1) := by decide +kernel
theorem dX1_shiftBy_65 : decode cX1_shiftBy 65 = .ok (.ireturn, 1) := by decide +kernel
theorem dX1_spiltBy_0 : decode cX1_spiltBy 0 = .ok (.iload_n 1, 1) := by decide +kernel
theorem dX1_spiltBy_1 : decode cX1_spiltBy 1 = .ok (.ifCond .lt 38, 3) := by decide +kernel
theorem dX1_spiltBy_4 : decode cX1_spiltBy 4 = .ok (.iload_n 1, 1) := by decide +kernel
theorem dX1_spiltBy_5 : decode cX1_spiltBy 5 = .ok (.bipush 24, 2) := by decide +kernel
theorem dX1_spiltBy_7 : decode cX1_spiltBy 7 = .ok (.if_icmp .ge 32, 3) := by decide +kernel
theorem dX1_spiltBy_10 : decode cX1_spiltBy 10 = .ok (.getstatic 38, 3) := by decide +kernel
theorem dX1_spiltBy_13 : decode cX1_spiltBy 13 = .ok (.iload_n 1, 1) := by decide +kernel
theorem dX1_spiltBy_14 : decode cX1_spiltBy 14 = .ok (.iaload, 1) := by decide +kernel
theorem dX1_spiltBy_15 : decode cX1_spiltBy 15 = .ok (.ifCond .ge 24, 3) := by decide +kernel
theorem dX1_spiltBy_18 : decode cX1_spiltBy 18 = .ok (.getstatic 35, 3) := by decide +kernel
theorem dX1_spiltBy_21 : decode cX1_spiltBy 21 = .ok (.iload_n 1, 1) := by decide +kernel
theorem dX1_spiltBy_22 : decode cX1_spiltBy 22 = .ok (.iaload, 1) := by decide +kernel
theorem dX1_spiltBy_23 : decode cX1_spiltBy 23 = .ok (.ifCond .lt 16, 3) := by decide +kernel
theorem dX1_spiltBy_26 : decode cX1_spiltBy 26 = .ok (.aload_n 0, 1) := by decide +kernel
theorem dX1_spiltBy_27 : decode cX1_spiltBy 27 = .ok (.getfield 29, 3) := by decide +kernel
theorem dX1_spiltBy_30 : decode cX1_spiltBy 30 = .ok (.getstatic 35, 3) := by decide +kernel
theorem dX1_spiltBy_33 : decode cX1_spiltBy 33 = .ok (.iload_n 1, 1) := by decide +kernel
theorem dX1_spiltBy_34 : decode cX1_spiltBy 34 = .ok (.iaload, 1) := by decide +kernel
theorem dX1_spiltBy_35 : decode cX1_spiltBy 35 = .ok (.iaload, 1) := by decide +kernel
theorem dX1_spiltBy_36 : decode cX1_spiltBy 36 = .ok (.goto 4, 3) := by decide +kernel
theorem dX1_spiltBy_39 : decode cX1_spiltBy 39 = .ok (.iconst 0, 1) := by decide +kernel
theorem dX1_spiltBy_40 : decode cX1_spiltBy 40 = .ok (.ireturn, 1) := by decide +kernel
theorem dX1_code_0 : decode cX1_code 0 = .ok (.iconst 0, 1) := by decide +kernel
theorem dX1_code_1 : decode cX1_code 1 = .ok (.istore_n 1, 1) := by decide +kernel
theorem dX1_code_2 : decode cX1_code 2 = .ok (.iconst 0, 1) := by decide +kernel
theorem dX1_code_3 : decode cX1_code 3 = .ok (.istore_n 2, 1) := by decide +kernel
theorem dX1_code_4 : decode cX1_code 4 = .ok (.iload_n 2, 1) := by decide +kernel
theorem dX1_code_5 : decode cX1_code 5 = .ok (.aload_n 0, 1) := by decide +kernel
theorem dX1_code_6 : decode cX1_code 6 = .ok (.getfield 9, 3) := by decide +kernel
theorem dX1_code_9 : decode cX1_code 9 = .ok (.if_icmp .ge 30, 3) := by decide +kernel
theorem dX1_code_12 : decode cX1_code 12 = .ok (.iload_n 2, 1) := by decide +kernel
theorem dX1_code_13 : decode cX1_code 13 = .ok (.iconst 4, 1) := by decide +kernel
theorem dX1_code_14 : decode cX1_code 14 = .ok (.if_icmp .ge 25, 3) := by decide +kernel
theorem dX1_code_17 : decode cX1_code 17 = .ok (.iload_n 1, 1) := by decide +kernel
theorem dX1_code_18 : decode cX1_code 18 = .ok (.aload_n 0, 1) := by decide +kernel
theorem dX1_code_19 : decode cX1_code 19 = .ok (.getfield 29, 3) := by decide +kernel
theorem dX1_code_22 : decode cX1_code 22 = .ok (.iload_n 2, 1) := by decide +kernel
theorem dX1_code_23 : decode cX1_code 23 = .ok (.iaload, 1) := by decide +kernel
theorem dX1_code_24 : decode cX1_code 24 = .ok (.aload_n 0, 1) := by decide +kernel
theorem dX1_code_25 : decode cX1_code 25 = .ok (.getfield 32, 3) := by decide +kernel
theorem dX1_code_28 : decode cX1_code 28 = .ok (.iload_n 2, 1) := by decide +kernel
theorem dX1_code_29 : decode cX1_code 29 = .ok (.iaload, 1) := by decide +kernel
theorem dX1_code_30 : decode cX1_code 30 = .ok (.imul, 1) := by decide +kernel
theorem dX1_code_31 : decode cX1_code 31 = .ok (.iadd, 1) := by decide +kernel
theorem dX1_code_32 : decode cX1_code 32 = .ok (.istore_n 1, 1) := by decide +kernel
theorem dX1_code_33 : decode cX1_code 33 = .ok (.iinc 2 1, 3) := by decide +kernel
theorem dX1_code_36 : decode cX1_code 36 = .ok (.goto (-32), 3) := by decide +kernel
theorem dX1_code_39 : decode cX1_code 39 = .ok (.iload_n 1, 1) := by decide +kernel
theorem dX1_code_40 : decode cX1_code 40 = .ok (.ireturn, 1) := by decide +kernel
theorem dX1_stand_0 : decode cX1_stand 0 = .ok (.iload_n 1, 1) := by decide +kernel
theorem dX1_stand_1 : decode cX1_stand 1 = .ok (.istore_n 2, 1) := by decide +kernel
theorem dX1_stand_2 : decode cX1_stand 2 = .ok (.iconst 0, 1) := by decide +kernel
theorem dX1_stand_3 : decode cX1_stand 3 = .ok (.istore_n 3, 1) := by decide +kernel
theorem dX1_stand_4 : decode cX1_stand 4 = .ok (.iload_n 3, 1) := by decide +kernel
theorem dX1_stand_5 : decode cX1_stand 5 = .ok (.aload_n 0, 1) := by decide +kernel
theorem dX1_stand_6 : decode cX1_stand 6 = .ok (.getfield 9, 3) := by decide +kernel
theorem dX1_stand_9 : decode cX1_stand 9 = .ok (.if_icmp .ge 45, 3) := by decide +kernel
theorem dX1_stand_12 : decode cX1_stand 12 = .ok (.iload_n 3, 1) := by decide +kernel
theorem dX1_stand_13 : decode cX1_stand 13 = .ok (.iconst 4, 1) := by decide +kernel
theorem dX1_stand_14 : decode cX1_stand 14 = .ok (.if_icmp .ge 40, 3) := by decide +kernel
theorem dX1_stand_17 : decode cX1_stand 17 = .ok (.aload_n 0, 1) := by decide +kernel
theorem dX1_stand_18 : decode cX1_stand 18 = .ok (.getfield 25, 3) := by decide +kernel
theorem dX1_stand_21 : decode cX1_stand 21 = .ok (.iload_n 3, 1) := by decide +kernel
theorem dX1_stand_22 : decode cX1_stand 22 = .ok (.iaload, 1) := by decide +kernel
theorem dX1_stand_23 : decode cX1_stand 23 = .ok (.iconst 1, 1) := by decide +kernel
theorem dX1_stand_24 : decode cX1_stand 24 = .ok (.iadd, 1) := by decide +kernel
theorem dX1_stand_25 : decode cX1_stand 25 = .ok (.istore 4, 2) := by decide +kernel
theorem dX1_stand_27 : decode cX1_stand 27 = .ok (.iload 4, 2) := by decide +kernel
theorem dX1_stand_29 : decode cX1_stand 29 = .ok (.iconst 1, 1) := by decide +kernel
theorem dX1_stand_30 : decode cX1_stand 30 = .ok (.if_icmp .le 18, 3) := by decide +kernel
theorem dX1_stand_33 : decode cX1_stand 33 = .ok (.aload_n 0, 1) := by decide +kernel
theorem dX1_stand_34 : decode cX1_stand 34 = .ok (.getfield 29, 3) := by decide +kernel
theorem dX1_stand_37 : decode cX1_stand 37 = .ok (.iload_n 3, 1) := by decide +kernel
theorem dX1_stand_38 : decode cX1_stand 38 = .ok (.iload_n 2, 1) := by decide +kernel
theorem dX1_stand_39 : decode cX1_stand 39 = .ok (.iload 4, 2) := by decide +kernel
theorem dX1_stand_41 : decode cX1_stand 41 = .ok (.irem, 1) := by decide +kernel
theorem dX1_stand_42 : decode cX1_stand 42 = .ok (.iastore, 1) := by decide +kernel
theorem dX1_stand_43 : decode cX1_stand 43 = .ok (.iload_n 2, 1) := by decide +kernel
theorem dX1_stand_44 : decode cX1_stand 44 = .ok (.iload 4, 2) := by decide +kernel
theorem dX1_stand_46 : decode cX1_stand 46 = .ok (.idiv, 1) := by decide +kernel
theorem dX1_stand_47 : decode cX1_stand 47 = .ok (.istore_n 2, 1) := by decide +kernel
theorem dX1_stand_48 : decode cX1_stand 48 = .ok (.iinc 3 1, 3) := by decide +kernel
theorem dX1_stand_51 : decode cX1_stand 51 = .ok (.goto (-47), 3) := by decide +kernel
theorem dX1_stand_54 : decode cX1_stand 54 = .ok (.return_, 1) := by decide +kernel
set_option maxRecDepth 20000 in
theorem ggX1_meet_X1_has : GoodIn wsX1_meet wsX1_has := goodIn_r _ [7, 2, 8, 9, 10, 11, 12, 13, 14] (by decide +kernel) (by decide +kernel)
set_option maxRecDepth 20000 in
theorem gX1_meet_X1_has : GoodIn wsX1_meet (wsV RX1 49 RX1 yX1_has wsX1_has) := goodIn_app (goodIn_of _ (by decide +kernel)) ggX1_meet_X1_has
theorem dX1_meet_0 : decode cX1_meet 0 = .ok (.iload_n 1, 1) := by decide +kernel
theorem dX1_meet_1 : decode cX1_meet 1 = .ok (.ifCond .lt 27, 3) := by decide +kernel
theorem dX1_meet_4 : decode cX1_meet 4 = .ok (.aload_n 0, 1) := by decide +kernel
theorem dX1_meet_5 : decode cX1_meet 5 = .ok (.iload_n 1, 1) := by decide +kernel
theorem dX1_meet_6 : decode cX1_meet 6 = .ok (.invokevirtual 49, 3) := by decide +kernel
theorem dX1_meet_9 : decode cX1_meet 9 = .ok (.ifCond .eq 17, 3) := by decide +kernel
theorem dX1_meet_12 : decode cX1_meet 12 = .ok (.aload_n 0, 1) := by decide +kernel
theorem dX1_meet_13 : decode cX1_meet 13 = .ok (.getfield 29, 3) := by decide +kernel
theorem dX1_meet_16 : decode cX1_meet 16 = .ok (.iload_n 1, 1) := by decide +kernel
theorem dX1_meet_17 : decode cX1_meet 17 = .ok (.iaload, 1) := by decide +kernel
theorem dX1_meet_18 : decode cX1_meet 18 = .ok (.iload_n 2, 1) := by decide +kernel
theorem dX1_meet_19 : decode cX1_meet 19 = .ok (.if_icmp .ne 7, 3) := by decide +kernel
theorem dX1_meet_22 : decode cX1_meet 22 = .ok (.iconst 1, 1) := by decide +kernel
theorem dX1_meet_23 : decode cX1_meet 23 = .ok (.goto 4, 3) := by decide +kernel
theorem dX1_meet_26 : decode cX1_meet 26 = .ok (.iconst 0, 1) := by decide +kernel
theorem dX1_meet_27 : decode cX1_meet 27 = .ok (.ireturn, 1) := by decide +kernel
theorem dX1_meet_28 : decode cX1_meet 28 = .ok (.iconst 0, 1) := by decide +kernel
theorem dX1_meet_29 : decode cX1_meet 29 = .ok (.istore_n 3, 1) := by decide +kernel
theorem dX1_meet_30 : decode cX1_meet 30 = .ok (.iload_n 3, 1) := by decide +kernel
theorem dX1_meet_31 : decode cX1_meet 31 = .ok (.aload_n 0, 1) := by decide +kernel
theorem dX1_meet_32 : decode cX1_meet 32 = .ok (.getfield 9, 3) := by decide +kernel
theorem dX1_meet_35 : decode cX1_meet 35 = .ok (.if_icmp .ge 26, 3) := by decide +kernel
theorem dX1_meet_38 : decode cX1_meet 38 = .ok (.iload_n 3, 1) := by decide +kernel
theorem dX1_meet_39 : decode cX1_meet 39 = .ok (.iconst 4, 1) := by decide +kernel
theorem dX1_meet_40 : decode cX1_meet 40 = .ok (.if_icmp .ge 21, 3) := by decide +kernel
theorem dX1_meet_43 : decode cX1_meet 43 = .ok (.aload_n 0, 1) := by decide +kernel
theorem dX1_meet_44 : decode cX1_meet 44 = .ok (.getfield 29, 3) := by decide +kernel
theorem dX1_meet_47 : decode cX1_meet 47 = .ok (.iload_n 3, 1) := by decide +kernel
theorem dX1_meet_48 : decode cX1_meet 48 = .ok (.iaload, 1) := by decide +kernel
theorem dX1_meet_49 : decode cX1_meet 49 = .ok (.iload_n 2, 1) := by decide +kernel
theorem dX1_meet_50 : decode cX1_meet 50 = .ok (.if_icmp .ne 5, 3) := by decide +kernel
theorem dX1_meet_53 : decode cX1_meet 53 = .ok (.iconst 1, 1) := by decide +kernel
theorem dX1_meet_54 : decode cX1_meet 54 = .ok (.ireturn, 1) := by decide +kernel
theorem dX1_meet_55 : decode cX1_meet 55 = .ok (.iinc 3 1, 3) := by decide +kernel
theorem dX1_meet_58 : decode cX1_meet 58 = .ok (.goto (-28), 3) := by decide +kernel
theorem dX1_meet_61 : decode cX1_meet 61 = .ok (.iconst 0, 1) := by decide +kernel
theorem dX1_meet_62 : decode cX1_meet 62 = .ok (.ireturn, 1) := by decide +kernel
theorem dX1_heldTogether_0 : decode cX1_heldTogether 0 = .ok (.iconst 0, 1) := by decide +kernel
theorem dX1_heldTogether_1 : decode cX1_heldTogether 1 = .ok (.istore_n 1, 1) := by decide +kernel
theorem dX1_heldTogether_2 : decode cX1_heldTogether 2 = .ok (.iconst 0, 1) := by decide +kernel
theorem dX1_heldTogether_3 : decode cX1_heldTogether 3 = .ok (.istore_n 2, 1) := by decide +kernel
theorem dX1_heldTogether_4 : decode cX1_heldTogether 4 = .ok (.iload_n 2, 1) := by decide +kernel
theorem dX1_heldTogether_5 : decode cX1_heldTogether 5 = .ok (.aload_n 0, 1) := by decide +kernel
theorem dX1_heldTogether_6 : decode cX1_heldTogether 6 = .ok (.getfield 9, 3) := by decide +kernel
theorem dX1_heldTogether_9 : decode cX1_heldTogether 9 = .ok (.if_icmp .ge 23, 3) := by decide +kernel
theorem dX1_heldTogether_12 : decode cX1_heldTogether 12 = .ok (.iload_n 2, 1) := by decide +kernel
theorem dX1_heldTogether_13 : decode cX1_heldTogether 13 = .ok (.iconst 4, 1) := by decide +kernel
theorem dX1_heldTogether_14 : decode cX1_heldTogether 14 = .ok (.if_icmp .ge 18, 3) := by decide +kernel
theorem dX1_heldTogether_17 : decode cX1_heldTogether 17 = .ok (.iload_n 1, 1) := by decide +kernel
theorem dX1_heldTogether_18 : decode cX1_heldTogether 18 = .ok (.aload_n 0, 1) := by decide +kernel
theorem dX1_heldTogether_19 : decode cX1_heldTogether 19 = .ok (.getfield 29, 3) := by decide +kernel
theorem dX1_heldTogether_22 : decode cX1_heldTogether 22 = .ok (.iload_n 2, 1) := by decide +kernel
theorem dX1_heldTogether_23 : decode cX1_heldTogether 23 = .ok (.iaload, 1) := by decide +kernel
theorem dX1_heldTogether_24 : decode cX1_heldTogether 24 = .ok (.iadd, 1) := by decide +kernel
theorem dX1_heldTogether_25 : decode cX1_heldTogether 25 = .ok (.istore_n 1, 1) := by decide +kernel
theorem dX1_heldTogether_26 : decode cX1_heldTogether 26 = .ok (.iinc 2 1, 3) := by decide +kernel
theorem dX1_heldTogether_29 : decode cX1_heldTogether 29 = .ok (.goto (-25), 3) := by decide +kernel
theorem dX1_heldTogether_32 : decode cX1_heldTogether 32 = .ok (.iload_n 1, 1) := by decide +kernel
theorem dX1_heldTogether_33 : decode cX1_heldTogether 33 = .ok (.ireturn, 1) := by decide +kernel
set_option maxRecDepth 20000 in
theorem ggX1_actsNow_X1_moved : GoodIn wsX1_actsNow wsX1_moved := goodIn_r _ [5, 6, 7, 8, 9, 10, 11, 12, 13, 14, 15, 16, 17] (by decide +kernel) (by decide +kernel)
set_option maxRecDepth 20000 in
theorem gX1_actsNow_X1_moved : GoodIn wsX1_actsNow (wsV RX1 45 RX1 yX1_moved wsX1_moved) := goodIn_app (goodIn_of _ (by decide +kernel)) ggX1_actsNow_X1_moved
theorem dX1_actsNow_0 : decode cX1_actsNow 0 = .ok (.iconst 0, 1) := by decide +kernel
theorem dX1_actsNow_1 : decode cX1_actsNow 1 = .ok (.istore_n 1, 1) := by decide +kernel
theorem dX1_actsNow_2 : decode cX1_actsNow 2 = .ok (.iconst 0, 1) := by decide +kernel
theorem dX1_actsNow_3 : decode cX1_actsNow 3 = .ok (.istore_n 2, 1) := by decide +kernel
theorem dX1_actsNow_4 : decode cX1_actsNow 4 = .ok (.iload_n 2, 1) := by decide +kernel
theorem dX1_actsNow_5 : decode cX1_actsNow 5 = .ok (.bipush 24, 2) := by decide +kernel
theorem dX1_actsNow_7 : decode cX1_actsNow 7 = .ok (.if_icmp .ge 20, 3) := by decide +kernel
theorem dX1_actsNow_10 : decode cX1_actsNow 10 = .ok (.aload_n 0, 1) := by decide +kernel
theorem dX1_actsNow_11 : decode cX1_actsNow 11 = .ok (.iload_n 2, 1) := by decide +kernel
theorem dX1_actsNow_12 : decode cX1_actsNow 12 = .ok (.invokevirtual 45, 3) := by decide +kernel
theorem dX1_actsNow_15 : decode cX1_actsNow 15 = .ok (.ifCond .le 6, 3) := by decide +kernel
theorem dX1_actsNow_18 : decode cX1_actsNow 18 = .ok (.iinc 1 1, 3) := by decide +kernel
theorem dX1_actsNow_21 : decode cX1_actsNow 21 = .ok (.iinc 2 1, 3) := by decide +kernel
theorem dX1_actsNow_24 : decode cX1_actsNow 24 = .ok (.goto (-20), 3) := by decide +kernel
theorem dX1_actsNow_27 : decode cX1_actsNow 27 = .ok (.iload_n 1, 1) := by decide +kernel
theorem dX1_actsNow_28 : decode cX1_actsNow 28 = .ok (.ireturn, 1) := by decide +kernel
set_option maxRecDepth 20000 in
theorem ggX2_init_X1_init : GoodIn wsX2_init wsX1_init := goodIn_r _ [24, 25, 2, 3, 26, 27, 28, 29, 30, 31, 32, 33, 46, 47, 48, 49, 50, 51, 52] (by decide +kernel) (by decide +kernel)
set_option maxRecDepth 20000 in
theorem gX2_init_X1_init_n11 : GoodIn wsX2_init (wsX1_init) := ggX2_init_X1_init
set_option maxRecDepth 20000 in
theorem ggX2_init_X4_init : GoodIn wsX2_init wsX4_init := goodIn_r _ [35, 36, 2, 3, 30, 37, 38, 39, 40, 62, 63, 64, 65] (by decide +kernel) (by decide +kernel)
set_option maxRecDepth 20000 in
theorem gX2_init_X4_init_n23 : GoodIn wsX2_init (wsX4_init) := ggX2_init_X4_init
set_option maxRecDepth 20000 in
theorem ggX2_init_X3_init : GoodIn wsX2_init wsX3_init := goodIn_r _ [42, 43, 2, 3, 30, 44, 45, 66, 67] (by decide +kernel) (by decide +kernel)
set_option maxRecDepth 20000 in
theorem gX2_init_X3_init_n33 : GoodIn wsX2_init (wsX3_init) := ggX2_init_X3_init
theorem dX2_init_0 : decode cX2_init 0 = .ok (.aload_n 0, 1) := by decide +kernel
theorem dX2_init_1 : decode cX2_init 1 = .ok (.invokespecial 3, 3) := by decide +kernel
theorem dX2_init_4 : decode cX2_init 4 = .ok (.aload_n 0, 1) := by decide +kernel
theorem dX2_init_5 : decode cX2_init 5 = .ok (.new 9, 3) := by decide +kernel
theorem dX2_init_8 : decode cX2_init 8 = .ok (.dup, 1) := by decide +kernel
theorem dX2_init_9 : decode cX2_init 9 = .ok (.invokespecial 11, 3) := by decide +kernel
theorem dX2_init_12 : decode cX2_init 12 = .ok (.putfield 12, 3) := by decide +kernel
theorem dX2_init_15 : decode cX2_init 15 = .ok (.aload_n 0, 1) := by decide +kernel
theorem dX2_init_16 : decode cX2_init 16 = .ok (.new 9, 3) := by decide +kernel
theorem dX2_init_19 : decode cX2_init 19 = .ok (.dup, 1) := by decide +kernel
theorem dX2_init_20 : decode cX2_init 20 = .ok (.invokespecial 11, 3) := by decide +kernel
theorem dX2_init_23 : decode cX2_init 23 = .ok (.putfield 18, 3) := by decide +kernel
theorem dX2_init_26 : decode cX2_init 26 = .ok (.aload_n 0, 1) := by decide +kernel
theorem dX2_init_27 : decode cX2_init 27 = .ok (.new 21, 3) := by decide +kernel
theorem dX2_init_30 : decode cX2_init 30 = .ok (.dup, 1) := by decide +kernel
theorem dX2_init_31 : decode cX2_init 31 = .ok (.invokespecial 23, 3) := by decide +kernel
theorem dX2_init_34 : decode cX2_init 34 = .ok (.putfield 24, 3) := by decide +kernel
theorem dX2_init_37 : decode cX2_init 37 = .ok (.aload_n 0, 1) := by decide +kernel
theorem dX2_init_38 : decode cX2_init 38 = .ok (.new 21, 3) := by decide +kernel
theorem dX2_init_41 : decode cX2_init 41 = .ok (.dup, 1) := by decide +kernel
theorem dX2_init_42 : decode cX2_init 42 = .ok (.invokespecial 23, 3) := by decide +kernel
theorem dX2_init_45 : decode cX2_init 45 = .ok (.putfield 28, 3) := by decide +kernel
theorem dX2_init_48 : decode cX2_init 48 = .ok (.aload_n 0, 1) := by decide +kernel
theorem dX2_init_49 : decode cX2_init 49 = .ok (.new 31, 3) := by decide +kernel
theorem dX2_init_52 : decode cX2_init 52 = .ok (.dup, 1) := by decide +kernel
theorem dX2_init_53 : decode cX2_init 53 = .ok (.invokespecial 33, 3) := by decide +kernel
theorem dX2_init_56 : decode cX2_init 56 = .ok (.putfield 34, 3) := by decide +kernel
theorem dX2_init_59 : decode cX2_init 59 = .ok (.aload_n 0, 1) := by decide +kernel
theorem dX2_init_60 : decode cX2_init 60 = .ok (.iconst 0, 1) := by decide +kernel
theorem dX2_init_61 : decode cX2_init 61 = .ok (.newarray .long, 2) := by decide +kernel
theorem dX2_init_63 : decode cX2_init 63 = .ok (.putfield 38, 3) := by decide +kernel
theorem dX2_init_66 : decode cX2_init 66 = .ok (.aload_n 0, 1) := by decide +kernel
theorem dX2_init_67 : decode cX2_init 67 = .ok (.iconst 0, 1) := by decide +kernel
theorem dX2_init_68 : decode cX2_init 68 = .ok (.putfield 42, 3) := by decide +kernel
theorem dX2_init_71 : decode cX2_init 71 = .ok (.aload_n 0, 1) := by decide +kernel
theorem dX2_init_72 : decode cX2_init 72 = .ok (.iconst 0, 1) := by decide +kernel
theorem dX2_init_73 : decode cX2_init 73 = .ok (.putfield 46, 3) := by decide +kernel
theorem dX2_init_76 : decode cX2_init 76 = .ok (.aload_n 0, 1) := by decide +kernel
theorem dX2_init_77 : decode cX2_init 77 = .ok (.iconst 0, 1) := by decide +kernel
theorem dX2_init_78 : decode cX2_init 78 = .ok (.putfield 49, 3) := by decide +kernel
theorem dX2_init_81 : decode cX2_init 81 = .ok (.return_, 1) := by decide +kernel
theorem dX2_forget_0 : decode cX2_forget 0 = .ok (.aload_n 0, 1) := by decide +kernel
theorem dX2_forget_1 : decode cX2_forget 1 = .ok (.iconst 0, 1) := by decide +kernel
theorem dX2_forget_2 : decode cX2_forget 2 = .ok (.putfield 42, 3) := by decide +kernel
theorem dX2_forget_5 : decode cX2_forget 5 = .ok (.aload_n 0, 1) := by decide +kernel
theorem dX2_forget_6 : decode cX2_forget 6 = .ok (.iconst 0, 1) := by decide +kernel
theorem dX2_forget_7 : decode cX2_forget 7 = .ok (.putfield 46, 3) := by decide +kernel
theorem dX2_forget_10 : decode cX2_forget 10 = .ok (.aload_n 0, 1) := by decide +kernel
theorem dX2_forget_11 : decode cX2_forget 11 = .ok (.iconst 0, 1) := by decide +kernel
theorem dX2_forget_12 : decode cX2_forget 12 = .ok (.putfield 49, 3) := by decide +kernel
theorem dX2_forget_15 : decode cX2_forget 15 = .ok (.return_, 1) := by decide +kernel
set_option maxRecDepth 20000 in
theorem ggX2_explore_X1_liken : GoodIn wsX2_explore wsX1_liken := goodIn_r _ [9, 10, 11, 12, 13, 14, 15, 16, 89, 90, 91, 92, 93, 94, 95] (by decide +kernel) (by decide +kernel)
set_option maxRecDepth 20000 in
theorem gX2_explore_X1_liken : GoodIn wsX2_explore (wsV RX2 52 RX1 yX1_liken wsX1_liken) := goodIn_app (goodIn_of _ (by decide +kernel)) ggX2_explore_X1_liken
set_option maxRecDepth 20000 in
theorem ggX2_explore_X4_walk : GoodIn wsX2_explore wsX4_walk := goodIn_r _ [21, 22, 23, 24, 25, 26, 27, 28, 8, 29, 10, 15, 16, 30, 31, 32, 20, 33, 34, 35, 36, 37, 38, 39, 40, 41, 42, 43, 44, 45, 46, 47, 48, 49, 50, 51, 52, 53, 14, 54, 55, 56, 57, 58, 59, 60, 61, 12, 13, 62, 63, 64, 65, 66, 67, 68, 69, 70, 71, 72, 73, 74, 75, 76, 77, 78, 79, 89, 90, 91, 92, 93, 94, 95, 96, 97, 98, 99, 100, 101] (by decide +kernel) (by decide +kernel)
set_option maxRecDepth 20000 in
theorem gX2_explore_X4_walk : GoodIn wsX2_explore (wsV RX2 56 RX4 yX4_walk wsX4_walk) := goodIn_app (goodIn_of _ (by decide +kernel)) ggX2_explore_X4_walk
theorem dX2_explore_0 : decode cX2_explore 0 = .ok (.aload_n 0, 1) := by decide +kernel
theorem dX2_explore_1 : decode cX2_explore 1 = .ok (.getfield 42, 3) := by decide +kernel
theorem dX2_explore_4 : decode cX2_explore 4 = .ok (.ifCond .ne 31, 3) := by decide +kernel
theorem dX2_explore_7 : decode cX2_explore 7 = .ok (.aload_n 0, 1) := by decide +kernel
theorem dX2_explore_8 : decode cX2_explore 8 = .ok (.getfield 18, 3) := by decide +kernel
theorem dX2_explore_11 : decode cX2_explore 11 = .ok (.aload_n 0, 1) := by decide +kernel
theorem dX2_explore_12 : decode cX2_explore 12 = .ok (.getfield 12, 3) := by decide +kernel
theorem dX2_explore_15 : decode cX2_explore 15 = .ok (.invokevirtual 52, 3) := by decide +kernel
theorem dX2_explore_18 : decode cX2_explore 18 = .ok (.aload_n 0, 1) := by decide +kernel
theorem dX2_explore_19 : decode cX2_explore 19 = .ok (.getfield 24, 3) := by decide +kernel
theorem dX2_explore_22 : decode cX2_explore 22 = .ok (.aload_n 0, 1) := by decide +kernel
theorem dX2_explore_23 : decode cX2_explore 23 = .ok (.getfield 18, 3) := by decide +kernel
theorem dX2_explore_26 : decode cX2_explore 26 = .ok (.aconst_null, 1) := by decide +kernel
theorem dX2_explore_27 : decode cX2_explore 27 = .ok (.invokevirtual 56, 3) := by decide +kernel
theorem dX2_explore_30 : decode cX2_explore 30 = .ok (.aload_n 0, 1) := by decide +kernel
theorem dX2_explore_31 : decode cX2_explore 31 = .ok (.iconst 1, 1) := by decide +kernel
theorem dX2_explore_32 : decode cX2_explore 32 = .ok (.putfield 42, 3) := by decide +kernel
theorem dX2_explore_35 : decode cX2_explore 35 = .ok (.return_, 1) := by decide +kernel
set_option maxRecDepth 20000 in
theorem ggX2_exploreSparing_X1_liken : GoodIn wsX2_exploreSparing wsX1_liken := goodIn_r _ [11, 12, 13, 14, 15, 16, 17, 18, 113, 114, 115, 116, 117, 118, 119] (by decide +kernel) (by decide +kernel)
set_option maxRecDepth 20000 in
theorem gX2_exploreSparing_X1_liken : GoodIn wsX2_exploreSparing (wsV RX2 52 RX1 yX1_liken wsX1_liken) := goodIn_app (goodIn_of _ (by decide +kernel)) ggX2_exploreSparing_X1_liken
set_option maxRecDepth 20000 in
theorem ggX2_exploreSparing_X3_measure : GoodIn wsX2_exploreSparing wsX3_measure := goodIn_r _ [23, 24, 25, 26, 27, 28, 29, 30, 31, 32, 33, 34, 35, 36, 10, 37, 12, 17, 18, 38, 39, 40, 22, 41, 42, 43, 44, 45, 46, 47, 48, 49, 50, 16, 51, 52, 53, 54, 55, 56, 57, 58, 14, 15, 59, 60, 61, 62, 120, 121, 122, 123, 124, 125, 113, 114, 115, 116, 117, 118, 119] (by decide +kernel) (by decide +kernel)
set_option maxRecDepth 20000 in
theorem gX2_exploreSparing_X3_measure : GoodIn wsX2_exploreSparing (wsV RX2 60 RX3 yX3_measure wsX3_measure) := goodIn_app (goodIn_of _ (by decide +kernel)) ggX2_exploreSparing_X3_measure
set_option maxRecDepth 20000 in
theorem ggX2_exploreSparing_X4_walk : GoodIn wsX2_exploreSparing wsX4_walk := goodIn_r _ [67, 68, 69, 70, 71, 72, 35, 36, 10, 37, 12, 17, 18, 73, 74, 75, 66, 76, 26, 77, 78, 79, 80, 81, 82, 83, 84, 85, 86, 87, 88, 31, 32, 33, 89, 48, 49, 50, 16, 90, 52, 53, 54, 55, 56, 57, 58, 14, 15, 91, 60, 61, 62, 92, 93, 94, 22, 95, 24, 96, 97, 98, 99, 100, 101, 102, 103, 113, 114, 115, 116, 117, 118, 119, 122, 123, 124, 125, 120, 121] (by decide +kernel) (by decide +kernel)
set_option maxRecDepth 20000 in
theorem gX2_exploreSparing_X4_walk : GoodIn wsX2_exploreSparing (wsV RX2 56 RX4 yX4_walk wsX4_walk) := goodIn_app (goodIn_of _ (by decide +kernel)) ggX2_exploreSparing_X4_walk
theorem dX2_exploreSparing_0 : decode cX2_exploreSparing 0 = .ok (.aload_n 0, 1) := by decide +kernel
theorem dX2_exploreSparing_1 : decode cX2_exploreSparing 1 = .ok (.getfield 49, 3) := by decide +kernel
theorem dX2_exploreSparing_4 : decode cX2_exploreSparing 4 = .ok (.ifCond .ne 60, 3) := by decide +kernel
theorem dX2_exploreSparing_7 : decode cX2_exploreSparing 7 = .ok (.aload_n 0, 1) := by decide +kernel
theorem dX2_exploreSparing_8 : decode cX2_exploreSparing 8 = .ok (.getfield 18, 3) := by decide +kernel
theorem dX2_exploreSparing_11 : decode cX2_exploreSparing 11 = .ok (.aload_n 0, 1) := by decide +kernel
theorem dX2_exploreSparing_12 : decode cX2_exploreSparing 12 = .ok (.getfield 12, 3) := by decide +kernel
theorem dX2_exploreSparing_15 : decode cX2_exploreSparing 15 = .ok (.invokevirtual 52, 3) := by decide +kernel
theorem dX2_exploreSparing_18 : decode cX2_exploreSparing 18 = .ok (.aload_n 0, 1) := by decide +kernel
theorem dX2_exploreSparing_19 : decode cX2_exploreSparing 19 = .ok (.getfield 34, 3) := by decide +kernel
theorem dX2_exploreSparing_22 : decode cX2_exploreSparing 22 = .ok (.aload_n 0, 1) := by decide +kernel
theorem dX2_exploreSparing_23 : decode cX2_exploreSparing 23 = .ok (.getfield 18, 3) := by decide +kernel
theorem dX2_exploreSparing_26 : decode cX2_exploreSparing 26 = .ok (.aload_n 0, 1) := by decide +kernel
theorem dX2_exploreSparing_27 : decode cX2_exploreSparing 27 = .ok (.getfield 24, 3) := by decide +kernel
theorem dX2_exploreSparing_30 : decode cX2_exploreSparing 30 = .ok (.invokevirtual 60, 3) := by decide +kernel
theorem dX2_exploreSparing_33 : decode cX2_exploreSparing 33 = .ok (.aload_n 0, 1) := by decide +kernel
theorem dX2_exploreSparing_34 : decode cX2_exploreSparing 34 = .ok (.getfield 18, 3) := by decide +kernel
theorem dX2_exploreSparing_37 : decode cX2_exploreSparing 37 = .ok (.aload_n 0, 1) := by decide +kernel
theorem dX2_exploreSparing_38 : decode cX2_exploreSparing 38 = .ok (.getfield 12, 3) := by decide +kernel
theorem dX2_exploreSparing_41 : decode cX2_exploreSparing 41 = .ok (.invokevirtual 52, 3) := by decide +kernel
theorem dX2_exploreSparing_44 : decode cX2_exploreSparing 44 = .ok (.aload_n 0, 1) := by decide +kernel
theorem dX2_exploreSparing_45 : decode cX2_exploreSparing 45 = .ok (.getfield 28, 3) := by decide +kernel
theorem dX2_exploreSparing_48 : decode cX2_exploreSparing 48 = .ok (.aload_n 0, 1) := by decide +kernel
theorem dX2_exploreSparing_49 : decode cX2_exploreSparing 49 = .ok (.getfield 18, 3) := by decide +kernel
theorem dX2_exploreSparing_52 : decode cX2_exploreSparing 52 = .ok (.aload_n 0, 1) := by decide +kernel
theorem dX2_exploreSparing_53 : decode cX2_exploreSparing 53 = .ok (.getfield 34, 3) := by decide +kernel
theorem dX2_exploreSparing_56 : decode cX2_exploreSparing 56 = .ok (.invokevirtual 56, 3) := by decide +kernel
theorem dX2_exploreSparing_59 : decode cX2_exploreSparing 59 = .ok (.aload_n 0, 1) := by decide +kernel
theorem dX2_exploreSparing_60 : decode cX2_exploreSparing 60 = .ok (.iconst 1, 1) := by decide +kernel
theorem dX2_exploreSparing_61 : decode cX2_exploreSparing 61 = .ok (.putfield 49, 3) := by decide +kernel
theorem dX2_exploreSparing_64 : decode cX2_exploreSparing 64 = .ok (.return_, 1) := by decide +kernel
set_option maxRecDepth 20000 in
theorem ggX2_countWays_J7_fill_d0a16 : GoodIn wsX2_countWays wsJ7_fill_d0a16 := goodIn_r _ [18] (by decide +kernel) (by decide +kernel)
set_option maxRecDepth 20000 in
theorem gX2_countWays_J7_fill_d0a16 : GoodIn wsX2_countWays (va_wsS RX2 68 yJ7_fill_d0a16 wsJ7_fill_d0a16) := goodIn_app (goodIn_of _ (by decide +kernel)) ggX2_countWays_J7_fill_d0a16
set_option maxRecDepth 20000 in
theorem ggX2_countWays_X1_code : GoodIn wsX2_countWays wsX1_code := goodIn_r _ [23, 24, 25, 26, 70, 71, 72, 73, 74, 75, 76] (by decide +kernel) (by decide +kernel)
set_option maxRecDepth 20000 in
theorem gX2_countWays_X1_code : GoodIn wsX2_countWays (wsV RX2 74 RX1 yX1_code wsX1_code) := goodIn_app (goodIn_of _ (by decide +kernel)) ggX2_countWays_X1_code
set_option maxRecDepth 20000 in
theorem ggX2_countWays_X4_acts : GoodIn wsX2_countWays wsX4_acts := goodIn_r _ [31, 32, 33, 34, 35, 30, 36, 66, 67, 68, 69] (by decide +kernel) (by decide +kernel)
set_option maxRecDepth 20000 in
theorem gX2_countWays_X4_acts : GoodIn wsX2_countWays (wsV RX2 85 RX4 yX4_acts wsX4_acts) := goodIn_app (goodIn_of _ (by decide +kernel)) ggX2_countWays_X4_acts
set_option maxRecDepth 20000 in
theorem ggX2_countWays_X1_stand : GoodIn wsX2_countWays wsX1_stand := goodIn_r _ [40, 24, 41, 25, 70, 71, 72, 73, 74, 75, 76] (by decide +kernel) (by decide +kernel)
set_option maxRecDepth 20000 in
theorem gX2_countWays_X1_stand : GoodIn wsX2_countWays (wsV RX2 89 RX1 yX1_stand wsX1_stand) := goodIn_app (goodIn_of _ (by decide +kernel)) ggX2_countWays_X1_stand
set_option maxRecDepth 20000 in
theorem ggX2_countWays_X1_shiftBy : GoodIn wsX2_countWays wsX1_shiftBy := goodIn_r _ [45, 26, 46, 47, 48, 22, 49, 24, 25, 50, 41, 51, 70, 71, 72, 73, 74, 75, 76] (by decide +kernel) (by decide +kernel)
set_option maxRecDepth 20000 in
theorem gX2_countWays_X1_shiftBy : GoodIn wsX2_countWays (wsV RX2 93 RX1 yX1_shiftBy wsX1_shiftBy) := goodIn_app (goodIn_of _ (by decide +kernel)) ggX2_countWays_X1_shiftBy
set_option maxRecDepth 20000 in
theorem ggX2_countWays_X2_waysFor : GoodIn wsX2_countWays wsX2_waysFor := goodIn_r _ [56, 2, 57, 58, 59, 60, 61, 62, 63, 64, 65] (by decide +kernel) (by decide +kernel)
set_option maxRecDepth 20000 in
theorem gX2_countWays_X2_waysFor : GoodIn wsX2_countWays (wsV RX2 98 RX2 yX2_waysFor wsX2_waysFor) := goodIn_app (goodIn_of _ (by decide +kernel)) ggX2_countWays_X2_waysFor
theorem dX2_countWays_0 : decode cX2_countWays 0 = .ok (.aload_n 0, 1) := by decide +kernel
theorem dX2_countWays_1 : decode cX2_countWays 1 = .ok (.getfield 46, 3) := by decide +kernel
theorem dX2_countWays_4 : decode cX2_countWays 4 = .ok (.ifCond .eq 4, 3) := by decide +kernel
theorem dX2_countWays_7 : decode cX2_countWays 7 = .ok (.return_, 1) := by decide +kernel
theorem dX2_countWays_8 : decode cX2_countWays 8 = .ok (.aload_n 0, 1) := by decide +kernel
theorem dX2_countWays_9 : decode cX2_countWays 9 = .ok (.getfield 38, 3) := by decide +kernel
theorem dX2_countWays_12 : decode cX2_countWays 12 = .ok (.arraylength, 1) := by decide +kernel
theorem dX2_countWays_13 : decode cX2_countWays 13 = .ok (.aload_n 0, 1) := by decide +kernel
theorem dX2_countWays_14 : decode cX2_countWays 14 = .ok (.getfield 24, 3) := by decide +kernel
theorem dX2_countWays_17 : decode cX2_countWays 17 = .ok (.getfield 64, 3) := by decide +kernel
theorem dX2_countWays_20 : decode cX2_countWays 20 = .ok (.arraylength, 1) := by decide +kernel
theorem dX2_countWays_21 : decode cX2_countWays 21 = .ok (.if_icmp .ge 17, 3) := by decide +kernel
theorem dX2_countWays_24 : decode cX2_countWays 24 = .ok (.aload_n 0, 1) := by decide +kernel
theorem dX2_countWays_25 : decode cX2_countWays 25 = .ok (.aload_n 0, 1) := by decide +kernel
theorem dX2_countWays_26 : decode cX2_countWays 26 = .ok (.getfield 24, 3) := by decide +kernel
theorem dX2_countWays_29 : decode cX2_countWays 29 = .ok (.getfield 64, 3) := by decide +kernel
theorem dX2_countWays_32 : decode cX2_countWays 32 = .ok (.arraylength, 1) := by decide +kernel
theorem dX2_countWays_33 : decode cX2_countWays 33 = .ok (.newarray .long, 2) := by decide +kernel
theorem dX2_countWays_35 : decode cX2_countWays 35 = .ok (.putfield 38, 3) := by decide +kernel
theorem dX2_countWays_38 : decode cX2_countWays 38 = .ok (.aload_n 0, 1) := by decide +kernel
theorem dX2_countWays_39 : decode cX2_countWays 39 = .ok (.getfield 38, 3) := by decide +kernel
theorem dX2_countWays_42 : decode cX2_countWays 42 = .ok (.lconst 0, 1) := by decide +kernel
theorem dX2_countWays_43 : decode cX2_countWays 43 = .ok (.invokestatic 68, 3) := by decide +kernel
theorem dX2_countWays_46 : decode cX2_countWays 46 = .ok (.aload_n 0, 1) := by decide +kernel
theorem dX2_countWays_47 : decode cX2_countWays 47 = .ok (.getfield 12, 3) := by decide +kernel
theorem dX2_countWays_50 : decode cX2_countWays 50 = .ok (.invokevirtual 74, 3) := by decide +kernel
theorem dX2_countWays_53 : decode cX2_countWays 53 = .ok (.istore_n 1, 1) := by decide +kernel
theorem dX2_countWays_54 : decode cX2_countWays 54 = .ok (.iload_n 1, 1) := by decide +kernel
theorem dX2_countWays_55 : decode cX2_countWays 55 = .ok (.ifCond .lt 19, 3) := by decide +kernel
theorem dX2_countWays_58 : decode cX2_countWays 58 = .ok (.iload_n 1, 1) := by decide +kernel
theorem dX2_countWays_59 : decode cX2_countWays 59 = .ok (.aload_n 0, 1) := by decide +kernel
theorem dX2_countWays_60 : decode cX2_countWays 60 = .ok (.getfield 38, 3) := by decide +kernel
theorem dX2_countWays_63 : decode cX2_countWays 63 = .ok (.arraylength, 1) := by decide +kernel
theorem dX2_countWays_64 : decode cX2_countWays 64 = .ok (.if_icmp .ge 10, 3) := by decide +kernel
theorem dX2_countWays_67 : decode cX2_countWays 67 = .ok (.aload_n 0, 1) := by decide +kernel
theorem dX2_countWays_68 : decode cX2_countWays 68 = .ok (.getfield 38, 3) := by decide +kernel
theorem dX2_countWays_71 : decode cX2_countWays 71 = .ok (.iload_n 1, 1) := by decide +kernel
theorem dX2_countWays_72 : decode cX2_countWays 72 = .ok (.lconst 1, 1) := by decide +kernel
theorem dX2_countWays_73 : decode cX2_countWays 73 = .ok (.lastore, 1) := by decide +kernel
theorem dX2_countWays_74 : decode cX2_countWays 74 = .ok (.iconst 0, 1) := by decide +kernel
theorem dX2_countWays_75 : decode cX2_countWays 75 = .ok (.istore_n 2, 1) := by decide +kernel
theorem dX2_countWays_76 : decode cX2_countWays 76 = .ok (.iload_n 2, 1) := by decide +kernel
theorem dX2_countWays_77 : decode cX2_countWays 77 = .ok (.aload_n 0, 1) := by decide +kernel
theorem dX2_countWays_78 : decode cX2_countWays 78 = .ok (.getfield 24, 3) := by decide +kernel
theorem dX2_countWays_81 : decode cX2_countWays 81 = .ok (.getfield 78, 3) := by decide +kernel
theorem dX2_countWays_84 : decode cX2_countWays 84 = .ok (.if_icmp .ge 135, 3) := by decide +kernel
theorem dX2_countWays_87 : decode cX2_countWays 87 = .ok (.iload_n 2, 1) := by decide +kernel
theorem dX2_countWays_88 : decode cX2_countWays 88 = .ok (.aload_n 0, 1) := by decide +kernel
theorem dX2_countWays_89 : decode cX2_countWays 89 = .ok (.getfield 24, 3) := by decide +kernel
theorem dX2_countWays_92 : decode cX2_countWays 92 = .ok (.getfield 82, 3) := by decide +kernel
theorem dX2_countWays_95 : decode cX2_countWays 95 = .ok (.arraylength, 1) := by decide +kernel
theorem dX2_countWays_96 : decode cX2_countWays 96 = .ok (.if_icmp .ge 123, 3) := by decide +kernel
theorem dX2_countWays_99 : decode cX2_countWays 99 = .ok (.aload_n 0, 1) := by decide +kernel
theorem dX2_countWays_100 : decode cX2_countWays 100 = .ok (.getfield 24, 3) := by decide +kernel
theorem dX2_countWays_103 : decode cX2_countWays 103 = .ok (.getfield 82, 3) := by decide +kernel
theorem dX2_countWays_106 : decode cX2_countWays 106 = .ok (.iload_n 2, 1) := by decide +kernel
theorem dX2_countWays_107 : decode cX2_countWays 107 = .ok (.iaload, 1) := by decide +kernel
theorem dX2_countWays_108 : decode cX2_countWays 108 = .ok (.istore_n 3, 1) := by decide +kernel
theorem dX2_countWays_109 : decode cX2_countWays 109 = .ok (.aload_n 0, 1) := by decide +kernel
theorem dX2_countWays_110 : decode cX2_countWays 110 = .ok (.getfield 24, 3) := by decide +kernel
theorem dX2_countWays_113 : decode cX2_countWays 113 = .ok (.iload_n 3, 1) := by decide +kernel
theorem dX2_countWays_114 : decode cX2_countWays 114 = .ok (.invokevirtual 85, 3) := by decide +kernel
theorem dX2_countWays_117 : decode cX2_countWays 117 = .ok (.iconst 1, 1) := by decide +kernel
theorem dX2_countWays_118 : decode cX2_countWays 118 = .ok (.iadd, 1) := by decide +kernel
theorem dX2_countWays_119 : decode cX2_countWays 119 = .ok (.istore 4, 2) := by decide +kernel
theorem dX2_countWays_121 : decode cX2_countWays 121 = .ok (.aload_n 0, 1) := by decide +kernel
theorem dX2_countWays_122 : decode cX2_countWays 122 = .ok (.getfield 18, 3) := by decide +kernel
theorem dX2_countWays_125 : decode cX2_countWays 125 = .ok (.iload_n 3, 1) := by decide +kernel
theorem dX2_countWays_126 : decode cX2_countWays 126 = .ok (.invokevirtual 89, 3) := by decide +kernel
theorem dX2_countWays_129 : decode cX2_countWays 129 = .ok (.iconst 0, 1) := by decide +kernel
theorem dX2_countWays_130 : decode cX2_countWays 130 = .ok (.istore 5, 2) := by decide +kernel
theorem dX2_countWays_132 : decode cX2_countWays 132 = .ok (.iload 5, 2) := by decide +kernel
theorem dX2_countWays_134 : decode cX2_countWays 134 = .ok (.bipush 24, 2) := by decide +kernel
theorem dX2_countWays_136 : decode cX2_countWays 136 = .ok (.if_icmp .ge 77, 3) := by decide +kernel
theorem dX2_countWays_139 : decode cX2_countWays 139 = .ok (.iload_n 3, 1) := by decide +kernel
theorem dX2_countWays_140 : decode cX2_countWays 140 = .ok (.aload_n 0, 1) := by decide +kernel
theorem dX2_countWays_141 : decode cX2_countWays 141 = .ok (.getfield 18, 3) := by decide +kernel
theorem dX2_countWays_144 : decode cX2_countWays 144 = .ok (.iload 5, 2) := by decide +kernel
theorem dX2_countWays_146 : decode cX2_countWays 146 = .ok (.invokevirtual 93, 3) := by decide +kernel
theorem dX2_countWays_149 : decode cX2_countWays 149 = .ok (.iadd, 1) := by decide +kernel
theorem dX2_countWays_150 : decode cX2_countWays 150 = .ok (.istore 6, 2) := by decide +kernel
theorem dX2_countWays_152 : decode cX2_countWays 152 = .ok (.iload 6, 2) := by decide +kernel
theorem dX2_countWays_154 : decode cX2_countWays 154 = .ok (.ifCond .lt 53, 3) := by decide +kernel
theorem dX2_countWays_157 : decode cX2_countWays 157 = .ok (.iload 6, 2) := by decide +kernel
theorem dX2_countWays_159 : decode cX2_countWays 159 = .ok (.aload_n 0, 1) := by decide +kernel
theorem dX2_countWays_160 : decode cX2_countWays 160 = .ok (.getfield 38, 3) := by decide +kernel
theorem dX2_countWays_163 : decode cX2_countWays 163 = .ok (.arraylength, 1) := by decide +kernel
theorem dX2_countWays_164 : decode cX2_countWays 164 = .ok (.if_icmp .ge 43, 3) := by decide +kernel
theorem dX2_countWays_167 : decode cX2_countWays 167 = .ok (.aload_n 0, 1) := by decide +kernel
theorem dX2_countWays_168 : decode cX2_countWays 168 = .ok (.getfield 24, 3) := by decide +kernel
theorem dX2_countWays_171 : decode cX2_countWays 171 = .ok (.iload 6, 2) := by decide +kernel
theorem dX2_countWays_173 : decode cX2_countWays 173 = .ok (.invokevirtual 85, 3) := by decide +kernel
theorem dX2_countWays_176 : decode cX2_countWays 176 = .ok (.iload 4, 2) := by decide +kernel
theorem dX2_countWays_178 : decode cX2_countWays 178 = .ok (.if_icmp .ne 29, 3) := by decide +kernel
theorem dX2_countWays_181 : decode cX2_countWays 181 = .ok (.aload_n 0, 1) := by decide +kernel
theorem dX2_countWays_182 : decode cX2_countWays 182 = .ok (.getfield 38, 3) := by decide +kernel
theorem dX2_countWays_185 : decode cX2_countWays 185 = .ok (.iload 6, 2) := by decide +kernel
theorem dX2_countWays_187 : decode cX2_countWays 187 = .ok (.ldc2_w 96, 3) := by decide +kernel
theorem dX2_countWays_190 : decode cX2_countWays 190 = .ok (.aload_n 0, 1) := by decide +kernel
theorem dX2_countWays_191 : decode cX2_countWays 191 = .ok (.getfield 38, 3) := by decide +kernel
theorem dX2_countWays_194 : decode cX2_countWays 194 = .ok (.iload 6, 2) := by decide +kernel
theorem dX2_countWays_196 : decode cX2_countWays 196 = .ok (.laload, 1) := by decide +kernel
theorem dX2_countWays_197 : decode cX2_countWays 197 = .ok (.aload_n 0, 1) := by decide +kernel
theorem dX2_countWays_198 : decode cX2_countWays 198 = .ok (.iload_n 3, 1) := by decide +kernel
theorem dX2_countWays_199 : decode cX2_countWays 199 = .ok (.invokevirtual 98, 3) := by decide +kernel
theorem dX2_countWays_202 : decode cX2_countWays 202 = .ok (.ladd, 1) := by decide +kernel
theorem dX2_countWays_203 : decode cX2_countWays 203 = .ok (.invokestatic 102, 3) := by decide +kernel
theorem dX2_countWays_206 : decode cX2_countWays 206 = .ok (.lastore, 1) := by decide +kernel
theorem dX2_countWays_207 : decode cX2_countWays 207 = .ok (.iinc 5 1, 3) := by decide +kernel
theorem dX2_countWays_210 : decode cX2_countWays 210 = .ok (.goto (-78), 3) := by decide +kernel
theorem dX2_countWays_213 : decode cX2_countWays 213 = .ok (.iinc 2 1, 3) := by decide +kernel
theorem dX2_countWays_216 : decode cX2_countWays 216 = .ok (.goto (-140), 3) := by decide +kernel
theorem dX2_countWays_219 : decode cX2_countWays 219 = .ok (.aload_n 0, 1) := by decide +kernel
theorem dX2_countWays_220 : decode cX2_countWays 220 = .ok (.iconst 1, 1) := by decide +kernel
theorem dX2_countWays_221 : decode cX2_countWays 221 = .ok (.putfield 46, 3) := by decide +kernel
theorem dX2_countWays_224 : decode cX2_countWays 224 = .ok (.return_, 1) := by decide +kernel
set_option maxRecDepth 20000 in
theorem ggX2_nearest_X1_stand : GoodIn wsX2_nearest wsX1_stand := goodIn_r _ [9, 10, 11, 12, 34, 35, 36, 37, 38, 39, 40] (by decide +kernel) (by decide +kernel)
set_option maxRecDepth 20000 in
theorem gX2_nearest_X1_stand : GoodIn wsX2_nearest (wsV RX2 89 RX1 yX1_stand wsX1_stand) := goodIn_app (goodIn_of _ (by decide +kernel)) ggX2_nearest_X1_stand
set_option maxRecDepth 20000 in
theorem ggX2_nearest_X1_meet : GoodIn wsX2_nearest wsX1_meet := goodIn_r _ [16, 12, 10, 17, 18, 19, 8, 20, 34, 35, 36, 37, 38, 39, 40] (by decide +kernel) (by decide +kernel)
set_option maxRecDepth 20000 in
theorem gX2_nearest_X1_meet : GoodIn wsX2_nearest (wsV RX2 108 RX1 yX1_meet wsX1_meet) := goodIn_app (goodIn_of _ (by decide +kernel)) ggX2_nearest_X1_meet
theorem dX2_nearest_0 : decode cX2_nearest 0 = .ok (.iconst 0, 1) := by decide +kernel
theorem dX2_nearest_1 : decode cX2_nearest 1 = .ok (.istore_n 3, 1) := by decide +kernel
theorem dX2_nearest_2 : decode cX2_nearest 2 = .ok (.iload_n 3, 1) := by decide +kernel
theorem dX2_nearest_3 : decode cX2_nearest 3 = .ok (.aload_n 0, 1) := by decide +kernel
theorem dX2_nearest_4 : decode cX2_nearest 4 = .ok (.getfield 24, 3) := by decide +kernel
theorem dX2_nearest_7 : decode cX2_nearest 7 = .ok (.getfield 78, 3) := by decide +kernel
theorem dX2_nearest_10 : decode cX2_nearest 10 = .ok (.if_icmp .ge 59, 3) := by decide +kernel
theorem dX2_nearest_13 : decode cX2_nearest 13 = .ok (.iload_n 3, 1) := by decide +kernel
theorem dX2_nearest_14 : decode cX2_nearest 14 = .ok (.aload_n 0, 1) := by decide +kernel
theorem dX2_nearest_15 : decode cX2_nearest 15 = .ok (.getfield 24, 3) := by decide +kernel
theorem dX2_nearest_18 : decode cX2_nearest 18 = .ok (.getfield 82, 3) := by decide +kernel
theorem dX2_nearest_21 : decode cX2_nearest 21 = .ok (.arraylength, 1) := by decide +kernel
theorem dX2_nearest_22 : decode cX2_nearest 22 = .ok (.if_icmp .ge 47, 3) := by decide +kernel
theorem dX2_nearest_25 : decode cX2_nearest 25 = .ok (.aload_n 0, 1) := by decide +kernel
theorem dX2_nearest_26 : decode cX2_nearest 26 = .ok (.getfield 18, 3) := by decide +kernel
theorem dX2_nearest_29 : decode cX2_nearest 29 = .ok (.aload_n 0, 1) := by decide +kernel
theorem dX2_nearest_30 : decode cX2_nearest 30 = .ok (.getfield 24, 3) := by decide +kernel
theorem dX2_nearest_33 : decode cX2_nearest 33 = .ok (.getfield 82, 3) := by decide +kernel
theorem dX2_nearest_36 : decode cX2_nearest 36 = .ok (.iload_n 3, 1) := by decide +kernel
theorem dX2_nearest_37 : decode cX2_nearest 37 = .ok (.iaload, 1) := by decide +kernel
theorem dX2_nearest_38 : decode cX2_nearest 38 = .ok (.invokevirtual 89, 3) := by decide +kernel
theorem dX2_nearest_41 : decode cX2_nearest 41 = .ok (.aload_n 0, 1) := by decide +kernel
theorem dX2_nearest_42 : decode cX2_nearest 42 = .ok (.getfield 18, 3) := by decide +kernel
theorem dX2_nearest_45 : decode cX2_nearest 45 = .ok (.iload_n 1, 1) := by decide +kernel
theorem dX2_nearest_46 : decode cX2_nearest 46 = .ok (.iload_n 2, 1) := by decide +kernel
theorem dX2_nearest_47 : decode cX2_nearest 47 = .ok (.invokevirtual 108, 3) := by decide +kernel
theorem dX2_nearest_50 : decode cX2_nearest 50 = .ok (.ifCond .eq 13, 3) := by decide +kernel
theorem dX2_nearest_53 : decode cX2_nearest 53 = .ok (.aload_n 0, 1) := by decide +kernel
theorem dX2_nearest_54 : decode cX2_nearest 54 = .ok (.getfield 24, 3) := by decide +kernel
theorem dX2_nearest_57 : decode cX2_nearest 57 = .ok (.getfield 82, 3) := by decide +kernel
theorem dX2_nearest_60 : decode cX2_nearest 60 = .ok (.iload_n 3, 1) := by decide +kernel
theorem dX2_nearest_61 : decode cX2_nearest 61 = .ok (.iaload, 1) := by decide +kernel
theorem dX2_nearest_62 : decode cX2_nearest 62 = .ok (.ireturn, 1) := by decide +kernel
theorem dX2_nearest_63 : decode cX2_nearest 63 = .ok (.iinc 3 1, 3) := by decide +kernel
theorem dX2_nearest_66 : decode cX2_nearest 66 = .ok (.goto (-64), 3) := by decide +kernel
theorem dX2_nearest_69 : decode cX2_nearest 69 = .ok (.iconst (-1), 1) := by decide +kernel
theorem dX2_nearest_70 : decode cX2_nearest 70 = .ok (.ireturn, 1) := by decide +kernel
set_option maxRecDepth 20000 in
theorem ggX2_thriftiest_X1_stand : GoodIn wsX2_thriftiest wsX1_stand := goodIn_r _ [10, 11, 12, 13, 41, 42, 43, 44, 45, 46, 47] (by decide +kernel) (by decide +kernel)
set_option maxRecDepth 20000 in
theorem gX2_thriftiest_X1_stand : GoodIn wsX2_thriftiest (wsV RX2 89 RX1 yX1_stand wsX1_stand) := goodIn_app (goodIn_of _ (by decide +kernel)) ggX2_thriftiest_X1_stand
set_option maxRecDepth 20000 in
theorem ggX2_thriftiest_X1_meet : GoodIn wsX2_thriftiest wsX1_meet := goodIn_r _ [17, 13, 11, 18, 19, 20, 9, 21, 41, 42, 43, 44, 45, 46, 47] (by decide +kernel) (by decide +kernel)
set_option maxRecDepth 20000 in
theorem gX2_thriftiest_X1_meet : GoodIn wsX2_thriftiest (wsV RX2 108 RX1 yX1_meet wsX1_meet) := goodIn_app (goodIn_of _ (by decide +kernel)) ggX2_thriftiest_X1_meet
set_option maxRecDepth 20000 in
theorem ggX2_thriftiest_X3_leastFor : GoodIn wsX2_thriftiest wsX3_leastFor := goodIn_r _ [26, 27, 48, 49] (by decide +kernel) (by decide +kernel)
set_option maxRecDepth 20000 in
theorem gX2_thriftiest_X3_leastFor : GoodIn wsX2_thriftiest (wsV RX2 112 RX3 yX3_leastFor wsX3_leastFor) := goodIn_app (goodIn_of _ (by decide +kernel)) ggX2_thriftiest_X3_leastFor
theorem dX2_thriftiest_0 : decode cX2_thriftiest 0 = .ok (.iconst (-1), 1) := by decide +kernel
theorem dX2_thriftiest_1 : decode cX2_thriftiest 1 = .ok (.istore_n 3, 1) := by decide +kernel
theorem dX2_thriftiest_2 : decode cX2_thriftiest 2 = .ok (.iconst 0, 1) := by decide +kernel
theorem dX2_thriftiest_3 : decode cX2_thriftiest 3 = .ok (.istore 4, 2) := by decide +kernel
theorem dX2_thriftiest_5 : decode cX2_thriftiest 5 = .ok (.iload 4, 2) := by decide +kernel
theorem dX2_thriftiest_7 : decode cX2_thriftiest 7 = .ok (.aload_n 0, 1) := by decide +kernel
theorem dX2_thriftiest_8 : decode cX2_thriftiest 8 = .ok (.getfield 28, 3) := by decide +kernel
theorem dX2_thriftiest_11 : decode cX2_thriftiest 11 = .ok (.getfield 78, 3) := by decide +kernel
theorem dX2_thriftiest_14 : decode cX2_thriftiest 14 = .ok (.if_icmp .ge 83, 3) := by decide +kernel
theorem dX2_thriftiest_17 : decode cX2_thriftiest 17 = .ok (.iload 4, 2) := by decide +kernel
theorem dX2_thriftiest_19 : decode cX2_thriftiest 19 = .ok (.aload_n 0, 1) := by decide +kernel
theorem dX2_thriftiest_20 : decode cX2_thriftiest 20 = .ok (.getfield 28, 3) := by decide +kernel
theorem dX2_thriftiest_23 : decode cX2_thriftiest 23 = .ok (.getfield 82, 3) := by decide +kernel
theorem dX2_thriftiest_26 : decode cX2_thriftiest 26 = .ok (.arraylength, 1) := by decide +kernel
theorem dX2_thriftiest_27 : decode cX2_thriftiest 27 = .ok (.if_icmp .ge 70, 3) := by decide +kernel
theorem dX2_thriftiest_30 : decode cX2_thriftiest 30 = .ok (.aload_n 0, 1) := by decide +kernel
theorem dX2_thriftiest_31 : decode cX2_thriftiest 31 = .ok (.getfield 28, 3) := by decide +kernel
theorem dX2_thriftiest_34 : decode cX2_thriftiest 34 = .ok (.getfield 82, 3) := by decide +kernel
theorem dX2_thriftiest_37 : decode cX2_thriftiest 37 = .ok (.iload 4, 2) := by decide +kernel
theorem dX2_thriftiest_39 : decode cX2_thriftiest 39 = .ok (.iaload, 1) := by decide +kernel
theorem dX2_thriftiest_40 : decode cX2_thriftiest 40 = .ok (.istore 5, 2) := by decide +kernel
theorem dX2_thriftiest_42 : decode cX2_thriftiest 42 = .ok (.aload_n 0, 1) := by decide +kernel
theorem dX2_thriftiest_43 : decode cX2_thriftiest 43 = .ok (.getfield 18, 3) := by decide +kernel
theorem dX2_thriftiest_46 : decode cX2_thriftiest 46 = .ok (.iload 5, 2) := by decide +kernel
theorem dX2_thriftiest_48 : decode cX2_thriftiest 48 = .ok (.invokevirtual 89, 3) := by decide +kernel
theorem dX2_thriftiest_51 : decode cX2_thriftiest 51 = .ok (.aload_n 0, 1) := by decide +kernel
theorem dX2_thriftiest_52 : decode cX2_thriftiest 52 = .ok (.getfield 18, 3) := by decide +kernel
theorem dX2_thriftiest_55 : decode cX2_thriftiest 55 = .ok (.iload_n 1, 1) := by decide +kernel
theorem dX2_thriftiest_56 : decode cX2_thriftiest 56 = .ok (.iload_n 2, 1) := by decide +kernel
theorem dX2_thriftiest_57 : decode cX2_thriftiest 57 = .ok (.invokevirtual 108, 3) := by decide +kernel
theorem dX2_thriftiest_60 : decode cX2_thriftiest 60 = .ok (.ifCond .eq 31, 3) := by decide +kernel
theorem dX2_thriftiest_63 : decode cX2_thriftiest 63 = .ok (.iload_n 3, 1) := by decide +kernel
theorem dX2_thriftiest_64 : decode cX2_thriftiest 64 = .ok (.iconst (-1), 1) := by decide +kernel
theorem dX2_thriftiest_65 : decode cX2_thriftiest 65 = .ok (.if_icmp .eq 23, 3) := by decide +kernel
theorem dX2_thriftiest_68 : decode cX2_thriftiest 68 = .ok (.aload_n 0, 1) := by decide +kernel
theorem dX2_thriftiest_69 : decode cX2_thriftiest 69 = .ok (.getfield 34, 3) := by decide +kernel
theorem dX2_thriftiest_72 : decode cX2_thriftiest 72 = .ok (.iload 5, 2) := by decide +kernel
theorem dX2_thriftiest_74 : decode cX2_thriftiest 74 = .ok (.invokevirtual 112, 3) := by decide +kernel
theorem dX2_thriftiest_77 : decode cX2_thriftiest 77 = .ok (.aload_n 0, 1) := by decide +kernel
theorem dX2_thriftiest_78 : decode cX2_thriftiest 78 = .ok (.getfield 34, 3) := by decide +kernel
theorem dX2_thriftiest_81 : decode cX2_thriftiest 81 = .ok (.iload_n 3, 1) := by decide +kernel
theorem dX2_thriftiest_82 : decode cX2_thriftiest 82 = .ok (.invokevirtual 112, 3) := by decide +kernel
theorem dX2_thriftiest_85 : decode cX2_thriftiest 85 = .ok (.if_icmp .ge 6, 3) := by decide +kernel
theorem dX2_thriftiest_88 : decode cX2_thriftiest 88 = .ok (.iload 5, 2) := by decide +kernel
theorem dX2_thriftiest_90 : decode cX2_thriftiest 90 = .ok (.istore_n 3, 1) := by decide +kernel
theorem dX2_thriftiest_91 : decode cX2_thriftiest 91 = .ok (.iinc 4 1, 3) := by decide +kernel
theorem dX2_thriftiest_94 : decode cX2_thriftiest 94 = .ok (.goto (-89), 3) := by decide +kernel
theorem dX2_thriftiest_97 : decode cX2_thriftiest 97 = .ok (.iload_n 3, 1) := by decide +kernel
theorem dX2_thriftiest_98 : decode cX2_thriftiest 98 = .ok (.ireturn, 1) := by decide +kernel
theorem dX2_waysFor_0 : decode cX2_waysFor 0 = .ok (.iload_n 1, 1) := by decide +kernel
theorem dX2_waysFor_1 : decode cX2_waysFor 1 = .ok (.ifCond .lt 21, 3) := by decide +kernel
theorem dX2_waysFor_4 : decode cX2_waysFor 4 = .ok (.iload_n 1, 1) := by decide +kernel
theorem dX2_waysFor_5 : decode cX2_waysFor 5 = .ok (.aload_n 0, 1) := by decide +kernel
theorem dX2_waysFor_6 : decode cX2_waysFor 6 = .ok (.getfield 38, 3) := by decide +kernel
theorem dX2_waysFor_9 : decode cX2_waysFor 9 = .ok (.arraylength, 1) := by decide +kernel
theorem dX2_waysFor_10 : decode cX2_waysFor 10 = .ok (.if_icmp .ge 12, 3) := by decide +kernel
theorem dX2_waysFor_13 : decode cX2_waysFor 13 = .ok (.aload_n 0, 1) := by decide +kernel
theorem dX2_waysFor_14 : decode cX2_waysFor 14 = .ok (.getfield 38, 3) := by decide +kernel
theorem dX2_waysFor_17 : decode cX2_waysFor 17 = .ok (.iload_n 1, 1) := by decide +kernel
theorem dX2_waysFor_18 : decode cX2_waysFor 18 = .ok (.laload, 1) := by decide +kernel
theorem dX2_waysFor_19 : decode cX2_waysFor 19 = .ok (.goto 4, 3) := by decide +kernel
theorem dX2_waysFor_22 : decode cX2_waysFor 22 = .ok (.lconst 0, 1) := by decide +kernel
theorem dX2_waysFor_23 : decode cX2_waysFor 23 = .ok (.lreturn, 1) := by decide +kernel
set_option maxRecDepth 20000 in
theorem ggX2_waysTo_X2_nearest : GoodIn wsX2_waysTo wsX2_nearest := goodIn_r _ [14, 1, 2, 3, 4, 15, 16, 17, 18, 19, 20, 21, 22, 23, 24, 25, 26, 27, 28, 29, 30, 46, 47, 48, 49, 50, 51, 52, 53, 54, 55, 56, 57, 58, 59, 60, 61, 62, 63, 64, 65] (by decide +kernel) (by decide +kernel)
set_option maxRecDepth 20000 in
theorem gX2_waysTo_X2_nearest : GoodIn wsX2_waysTo (wsV RX2 115 RX2 yX2_nearest wsX2_nearest) := goodIn_app (goodIn_of _ (by decide +kernel)) ggX2_waysTo_X2_nearest
set_option maxRecDepth 20000 in
theorem ggX2_waysTo_X4_acts : GoodIn wsX2_waysTo wsX4_acts := goodIn_r _ [35, 36, 37, 38, 39, 34, 40, 55, 56, 57, 58] (by decide +kernel) (by decide +kernel)
set_option maxRecDepth 20000 in
theorem gX2_waysTo_X4_acts : GoodIn wsX2_waysTo (wsV RX2 85 RX4 yX4_acts wsX4_acts) := goodIn_app (goodIn_of _ (by decide +kernel)) ggX2_waysTo_X4_acts
set_option maxRecDepth 20000 in
theorem ggX2_waysTo_X1_stand : GoodIn wsX2_waysTo wsX1_stand := goodIn_r _ [19, 20, 21, 22, 59, 60, 61, 62, 63, 64, 65] (by decide +kernel) (by decide +kernel)
set_option maxRecDepth 20000 in
theorem gX2_waysTo_X1_stand : GoodIn wsX2_waysTo (wsV RX2 89 RX1 yX1_stand wsX1_stand) := goodIn_app (goodIn_of _ (by decide +kernel)) ggX2_waysTo_X1_stand
set_option maxRecDepth 20000 in
theorem ggX2_waysTo_X1_meet : GoodIn wsX2_waysTo wsX1_meet := goodIn_r _ [26, 22, 20, 27, 28, 29, 18, 30, 59, 60, 61, 62, 63, 64, 65] (by decide +kernel) (by decide +kernel)
set_option maxRecDepth 20000 in
theorem gX2_waysTo_X1_meet : GoodIn wsX2_waysTo (wsV RX2 108 RX1 yX1_meet wsX1_meet) := goodIn_app (goodIn_of _ (by decide +kernel)) ggX2_waysTo_X1_meet
set_option maxRecDepth 20000 in
theorem ggX2_waysTo_X2_waysFor : GoodIn wsX2_waysTo wsX2_waysFor := goodIn_r _ [44, 45, 46, 47, 48, 49, 50, 51, 52, 53, 54] (by decide +kernel) (by decide +kernel)
set_option maxRecDepth 20000 in
theorem gX2_waysTo_X2_waysFor : GoodIn wsX2_waysTo (wsV RX2 98 RX2 yX2_waysFor wsX2_waysFor) := goodIn_app (goodIn_of _ (by decide +kernel)) ggX2_waysTo_X2_waysFor
theorem dX2_waysTo_0 : decode cX2_waysTo 0 = .ok (.aload_n 0, 1) := by decide +kernel
theorem dX2_waysTo_1 : decode cX2_waysTo 1 = .ok (.getfield 24, 3) := by decide +kernel
theorem dX2_waysTo_4 : decode cX2_waysTo 4 = .ok (.aload_n 0, 1) := by decide +kernel
theorem dX2_waysTo_5 : decode cX2_waysTo 5 = .ok (.iload_n 1, 1) := by decide +kernel
theorem dX2_waysTo_6 : decode cX2_waysTo 6 = .ok (.iload_n 2, 1) := by decide +kernel
theorem dX2_waysTo_7 : decode cX2_waysTo 7 = .ok (.invokevirtual 115, 3) := by decide +kernel
theorem dX2_waysTo_10 : decode cX2_waysTo 10 = .ok (.invokevirtual 85, 3) := by decide +kernel
theorem dX2_waysTo_13 : decode cX2_waysTo 13 = .ok (.istore_n 3, 1) := by decide +kernel
theorem dX2_waysTo_14 : decode cX2_waysTo 14 = .ok (.lconst 0, 1) := by decide +kernel
theorem dX2_waysTo_15 : decode cX2_waysTo 15 = .ok (.lstore 4, 2) := by decide +kernel
theorem dX2_waysTo_17 : decode cX2_waysTo 17 = .ok (.iconst 0, 1) := by decide +kernel
theorem dX2_waysTo_18 : decode cX2_waysTo 18 = .ok (.istore 6, 2) := by decide +kernel
theorem dX2_waysTo_20 : decode cX2_waysTo 20 = .ok (.iload 6, 2) := by decide +kernel
theorem dX2_waysTo_22 : decode cX2_waysTo 22 = .ok (.aload_n 0, 1) := by decide +kernel
theorem dX2_waysTo_23 : decode cX2_waysTo 23 = .ok (.getfield 24, 3) := by decide +kernel
theorem dX2_waysTo_26 : decode cX2_waysTo 26 = .ok (.getfield 78, 3) := by decide +kernel
theorem dX2_waysTo_29 : decode cX2_waysTo 29 = .ok (.if_icmp .ge 85, 3) := by decide +kernel
theorem dX2_waysTo_32 : decode cX2_waysTo 32 = .ok (.iload 6, 2) := by decide +kernel
theorem dX2_waysTo_34 : decode cX2_waysTo 34 = .ok (.aload_n 0, 1) := by decide +kernel
theorem dX2_waysTo_35 : decode cX2_waysTo 35 = .ok (.getfield 24, 3) := by decide +kernel
theorem dX2_waysTo_38 : decode cX2_waysTo 38 = .ok (.getfield 82, 3) := by decide +kernel
theorem dX2_waysTo_41 : decode cX2_waysTo 41 = .ok (.arraylength, 1) := by decide +kernel
theorem dX2_waysTo_42 : decode cX2_waysTo 42 = .ok (.if_icmp .ge 72, 3) := by decide +kernel
theorem dX2_waysTo_45 : decode cX2_waysTo 45 = .ok (.aload_n 0, 1) := by decide +kernel
theorem dX2_waysTo_46 : decode cX2_waysTo 46 = .ok (.getfield 24, 3) := by decide +kernel
theorem dX2_waysTo_49 : decode cX2_waysTo 49 = .ok (.getfield 82, 3) := by decide +kernel
theorem dX2_waysTo_52 : decode cX2_waysTo 52 = .ok (.iload 6, 2) := by decide +kernel
theorem dX2_waysTo_54 : decode cX2_waysTo 54 = .ok (.iaload, 1) := by decide +kernel
theorem dX2_waysTo_55 : decode cX2_waysTo 55 = .ok (.istore 7, 2) := by decide +kernel
theorem dX2_waysTo_57 : decode cX2_waysTo 57 = .ok (.aload_n 0, 1) := by decide +kernel
theorem dX2_waysTo_58 : decode cX2_waysTo 58 = .ok (.getfield 18, 3) := by decide +kernel
theorem dX2_waysTo_61 : decode cX2_waysTo 61 = .ok (.iload 7, 2) := by decide +kernel
theorem dX2_waysTo_63 : decode cX2_waysTo 63 = .ok (.invokevirtual 89, 3) := by decide +kernel
theorem dX2_waysTo_66 : decode cX2_waysTo 66 = .ok (.aload_n 0, 1) := by decide +kernel
theorem dX2_waysTo_67 : decode cX2_waysTo 67 = .ok (.getfield 24, 3) := by decide +kernel
theorem dX2_waysTo_70 : decode cX2_waysTo 70 = .ok (.iload 7, 2) := by decide +kernel
theorem dX2_waysTo_72 : decode cX2_waysTo 72 = .ok (.invokevirtual 85, 3) := by decide +kernel
theorem dX2_waysTo_75 : decode cX2_waysTo 75 = .ok (.iload_n 3, 1) := by decide +kernel
theorem dX2_waysTo_76 : decode cX2_waysTo 76 = .ok (.if_icmp .ne 32, 3) := by decide +kernel
theorem dX2_waysTo_79 : decode cX2_waysTo 79 = .ok (.aload_n 0, 1) := by decide +kernel
theorem dX2_waysTo_80 : decode cX2_waysTo 80 = .ok (.getfield 18, 3) := by decide +kernel
theorem dX2_waysTo_83 : decode cX2_waysTo 83 = .ok (.iload_n 1, 1) := by decide +kernel
theorem dX2_waysTo_84 : decode cX2_waysTo 84 = .ok (.iload_n 2, 1) := by decide +kernel
theorem dX2_waysTo_85 : decode cX2_waysTo 85 = .ok (.invokevirtual 108, 3) := by decide +kernel
theorem dX2_waysTo_88 : decode cX2_waysTo 88 = .ok (.ifCond .eq 20, 3) := by decide +kernel
theorem dX2_waysTo_91 : decode cX2_waysTo 91 = .ok (.ldc2_w 96, 3) := by decide +kernel
theorem dX2_waysTo_94 : decode cX2_waysTo 94 = .ok (.lload 4, 2) := by decide +kernel
theorem dX2_waysTo_96 : decode cX2_waysTo 96 = .ok (.aload_n 0, 1) := by decide +kernel
theorem dX2_waysTo_97 : decode cX2_waysTo 97 = .ok (.iload 7, 2) := by decide +kernel
theorem dX2_waysTo_99 : decode cX2_waysTo 99 = .ok (.invokevirtual 98, 3) := by decide +kernel
theorem dX2_waysTo_102 : decode cX2_waysTo 102 = .ok (.ladd, 1) := by decide +kernel
theorem dX2_waysTo_103 : decode cX2_waysTo 103 = .ok (.invokestatic 102, 3) := by decide +kernel
theorem dX2_waysTo_106 : decode cX2_waysTo 106 = .ok (.lstore 4, 2) := by decide +kernel
theorem dX2_waysTo_108 : decode cX2_waysTo 108 = .ok (.iinc 6 1, 3) := by decide +kernel
theorem dX2_waysTo_111 : decode cX2_waysTo 111 = .ok (.goto (-91), 3) := by decide +kernel
theorem dX2_waysTo_114 : decode cX2_waysTo 114 = .ok (.lload 4, 2) := by decide +kernel
theorem dX2_waysTo_116 : decode cX2_waysTo 116 = .ok (.lreturn, 1) := by decide +kernel
set_option maxRecDepth 20000 in
theorem ggX2_allHeld_X1_stand : GoodIn wsX2_allHeld wsX1_stand := goodIn_r _ [11, 12, 13, 14, 28, 29, 30, 31, 32, 33, 34] (by decide +kernel) (by decide +kernel)
set_option maxRecDepth 20000 in
theorem gX2_allHeld_X1_stand : GoodIn wsX2_allHeld (wsV RX2 89 RX1 yX1_stand wsX1_stand) := goodIn_app (goodIn_of _ (by decide +kernel)) ggX2_allHeld_X1_stand
theorem dX2_allHeld_0 : decode cX2_allHeld 0 = .ok (.iconst 0, 1) := by decide +kernel
theorem dX2_allHeld_1 : decode cX2_allHeld 1 = .ok (.istore_n 1, 1) := by decide +kernel
theorem dX2_allHeld_2 : decode cX2_allHeld 2 = .ok (.iconst 0, 1) := by decide +kernel
theorem dX2_allHeld_3 : decode cX2_allHeld 3 = .ok (.istore_n 2, 1) := by decide +kernel
theorem dX2_allHeld_4 : decode cX2_allHeld 4 = .ok (.iload_n 2, 1) := by decide +kernel
theorem dX2_allHeld_5 : decode cX2_allHeld 5 = .ok (.aload_n 0, 1) := by decide +kernel
theorem dX2_allHeld_6 : decode cX2_allHeld 6 = .ok (.getfield 24, 3) := by decide +kernel
theorem dX2_allHeld_9 : decode cX2_allHeld 9 = .ok (.getfield 78, 3) := by decide +kernel
theorem dX2_allHeld_12 : decode cX2_allHeld 12 = .ok (.if_icmp .ge 75, 3) := by decide +kernel
theorem dX2_allHeld_15 : decode cX2_allHeld 15 = .ok (.iload_n 2, 1) := by decide +kernel
theorem dX2_allHeld_16 : decode cX2_allHeld 16 = .ok (.aload_n 0, 1) := by decide +kernel
theorem dX2_allHeld_17 : decode cX2_allHeld 17 = .ok (.getfield 24, 3) := by decide +kernel
theorem dX2_allHeld_20 : decode cX2_allHeld 20 = .ok (.getfield 82, 3) := by decide +kernel
theorem dX2_allHeld_23 : decode cX2_allHeld 23 = .ok (.arraylength, 1) := by decide +kernel
theorem dX2_allHeld_24 : decode cX2_allHeld 24 = .ok (.if_icmp .ge 63, 3) := by decide +kernel
theorem dX2_allHeld_27 : decode cX2_allHeld 27 = .ok (.aload_n 0, 1) := by decide +kernel
theorem dX2_allHeld_28 : decode cX2_allHeld 28 = .ok (.getfield 18, 3) := by decide +kernel
theorem dX2_allHeld_31 : decode cX2_allHeld 31 = .ok (.aload_n 0, 1) := by decide +kernel
theorem dX2_allHeld_32 : decode cX2_allHeld 32 = .ok (.getfield 24, 3) := by decide +kernel
theorem dX2_allHeld_35 : decode cX2_allHeld 35 = .ok (.getfield 82, 3) := by decide +kernel
theorem dX2_allHeld_38 : decode cX2_allHeld 38 = .ok (.iload_n 2, 1) := by decide +kernel
theorem dX2_allHeld_39 : decode cX2_allHeld 39 = .ok (.iaload, 1) := by decide +kernel
theorem dX2_allHeld_40 : decode cX2_allHeld 40 = .ok (.invokevirtual 89, 3) := by decide +kernel
theorem dX2_allHeld_43 : decode cX2_allHeld 43 = .ok (.iconst 0, 1) := by decide +kernel
theorem dX2_allHeld_44 : decode cX2_allHeld 44 = .ok (.istore_n 3, 1) := by decide +kernel
theorem dX2_allHeld_45 : decode cX2_allHeld 45 = .ok (.iload_n 3, 1) := by decide +kernel
theorem dX2_allHeld_46 : decode cX2_allHeld 46 = .ok (.aload_n 0, 1) := by decide +kernel
theorem dX2_allHeld_47 : decode cX2_allHeld 47 = .ok (.getfield 18, 3) := by decide +kernel
theorem dX2_allHeld_50 : decode cX2_allHeld 50 = .ok (.getfield 119, 3) := by decide +kernel
theorem dX2_allHeld_53 : decode cX2_allHeld 53 = .ok (.if_icmp .ge 28, 3) := by decide +kernel
theorem dX2_allHeld_56 : decode cX2_allHeld 56 = .ok (.iload_n 3, 1) := by decide +kernel
theorem dX2_allHeld_57 : decode cX2_allHeld 57 = .ok (.iconst 4, 1) := by decide +kernel
theorem dX2_allHeld_58 : decode cX2_allHeld 58 = .ok (.if_icmp .ge 23, 3) := by decide +kernel
theorem dX2_allHeld_61 : decode cX2_allHeld 61 = .ok (.iload_n 1, 1) := by decide +kernel
theorem dX2_allHeld_62 : decode cX2_allHeld 62 = .ok (.iconst 1, 1) := by decide +kernel
theorem dX2_allHeld_63 : decode cX2_allHeld 63 = .ok (.aload_n 0, 1) := by decide +kernel
theorem dX2_allHeld_64 : decode cX2_allHeld 64 = .ok (.getfield 18, 3) := by decide +kernel
theorem dX2_allHeld_67 : decode cX2_allHeld 67 = .ok (.getfield 122, 3) := by decide +kernel
theorem dX2_allHeld_70 : decode cX2_allHeld 70 = .ok (.iload_n 3, 1) := by decide +kernel
theorem dX2_allHeld_71 : decode cX2_allHeld 71 = .ok (.iaload, 1) := by decide +kernel
theorem dX2_allHeld_72 : decode cX2_allHeld 72 = .ok (.ishl, 1) := by decide +kernel
theorem dX2_allHeld_73 : decode cX2_allHeld 73 = .ok (.ior, 1) := by decide +kernel
theorem dX2_allHeld_74 : decode cX2_allHeld 74 = .ok (.istore_n 1, 1) := by decide +kernel
theorem dX2_allHeld_75 : decode cX2_allHeld 75 = .ok (.iinc 3 1, 3) := by decide +kernel
theorem dX2_allHeld_78 : decode cX2_allHeld 78 = .ok (.goto (-33), 3) := by decide +kernel
theorem dX2_allHeld_81 : decode cX2_allHeld 81 = .ok (.iinc 2 1, 3) := by decide +kernel
theorem dX2_allHeld_84 : decode cX2_allHeld 84 = .ok (.goto (-80), 3) := by decide +kernel
theorem dX2_allHeld_87 : decode cX2_allHeld 87 = .ok (.iload_n 1, 1) := by decide +kernel
theorem dX2_allHeld_88 : decode cX2_allHeld 88 = .ok (.ireturn, 1) := by decide +kernel
theorem dX3_init_0 : decode cX3_init 0 = .ok (.aload_n 0, 1) := by decide +kernel
theorem dX3_init_1 : decode cX3_init 1 = .ok (.invokespecial 3, 3) := by decide +kernel
theorem dX3_init_4 : decode cX3_init 4 = .ok (.aload_n 0, 1) := by decide +kernel
theorem dX3_init_5 : decode cX3_init 5 = .ok (.iconst 0, 1) := by decide +kernel
theorem dX3_init_6 : decode cX3_init 6 = .ok (.newarray .int, 2) := by decide +kernel
theorem dX3_init_8 : decode cX3_init 8 = .ok (.putfield 9, 3) := by decide +kernel
theorem dX3_init_11 : decode cX3_init 11 = .ok (.aload_n 0, 1) := by decide +kernel
theorem dX3_init_12 : decode cX3_init 12 = .ok (.iconst 0, 1) := by decide +kernel
theorem dX3_init_13 : decode cX3_init 13 = .ok (.newarray .int, 2) := by decide +kernel
theorem dX3_init_15 : decode cX3_init 15 = .ok (.putfield 15, 3) := by decide +kernel
theorem dX3_init_18 : decode cX3_init 18 = .ok (.return_, 1) := by decide +kernel
set_option maxRecDepth 20000 in
theorem ggX3_measure_J7_fill_53178 : GoodIn wsX3_measure wsJ7_fill_53178 := goodIn_r _ [10] (by decide +kernel) (by decide +kernel)
set_option maxRecDepth 20000 in
theorem gX3_measure_J7_fill_53178 : GoodIn wsX3_measure (va_wsS RX3 24 yJ7_fill_53178 wsJ7_fill_53178) := goodIn_app (goodIn_of _ (by decide +kernel)) ggX3_measure_J7_fill_53178
set_option maxRecDepth 20000 in
theorem ggX3_measure_X1_code : GoodIn wsX3_measure wsX1_code := goodIn_r _ [15, 16, 17, 18, 54, 55, 56, 57, 58, 59, 60] (by decide +kernel) (by decide +kernel)
set_option maxRecDepth 20000 in
theorem gX3_measure_X1_code : GoodIn wsX3_measure (wsV RX3 30 RX1 yX1_code wsX1_code) := goodIn_app (goodIn_of _ (by decide +kernel)) ggX3_measure_X1_code
set_option maxRecDepth 20000 in
theorem ggX3_measure_X3_settle : GoodIn wsX3_measure wsX3_settle := goodIn_r _ [23, 6, 4, 24, 1, 25, 26, 27, 22, 28, 29, 30, 31, 14, 32, 16, 33, 17, 34, 35, 36, 37, 18, 38, 39, 40, 41, 42, 43, 44, 45, 46, 47, 50, 51, 52, 53, 48, 49, 54, 55, 56, 57, 58, 59, 60] (by decide +kernel) (by decide +kernel)
set_option maxRecDepth 20000 in
theorem gX3_measure_X3_settle : GoodIn wsX3_measure (wsV RX3 40 RX3 yX3_settle wsX3_settle) := goodIn_app (goodIn_of _ (by decide +kernel)) ggX3_measure_X3_settle
theorem dX3_measure_0 : decode cX3_measure 0 = .ok (.aload_n 0, 1) := by decide +kernel
theorem dX3_measure_1 : decode cX3_measure 1 = .ok (.getfield 9, 3) := by decide +kernel
theorem dX3_measure_4 : decode cX3_measure 4 = .ok (.arraylength, 1) := by decide +kernel
theorem dX3_measure_5 : decode cX3_measure 5 = .ok (.aload_n 2, 1) := by decide +kernel
theorem dX3_measure_6 : decode cX3_measure 6 = .ok (.getfield 18, 3) := by decide +kernel
theorem dX3_measure_9 : decode cX3_measure 9 = .ok (.arraylength, 1) := by decide +kernel
theorem dX3_measure_10 : decode cX3_measure 10 = .ok (.if_icmp .ge 25, 3) := by decide +kernel
theorem dX3_measure_13 : decode cX3_measure 13 = .ok (.aload_n 0, 1) := by decide +kernel
theorem dX3_measure_14 : decode cX3_measure 14 = .ok (.aload_n 2, 1) := by decide +kernel
theorem dX3_measure_15 : decode cX3_measure 15 = .ok (.getfield 18, 3) := by decide +kernel
theorem dX3_measure_18 : decode cX3_measure 18 = .ok (.arraylength, 1) := by decide +kernel
theorem dX3_measure_19 : decode cX3_measure 19 = .ok (.newarray .int, 2) := by decide +kernel
theorem dX3_measure_21 : decode cX3_measure 21 = .ok (.putfield 9, 3) := by decide +kernel
theorem dX3_measure_24 : decode cX3_measure 24 = .ok (.aload_n 0, 1) := by decide +kernel
theorem dX3_measure_25 : decode cX3_measure 25 = .ok (.aload_n 2, 1) := by decide +kernel
theorem dX3_measure_26 : decode cX3_measure 26 = .ok (.getfield 18, 3) := by decide +kernel
theorem dX3_measure_29 : decode cX3_measure 29 = .ok (.arraylength, 1) := by decide +kernel
theorem dX3_measure_30 : decode cX3_measure 30 = .ok (.newarray .int, 2) := by decide +kernel
theorem dX3_measure_32 : decode cX3_measure 32 = .ok (.putfield 15, 3) := by decide +kernel
theorem dX3_measure_35 : decode cX3_measure 35 = .ok (.aload_n 0, 1) := by decide +kernel
theorem dX3_measure_36 : decode cX3_measure 36 = .ok (.getfield 9, 3) := by decide +kernel
theorem dX3_measure_39 : decode cX3_measure 39 = .ok (.ldc 23, 2) := by decide +kernel
theorem dX3_measure_41 : decode cX3_measure 41 = .ok (.invokestatic 24, 3) := by decide +kernel
theorem dX3_measure_44 : decode cX3_measure 44 = .ok (.aload_n 1, 1) := by decide +kernel
theorem dX3_measure_45 : decode cX3_measure 45 = .ok (.invokevirtual 30, 3) := by decide +kernel
theorem dX3_measure_48 : decode cX3_measure 48 = .ok (.istore_n 3, 1) := by decide +kernel
theorem dX3_measure_49 : decode cX3_measure 49 = .ok (.iload_n 3, 1) := by decide +kernel
theorem dX3_measure_50 : decode cX3_measure 50 = .ok (.ifCond .lt 19, 3) := by decide +kernel
theorem dX3_measure_53 : decode cX3_measure 53 = .ok (.iload_n 3, 1) := by decide +kernel
theorem dX3_measure_54 : decode cX3_measure 54 = .ok (.aload_n 0, 1) := by decide +kernel
theorem dX3_measure_55 : decode cX3_measure 55 = .ok (.getfield 9, 3) := by decide +kernel
theorem dX3_measure_58 : decode cX3_measure 58 = .ok (.arraylength, 1) := by decide +kernel
theorem dX3_measure_59 : decode cX3_measure 59 = .ok (.if_icmp .ge 10, 3) := by decide +kernel
theorem dX3_measure_62 : decode cX3_measure 62 = .ok (.aload_n 0, 1) := by decide +kernel
theorem dX3_measure_63 : decode cX3_measure 63 = .ok (.getfield 9, 3) := by decide +kernel
theorem dX3_measure_66 : decode cX3_measure 66 = .ok (.iload_n 3, 1) := by decide +kernel
theorem dX3_measure_67 : decode cX3_measure 67 = .ok (.iconst 0, 1) := by decide +kernel
theorem dX3_measure_68 : decode cX3_measure 68 = .ok (.iastore, 1) := by decide +kernel
theorem dX3_measure_69 : decode cX3_measure 69 = .ok (.iconst 0, 1) := by decide +kernel
theorem dX3_measure_70 : decode cX3_measure 70 = .ok (.istore 4, 2) := by decide +kernel
theorem dX3_measure_72 : decode cX3_measure 72 = .ok (.iconst 0, 1) := by decide +kernel
theorem dX3_measure_73 : decode cX3_measure 73 = .ok (.istore 5, 2) := by decide +kernel
theorem dX3_measure_75 : decode cX3_measure 75 = .ok (.iload 5, 2) := by decide +kernel
theorem dX3_measure_77 : decode cX3_measure 77 = .ok (.ldc 23, 2) := by decide +kernel
theorem dX3_measure_79 : decode cX3_measure 79 = .ok (.if_icmp .ge 31, 3) := by decide +kernel
theorem dX3_measure_82 : decode cX3_measure 82 = .ok (.iload 4, 2) := by decide +kernel
theorem dX3_measure_84 : decode cX3_measure 84 = .ok (.aload_n 2, 1) := by decide +kernel
theorem dX3_measure_85 : decode cX3_measure 85 = .ok (.getfield 36, 3) := by decide +kernel
theorem dX3_measure_88 : decode cX3_measure 88 = .ok (.if_icmp .ge 22, 3) := by decide +kernel
theorem dX3_measure_91 : decode cX3_measure 91 = .ok (.iload 4, 2) := by decide +kernel
theorem dX3_measure_93 : decode cX3_measure 93 = .ok (.aload_n 0, 1) := by decide +kernel
theorem dX3_measure_94 : decode cX3_measure 94 = .ok (.aload_n 1, 1) := by decide +kernel
theorem dX3_measure_95 : decode cX3_measure 95 = .ok (.aload_n 2, 1) := by decide +kernel
theorem dX3_measure_96 : decode cX3_measure 96 = .ok (.iload 5, 2) := by decide +kernel
theorem dX3_measure_98 : decode cX3_measure 98 = .ok (.invokevirtual 40, 3) := by decide +kernel
theorem dX3_measure_101 : decode cX3_measure 101 = .ok (.iadd, 1) := by decide +kernel
theorem dX3_measure_102 : decode cX3_measure 102 = .ok (.istore 4, 2) := by decide +kernel
theorem dX3_measure_104 : decode cX3_measure 104 = .ok (.iinc 5 1, 3) := by decide +kernel
theorem dX3_measure_107 : decode cX3_measure 107 = .ok (.goto (-32), 3) := by decide +kernel
theorem dX3_measure_110 : decode cX3_measure 110 = .ok (.return_, 1) := by decide +kernel
set_option maxRecDepth 20000 in
theorem ggX3_settle_X3_leastFor : GoodIn wsX3_settle wsX3_leastFor := goodIn_r _ [9, 4, 37, 38] (by decide +kernel) (by decide +kernel)
set_option maxRecDepth 20000 in
theorem gX3_settle_X3_leastFor : GoodIn wsX3_settle (wsV RX3 47 RX3 yX3_leastFor wsX3_leastFor) := goodIn_app (goodIn_of _ (by decide +kernel)) ggX3_settle_X3_leastFor
set_option maxRecDepth 20000 in
theorem ggX3_settle_X1_stand : GoodIn wsX3_settle wsX1_stand := goodIn_r _ [14, 15, 16, 17, 39, 40, 41, 42, 43, 44, 45] (by decide +kernel) (by decide +kernel)
set_option maxRecDepth 20000 in
theorem gX3_settle_X1_stand : GoodIn wsX3_settle (wsV RX3 51 RX1 yX1_stand wsX1_stand) := goodIn_app (goodIn_of _ (by decide +kernel)) ggX3_settle_X1_stand
set_option maxRecDepth 20000 in
theorem ggX3_settle_X1_shiftBy : GoodIn wsX3_settle wsX1_shiftBy := goodIn_r _ [21, 22, 23, 24, 25, 13, 26, 15, 17, 27, 16, 28, 39, 40, 41, 42, 43, 44, 45] (by decide +kernel) (by decide +kernel)
set_option maxRecDepth 20000 in
theorem gX3_settle_X1_shiftBy : GoodIn wsX3_settle (wsV RX3 55 RX1 yX1_shiftBy wsX1_shiftBy) := goodIn_app (goodIn_of _ (by decide +kernel)) ggX3_settle_X1_shiftBy
set_option maxRecDepth 20000 in
theorem ggX3_settle_X1_spiltBy : GoodIn wsX3_settle wsX1_spiltBy := goodIn_r _ [32, 17, 39, 40, 41, 42, 43, 44, 45] (by decide +kernel) (by decide +kernel)
set_option maxRecDepth 20000 in
theorem gX3_settle_X1_spiltBy : GoodIn wsX3_settle (wsV RX3 58 RX1 yX1_spiltBy wsX1_spiltBy) := goodIn_app (goodIn_of _ (by decide +kernel)) ggX3_settle_X1_spiltBy
theorem dX3_settle_0 : decode cX3_settle 0 = .ok (.iconst 0, 1) := by decide +kernel
theorem dX3_settle_1 : decode cX3_settle 1 = .ok (.istore 4, 2) := by decide +kernel
theorem dX3_settle_3 : decode cX3_settle 3 = .ok (.iconst 0, 1) := by decide +kernel
theorem dX3_settle_4 : decode cX3_settle 4 = .ok (.istore 5, 2) := by decide +kernel
theorem dX3_settle_6 : decode cX3_settle 6 = .ok (.iload 5, 2) := by decide +kernel
theorem dX3_settle_8 : decode cX3_settle 8 = .ok (.aload_n 2, 1) := by decide +kernel
theorem dX3_settle_9 : decode cX3_settle 9 = .ok (.getfield 36, 3) := by decide +kernel
theorem dX3_settle_12 : decode cX3_settle 12 = .ok (.if_icmp .ge 50, 3) := by decide +kernel
theorem dX3_settle_15 : decode cX3_settle 15 = .ok (.iload 5, 2) := by decide +kernel
theorem dX3_settle_17 : decode cX3_settle 17 = .ok (.aload_n 0, 1) := by decide +kernel
theorem dX3_settle_18 : decode cX3_settle 18 = .ok (.getfield 15, 3) := by decide +kernel
theorem dX3_settle_21 : decode cX3_settle 21 = .ok (.arraylength, 1) := by decide +kernel
theorem dX3_settle_22 : decode cX3_settle 22 = .ok (.if_icmp .ge 40, 3) := by decide +kernel
theorem dX3_settle_25 : decode cX3_settle 25 = .ok (.aload_n 2, 1) := by decide +kernel
theorem dX3_settle_26 : decode cX3_settle 26 = .ok (.getfield 44, 3) := by decide +kernel
theorem dX3_settle_29 : decode cX3_settle 29 = .ok (.iload 5, 2) := by decide +kernel
theorem dX3_settle_31 : decode cX3_settle 31 = .ok (.iaload, 1) := by decide +kernel
theorem dX3_settle_32 : decode cX3_settle 32 = .ok (.istore 6, 2) := by decide +kernel
theorem dX3_settle_34 : decode cX3_settle 34 = .ok (.aload_n 0, 1) := by decide +kernel
theorem dX3_settle_35 : decode cX3_settle 35 = .ok (.iload 6, 2) := by decide +kernel
theorem dX3_settle_37 : decode cX3_settle 37 = .ok (.invokevirtual 47, 3) := by decide +kernel
theorem dX3_settle_40 : decode cX3_settle 40 = .ok (.iload_n 3, 1) := by decide +kernel
theorem dX3_settle_41 : decode cX3_settle 41 = .ok (.if_icmp .ne 15, 3) := by decide +kernel
theorem dX3_settle_44 : decode cX3_settle 44 = .ok (.aload_n 0, 1) := by decide +kernel
theorem dX3_settle_45 : decode cX3_settle 45 = .ok (.getfield 15, 3) := by decide +kernel
theorem dX3_settle_48 : decode cX3_settle 48 = .ok (.iload 4, 2) := by decide +kernel
theorem dX3_settle_50 : decode cX3_settle 50 = .ok (.iload 6, 2) := by decide +kernel
theorem dX3_settle_52 : decode cX3_settle 52 = .ok (.iastore, 1) := by decide +kernel
theorem dX3_settle_53 : decode cX3_settle 53 = .ok (.iinc 4 1, 3) := by decide +kernel
theorem dX3_settle_56 : decode cX3_settle 56 = .ok (.iinc 5 1, 3) := by decide +kernel
theorem dX3_settle_59 : decode cX3_settle 59 = .ok (.goto (-53), 3) := by decide +kernel
theorem dX3_settle_62 : decode cX3_settle 62 = .ok (.iconst 0, 1) := by decide +kernel
theorem dX3_settle_63 : decode cX3_settle 63 = .ok (.istore 5, 2) := by decide +kernel
theorem dX3_settle_65 : decode cX3_settle 65 = .ok (.iload 5, 2) := by decide +kernel
theorem dX3_settle_67 : decode cX3_settle 67 = .ok (.iload 4, 2) := by decide +kernel
theorem dX3_settle_69 : decode cX3_settle 69 = .ok (.if_icmp .ge 138, 3) := by decide +kernel
theorem dX3_settle_72 : decode cX3_settle 72 = .ok (.iload 5, 2) := by decide +kernel
theorem dX3_settle_74 : decode cX3_settle 74 = .ok (.aload_n 0, 1) := by decide +kernel
theorem dX3_settle_75 : decode cX3_settle 75 = .ok (.getfield 15, 3) := by decide +kernel
theorem dX3_settle_78 : decode cX3_settle 78 = .ok (.arraylength, 1) := by decide +kernel
theorem dX3_settle_79 : decode cX3_settle 79 = .ok (.if_icmp .ge 128, 3) := by decide +kernel
theorem dX3_settle_82 : decode cX3_settle 82 = .ok (.aload_n 0, 1) := by decide +kernel
theorem dX3_settle_83 : decode cX3_settle 83 = .ok (.getfield 15, 3) := by decide +kernel
theorem dX3_settle_86 : decode cX3_settle 86 = .ok (.iload 5, 2) := by decide +kernel
theorem dX3_settle_88 : decode cX3_settle 88 = .ok (.iaload, 1) := by decide +kernel
theorem dX3_settle_89 : decode cX3_settle 89 = .ok (.istore 6, 2) := by decide +kernel
theorem dX3_settle_91 : decode cX3_settle 91 = .ok (.aload_n 1, 1) := by decide +kernel
theorem dX3_settle_92 : decode cX3_settle 92 = .ok (.iload 6, 2) := by decide +kernel
theorem dX3_settle_94 : decode cX3_settle 94 = .ok (.invokevirtual 51, 3) := by decide +kernel
theorem dX3_settle_97 : decode cX3_settle 97 = .ok (.iconst 0, 1) := by decide +kernel
theorem dX3_settle_98 : decode cX3_settle 98 = .ok (.istore 7, 2) := by decide +kernel
theorem dX3_settle_100 : decode cX3_settle 100 = .ok (.iload 7, 2) := by decide +kernel
theorem dX3_settle_102 : decode cX3_settle 102 = .ok (.bipush 24, 2) := by decide +kernel
theorem dX3_settle_104 : decode cX3_settle 104 = .ok (.if_icmp .ge 97, 3) := by decide +kernel
theorem dX3_settle_107 : decode cX3_settle 107 = .ok (.iload 6, 2) := by decide +kernel
theorem dX3_settle_109 : decode cX3_settle 109 = .ok (.aload_n 1, 1) := by decide +kernel
theorem dX3_settle_110 : decode cX3_settle 110 = .ok (.iload 7, 2) := by decide +kernel
theorem dX3_settle_112 : decode cX3_settle 112 = .ok (.invokevirtual 55, 3) := by decide +kernel
theorem dX3_settle_115 : decode cX3_settle 115 = .ok (.iadd, 1) := by decide +kernel
theorem dX3_settle_116 : decode cX3_settle 116 = .ok (.istore 8, 2) := by decide +kernel
theorem dX3_settle_118 : decode cX3_settle 118 = .ok (.iload_n 3, 1) := by decide +kernel
theorem dX3_settle_119 : decode cX3_settle 119 = .ok (.aload_n 1, 1) := by decide +kernel
theorem dX3_settle_120 : decode cX3_settle 120 = .ok (.iload 7, 2) := by decide +kernel
theorem dX3_settle_122 : decode cX3_settle 122 = .ok (.invokevirtual 58, 3) := by decide +kernel
theorem dX3_settle_125 : decode cX3_settle 125 = .ok (.iadd, 1) := by decide +kernel
theorem dX3_settle_126 : decode cX3_settle 126 = .ok (.istore 9, 2) := by decide +kernel
theorem dX3_settle_128 : decode cX3_settle 128 = .ok (.iload 8, 2) := by decide +kernel
theorem dX3_settle_130 : decode cX3_settle 130 = .ok (.ifCond .lt 65, 3) := by decide +kernel
theorem dX3_settle_133 : decode cX3_settle 133 = .ok (.iload 8, 2) := by decide +kernel
theorem dX3_settle_135 : decode cX3_settle 135 = .ok (.aload_n 0, 1) := by decide +kernel
theorem dX3_settle_136 : decode cX3_settle 136 = .ok (.getfield 9, 3) := by decide +kernel
theorem dX3_settle_139 : decode cX3_settle 139 = .ok (.arraylength, 1) := by decide +kernel
theorem dX3_settle_140 : decode cX3_settle 140 = .ok (.if_icmp .ge 55, 3) := by decide +kernel
theorem dX3_settle_143 : decode cX3_settle 143 = .ok (.aload_n 0, 1) := by decide +kernel
theorem dX3_settle_144 : decode cX3_settle 144 = .ok (.getfield 9, 3) := by decide +kernel
theorem dX3_settle_147 : decode cX3_settle 147 = .ok (.iload 8, 2) := by decide +kernel
theorem dX3_settle_149 : decode cX3_settle 149 = .ok (.iaload, 1) := by decide +kernel
theorem dX3_settle_150 : decode cX3_settle 150 = .ok (.iload 9, 2) := by decide +kernel
theorem dX3_settle_152 : decode cX3_settle 152 = .ok (.if_icmp .gt 6, 3) := by decide +kernel
theorem dX3_settle_155 : decode cX3_settle 155 = .ok (.goto 40, 3) := by decide +kernel
theorem dX3_settle_158 : decode cX3_settle 158 = .ok (.aload_n 0, 1) := by decide +kernel
theorem dX3_settle_159 : decode cX3_settle 159 = .ok (.getfield 9, 3) := by decide +kernel
theorem dX3_settle_162 : decode cX3_settle 162 = .ok (.iload 8, 2) := by decide +kernel
theorem dX3_settle_164 : decode cX3_settle 164 = .ok (.iload 9, 2) := by decide +kernel
theorem dX3_settle_166 : decode cX3_settle 166 = .ok (.iastore, 1) := by decide +kernel
theorem dX3_settle_167 : decode cX3_settle 167 = .ok (.iload 9, 2) := by decide +kernel
theorem dX3_settle_169 : decode cX3_settle 169 = .ok (.iload_n 3, 1) := by decide +kernel
theorem dX3_settle_170 : decode cX3_settle 170 = .ok (.if_icmp .ne 25, 3) := by decide +kernel
theorem dX3_settle_173 : decode cX3_settle 173 = .ok (.iload 4, 2) := by decide +kernel
theorem dX3_settle_175 : decode cX3_settle 175 = .ok (.aload_n 0, 1) := by decide +kernel
theorem dX3_settle_176 : decode cX3_settle 176 = .ok (.getfield 15, 3) := by decide +kernel
theorem dX3_settle_179 : decode cX3_settle 179 = .ok (.arraylength, 1) := by decide +kernel
theorem dX3_settle_180 : decode cX3_settle 180 = .ok (.if_icmp .ge 15, 3) := by decide +kernel
theorem dX3_settle_183 : decode cX3_settle 183 = .ok (.aload_n 0, 1) := by decide +kernel
theorem dX3_settle_184 : decode cX3_settle 184 = .ok (.getfield 15, 3) := by decide +kernel
theorem dX3_settle_187 : decode cX3_settle 187 = .ok (.iload 4, 2) := by decide +kernel
theorem dX3_settle_189 : decode cX3_settle 189 = .ok (.iload 8, 2) := by decide +kernel
theorem dX3_settle_191 : decode cX3_settle 191 = .ok (.iastore, 1) := by decide +kernel
theorem dX3_settle_192 : decode cX3_settle 192 = .ok (.iinc 4 1, 3) := by decide +kernel
theorem dX3_settle_195 : decode cX3_settle 195 = .ok (.iinc 7 1, 3) := by decide +kernel
theorem dX3_settle_198 : decode cX3_settle 198 = .ok (.goto (-98), 3) := by decide +kernel
theorem dX3_settle_201 : decode cX3_settle 201 = .ok (.iinc 5 1, 3) := by decide +kernel
theorem dX3_settle_204 : decode cX3_settle 204 = .ok (.goto (-139), 3) := by decide +kernel
theorem dX3_settle_207 : decode cX3_settle 207 = .ok (.iload 4, 2) := by decide +kernel
theorem dX3_settle_209 : decode cX3_settle 209 = .ok (.ireturn, 1) := by decide +kernel
theorem dX3_isLeast_0 : decode cX3_isLeast 0 = .ok (.iload_n 1, 1) := by decide +kernel
theorem dX3_isLeast_1 : decode cX3_isLeast 1 = .ok (.ifCond .lt 46, 3) := by decide +kernel
theorem dX3_isLeast_4 : decode cX3_isLeast 4 = .ok (.iload_n 1, 1) := by decide +kernel
theorem dX3_isLeast_5 : decode cX3_isLeast 5 = .ok (.aload_n 0, 1) := by decide +kernel
theorem dX3_isLeast_6 : decode cX3_isLeast 6 = .ok (.getfield 9, 3) := by decide +kernel
theorem dX3_isLeast_9 : decode cX3_isLeast 9 = .ok (.arraylength, 1) := by decide +kernel
theorem dX3_isLeast_10 : decode cX3_isLeast 10 = .ok (.if_icmp .ge 37, 3) := by decide +kernel
theorem dX3_isLeast_13 : decode cX3_isLeast 13 = .ok (.iload_n 2, 1) := by decide +kernel
theorem dX3_isLeast_14 : decode cX3_isLeast 14 = .ok (.ifCond .lt 33, 3) := by decide +kernel
theorem dX3_isLeast_17 : decode cX3_isLeast 17 = .ok (.iload_n 2, 1) := by decide +kernel
theorem dX3_isLeast_18 : decode cX3_isLeast 18 = .ok (.aload_n 0, 1) := by decide +kernel
theorem dX3_isLeast_19 : decode cX3_isLeast 19 = .ok (.getfield 9, 3) := by decide +kernel
theorem dX3_isLeast_22 : decode cX3_isLeast 22 = .ok (.arraylength, 1) := by decide +kernel
theorem dX3_isLeast_23 : decode cX3_isLeast 23 = .ok (.if_icmp .ge 24, 3) := by decide +kernel
theorem dX3_isLeast_26 : decode cX3_isLeast 26 = .ok (.aload_n 0, 1) := by decide +kernel
theorem dX3_isLeast_27 : decode cX3_isLeast 27 = .ok (.getfield 9, 3) := by decide +kernel
theorem dX3_isLeast_30 : decode cX3_isLeast 30 = .ok (.iload_n 2, 1) := by decide +kernel
theorem dX3_isLeast_31 : decode cX3_isLeast 31 = .ok (.iaload, 1) := by decide +kernel
theorem dX3_isLeast_32 : decode cX3_isLeast 32 = .ok (.aload_n 0, 1) := by decide +kernel
theorem dX3_isLeast_33 : decode cX3_isLeast 33 = .ok (.getfield 9, 3) := by decide +kernel
theorem dX3_isLeast_36 : decode cX3_isLeast 36 = .ok (.iload_n 1, 1) := by decide +kernel
theorem dX3_isLeast_37 : decode cX3_isLeast 37 = .ok (.iaload, 1) := by decide +kernel
theorem dX3_isLeast_38 : decode cX3_isLeast 38 = .ok (.iload_n 3, 1) := by decide +kernel
theorem dX3_isLeast_39 : decode cX3_isLeast 39 = .ok (.iadd, 1) := by decide +kernel
theorem dX3_isLeast_40 : decode cX3_isLeast 40 = .ok (.if_icmp .ne 7, 3) := by decide +kernel
theorem dX3_isLeast_43 : decode cX3_isLeast 43 = .ok (.iconst 1, 1) := by decide +kernel
theorem dX3_isLeast_44 : decode cX3_isLeast 44 = .ok (.goto 4, 3) := by decide +kernel
theorem dX3_isLeast_47 : decode cX3_isLeast 47 = .ok (.iconst 0, 1) := by decide +kernel
theorem dX3_isLeast_48 : decode cX3_isLeast 48 = .ok (.ireturn, 1) := by decide +kernel
theorem dX3_leastFor_0 : decode cX3_leastFor 0 = .ok (.iload_n 1, 1) := by decide +kernel
theorem dX3_leastFor_1 : decode cX3_leastFor 1 = .ok (.ifCond .lt 21, 3) := by decide +kernel
theorem dX3_leastFor_4 : decode cX3_leastFor 4 = .ok (.iload_n 1, 1) := by decide +kernel
theorem dX3_leastFor_5 : decode cX3_leastFor 5 = .ok (.aload_n 0, 1) := by decide +kernel
theorem dX3_leastFor_6 : decode cX3_leastFor 6 = .ok (.getfield 9, 3) := by decide +kernel
theorem dX3_leastFor_9 : decode cX3_leastFor 9 = .ok (.arraylength, 1) := by decide +kernel
theorem dX3_leastFor_10 : decode cX3_leastFor 10 = .ok (.if_icmp .ge 12, 3) := by decide +kernel
theorem dX3_leastFor_13 : decode cX3_leastFor 13 = .ok (.aload_n 0, 1) := by decide +kernel
theorem dX3_leastFor_14 : decode cX3_leastFor 14 = .ok (.getfield 9, 3) := by decide +kernel
theorem dX3_leastFor_17 : decode cX3_leastFor 17 = .ok (.iload_n 1, 1) := by decide +kernel
theorem dX3_leastFor_18 : decode cX3_leastFor 18 = .ok (.iaload, 1) := by decide +kernel
theorem dX3_leastFor_19 : decode cX3_leastFor 19 = .ok (.goto 4, 3) := by decide +kernel
