theorem dX5_actsOfRoad_49 : decode cX5_actsOfRoad 49 = .ok (.isub, 1) := by decide +kernel
theorem dX5_actsOfRoad_50 : decode cX5_actsOfRoad 50 = .ok (.istore_n 3, 1) := by decide +kernel
theorem dX5_actsOfRoad_51 : decode cX5_actsOfRoad 51 = .ok (.iload 4, 2) := by decide +kernel
theorem dX5_actsOfRoad_53 : decode cX5_actsOfRoad 53 = .ok (.iload 6, 2) := by decide +kernel
theorem dX5_actsOfRoad_55 : decode cX5_actsOfRoad 55 = .ok (.iadd, 1) := by decide +kernel
theorem dX5_actsOfRoad_56 : decode cX5_actsOfRoad 56 = .ok (.istore 4, 2) := by decide +kernel
theorem dX5_actsOfRoad_58 : decode cX5_actsOfRoad 58 = .ok (.iload_n 3, 1) := by decide +kernel
theorem dX5_actsOfRoad_59 : decode cX5_actsOfRoad 59 = .ok (.iload_n 2, 1) := by decide +kernel
theorem dX5_actsOfRoad_60 : decode cX5_actsOfRoad 60 = .ok (.if_icmp .eq 9, 3) := by decide +kernel
theorem dX5_actsOfRoad_63 : decode cX5_actsOfRoad 63 = .ok (.iload 4, 2) := by decide +kernel
theorem dX5_actsOfRoad_65 : decode cX5_actsOfRoad 65 = .ok (.iload_n 2, 1) := by decide +kernel
theorem dX5_actsOfRoad_66 : decode cX5_actsOfRoad 66 = .ok (.if_icmp .ne 6, 3) := by decide +kernel
theorem dX5_actsOfRoad_69 : decode cX5_actsOfRoad 69 = .ok (.iload 5, 2) := by decide +kernel
theorem dX5_actsOfRoad_71 : decode cX5_actsOfRoad 71 = .ok (.ireturn, 1) := by decide +kernel
theorem dX5_actsOfRoad_72 : decode cX5_actsOfRoad 72 = .ok (.iload_n 3, 1) := by decide +kernel
theorem dX5_actsOfRoad_73 : decode cX5_actsOfRoad 73 = .ok (.ifCond .ne 10, 3) := by decide +kernel
theorem dX5_actsOfRoad_76 : decode cX5_actsOfRoad 76 = .ok (.iload 4, 2) := by decide +kernel
theorem dX5_actsOfRoad_78 : decode cX5_actsOfRoad 78 = .ok (.ifCond .ne 5, 3) := by decide +kernel
theorem dX5_actsOfRoad_81 : decode cX5_actsOfRoad 81 = .ok (.iconst (-1), 1) := by decide +kernel
theorem dX5_actsOfRoad_82 : decode cX5_actsOfRoad 82 = .ok (.ireturn, 1) := by decide +kernel
theorem dX5_actsOfRoad_83 : decode cX5_actsOfRoad 83 = .ok (.iinc 5 1, 3) := by decide +kernel
theorem dX5_actsOfRoad_86 : decode cX5_actsOfRoad 86 = .ok (.goto (-78), 3) := by decide +kernel
theorem dX5_actsOfRoad_89 : decode cX5_actsOfRoad 89 = .ok (.iconst (-1), 1) := by decide +kernel
theorem dX5_actsOfRoad_90 : decode cX5_actsOfRoad 90 = .ok (.ireturn, 1) := by decide +kernel
theorem dX5_lengthFor_0 : decode cX5_lengthFor 0 = .ok (.sipush 14641, 3) := by decide +kernel
theorem dX5_lengthFor_3 : decode cX5_lengthFor 3 = .ok (.iload_n 0, 1) := by decide +kernel
theorem dX5_lengthFor_4 : decode cX5_lengthFor 4 = .ok (.iconst 2, 1) := by decide +kernel
theorem dX5_lengthFor_5 : decode cX5_lengthFor 5 = .ok (.iload_n 1, 1) := by decide +kernel
theorem dX5_lengthFor_6 : decode cX5_lengthFor 6 = .ok (.imul, 1) := by decide +kernel
theorem dX5_lengthFor_7 : decode cX5_lengthFor 7 = .ok (.invokestatic 157, 3) := by decide +kernel
theorem dX5_lengthFor_10 : decode cX5_lengthFor 10 = .ok (.invokestatic 152, 3) := by decide +kernel
theorem dX5_lengthFor_13 : decode cX5_lengthFor 13 = .ok (.ireturn, 1) := by decide +kernel
theorem dX6_init_0 : decode cX6_init 0 = .ok (.aload_n 0, 1) := by decide +kernel
theorem dX6_init_1 : decode cX6_init 1 = .ok (.invokespecial 1, 3) := by decide +kernel
theorem dX6_init_4 : decode cX6_init 4 = .ok (.aload_n 0, 1) := by decide +kernel
theorem dX6_init_5 : decode cX6_init 5 = .ok (.iconst 4, 1) := by decide +kernel
theorem dX6_init_6 : decode cX6_init 6 = .ok (.newarray .int, 2) := by decide +kernel
theorem dX6_init_8 : decode cX6_init 8 = .ok (.putfield 7, 3) := by decide +kernel
theorem dX6_init_11 : decode cX6_init 11 = .ok (.aload_n 0, 1) := by decide +kernel
theorem dX6_init_12 : decode cX6_init 12 = .ok (.iconst 4, 1) := by decide +kernel
theorem dX6_init_13 : decode cX6_init 13 = .ok (.newarray .int, 2) := by decide +kernel
theorem dX6_init_15 : decode cX6_init 15 = .ok (.putfield 13, 3) := by decide +kernel
theorem dX6_init_18 : decode cX6_init 18 = .ok (.aload_n 0, 1) := by decide +kernel
theorem dX6_init_19 : decode cX6_init 19 = .ok (.iconst 1, 1) := by decide +kernel
theorem dX6_init_20 : decode cX6_init 20 = .ok (.putfield 16, 3) := by decide +kernel
theorem dX6_init_23 : decode cX6_init 23 = .ok (.aload_n 0, 1) := by decide +kernel
theorem dX6_init_24 : decode cX6_init 24 = .ok (.iconst 1, 1) := by decide +kernel
theorem dX6_init_25 : decode cX6_init 25 = .ok (.putfield 20, 3) := by decide +kernel
theorem dX6_init_28 : decode cX6_init 28 = .ok (.aload_n 0, 1) := by decide +kernel
theorem dX6_init_29 : decode cX6_init 29 = .ok (.iconst 3, 1) := by decide +kernel
theorem dX6_init_30 : decode cX6_init 30 = .ok (.newarray .int, 2) := by decide +kernel
theorem dX6_init_32 : decode cX6_init 32 = .ok (.putfield 23, 3) := by decide +kernel
theorem dX6_init_35 : decode cX6_init 35 = .ok (.aload_n 0, 1) := by decide +kernel
theorem dX6_init_36 : decode cX6_init 36 = .ok (.iconst 4, 1) := by decide +kernel
theorem dX6_init_37 : decode cX6_init 37 = .ok (.newarray .int, 2) := by decide +kernel
theorem dX6_init_39 : decode cX6_init 39 = .ok (.putfield 26, 3) := by decide +kernel
theorem dX6_init_42 : decode cX6_init 42 = .ok (.aload_n 0, 1) := by decide +kernel
theorem dX6_init_43 : decode cX6_init 43 = .ok (.iconst 4, 1) := by decide +kernel
theorem dX6_init_44 : decode cX6_init 44 = .ok (.newarray .int, 2) := by decide +kernel
theorem dX6_init_46 : decode cX6_init 46 = .ok (.putfield 29, 3) := by decide +kernel
theorem dX6_init_49 : decode cX6_init 49 = .ok (.aload_n 0, 1) := by decide +kernel
theorem dX6_init_50 : decode cX6_init 50 = .ok (.ldc 32, 2) := by decide +kernel
theorem dX6_init_52 : decode cX6_init 52 = .ok (.newarray .int, 2) := by decide +kernel
theorem dX6_init_54 : decode cX6_init 54 = .ok (.putfield 33, 3) := by decide +kernel
theorem dX6_init_57 : decode cX6_init 57 = .ok (.aload_n 0, 1) := by decide +kernel
theorem dX6_init_58 : decode cX6_init 58 = .ok (.ldc 32, 2) := by decide +kernel
theorem dX6_init_60 : decode cX6_init 60 = .ok (.newarray .int, 2) := by decide +kernel
theorem dX6_init_62 : decode cX6_init 62 = .ok (.putfield 36, 3) := by decide +kernel
theorem dX6_init_65 : decode cX6_init 65 = .ok (.aload_n 0, 1) := by decide +kernel
theorem dX6_init_66 : decode cX6_init 66 = .ok (.sipush 14641, 3) := by decide +kernel
theorem dX6_init_69 : decode cX6_init 69 = .ok (.newarray .int, 2) := by decide +kernel
theorem dX6_init_71 : decode cX6_init 71 = .ok (.putfield 39, 3) := by decide +kernel
theorem dX6_init_74 : decode cX6_init 74 = .ok (.aload_n 0, 1) := by decide +kernel
theorem dX6_init_75 : decode cX6_init 75 = .ok (.sipush 14641, 3) := by decide +kernel
theorem dX6_init_78 : decode cX6_init 78 = .ok (.newarray .long, 2) := by decide +kernel
theorem dX6_init_80 : decode cX6_init 80 = .ok (.putfield 42, 3) := by decide +kernel
theorem dX6_init_83 : decode cX6_init 83 = .ok (.aload_n 0, 1) := by decide +kernel
theorem dX6_init_84 : decode cX6_init 84 = .ok (.sipush 14641, 3) := by decide +kernel
theorem dX6_init_87 : decode cX6_init 87 = .ok (.newarray .boolean, 2) := by decide +kernel
theorem dX6_init_89 : decode cX6_init 89 = .ok (.putfield 46, 3) := by decide +kernel
theorem dX6_init_92 : decode cX6_init 92 = .ok (.aload_n 0, 1) := by decide +kernel
theorem dX6_init_93 : decode cX6_init 93 = .ok (.sipush 14641, 3) := by decide +kernel
theorem dX6_init_96 : decode cX6_init 96 = .ok (.newarray .int, 2) := by decide +kernel
theorem dX6_init_98 : decode cX6_init 98 = .ok (.putfield 50, 3) := by decide +kernel
theorem dX6_init_101 : decode cX6_init 101 = .ok (.aload_n 0, 1) := by decide +kernel
theorem dX6_init_102 : decode cX6_init 102 = .ok (.sipush 17576, 3) := by decide +kernel
theorem dX6_init_105 : decode cX6_init 105 = .ok (.newarray .int, 2) := by decide +kernel
theorem dX6_init_107 : decode cX6_init 107 = .ok (.putfield 53, 3) := by decide +kernel
theorem dX6_init_110 : decode cX6_init 110 = .ok (.aload_n 0, 1) := by decide +kernel
theorem dX6_init_111 : decode cX6_init 111 = .ok (.sipush 17576, 3) := by decide +kernel
theorem dX6_init_114 : decode cX6_init 114 = .ok (.newarray .int, 2) := by decide +kernel
theorem dX6_init_116 : decode cX6_init 116 = .ok (.putfield 56, 3) := by decide +kernel
theorem dX6_init_119 : decode cX6_init 119 = .ok (.aload_n 0, 1) := by decide +kernel
theorem dX6_init_120 : decode cX6_init 120 = .ok (.ldc 59, 2) := by decide +kernel
theorem dX6_init_122 : decode cX6_init 122 = .ok (.newarray .int, 2) := by decide +kernel
theorem dX6_init_124 : decode cX6_init 124 = .ok (.putfield 60, 3) := by decide +kernel
theorem dX6_init_127 : decode cX6_init 127 = .ok (.aload_n 0, 1) := by decide +kernel
theorem dX6_init_128 : decode cX6_init 128 = .ok (.ldc 63, 2) := by decide +kernel
theorem dX6_init_130 : decode cX6_init 130 = .ok (.newarray .int, 2) := by decide +kernel
theorem dX6_init_132 : decode cX6_init 132 = .ok (.putfield 64, 3) := by decide +kernel
theorem dX6_init_135 : decode cX6_init 135 = .ok (.return_, 1) := by decide +kernel
theorem dX6_in_0 : decode cX6_in 0 = .ok (.iload_n 0, 1) := by decide +kernel
theorem dX6_in_1 : decode cX6_in 1 = .ok (.iload_n 1, 1) := by decide +kernel
theorem dX6_in_2 : decode cX6_in 2 = .ok (.if_icmp .lt 12, 3) := by decide +kernel
theorem dX6_in_5 : decode cX6_in 5 = .ok (.iload_n 0, 1) := by decide +kernel
theorem dX6_in_6 : decode cX6_in 6 = .ok (.iload_n 2, 1) := by decide +kernel
theorem dX6_in_7 : decode cX6_in 7 = .ok (.if_icmp .gt 7, 3) := by decide +kernel
theorem dX6_in_10 : decode cX6_in 10 = .ok (.iconst 1, 1) := by decide +kernel
theorem dX6_in_11 : decode cX6_in 11 = .ok (.goto 4, 3) := by decide +kernel
theorem dX6_in_14 : decode cX6_in 14 = .ok (.iconst 0, 1) := by decide +kernel
theorem dX6_in_15 : decode cX6_in 15 = .ok (.ireturn, 1) := by decide +kernel
set_option maxRecDepth 20000 in
theorem ggX6_isJug_X6_in : GoodIn wsX6_isJug wsX6_in := goodIn_r _ [5] (by decide +kernel) (by decide +kernel)
set_option maxRecDepth 20000 in
theorem gX6_isJug_X6_in : GoodIn wsX6_isJug (va_wsS RX6 71 yX6_in wsX6_in) := goodIn_app (goodIn_of _ (by decide +kernel)) ggX6_isJug_X6_in
theorem dX6_isJug_0 : decode cX6_isJug 0 = .ok (.iload_n 1, 1) := by decide +kernel
theorem dX6_isJug_1 : decode cX6_isJug 1 = .ok (.iconst 0, 1) := by decide +kernel
theorem dX6_isJug_2 : decode cX6_isJug 2 = .ok (.aload_n 0, 1) := by decide +kernel
theorem dX6_isJug_3 : decode cX6_isJug 3 = .ok (.getfield 67, 3) := by decide +kernel
theorem dX6_isJug_6 : decode cX6_isJug 6 = .ok (.iconst 1, 1) := by decide +kernel
theorem dX6_isJug_7 : decode cX6_isJug 7 = .ok (.isub, 1) := by decide +kernel
theorem dX6_isJug_8 : decode cX6_isJug 8 = .ok (.invokestatic 71, 3) := by decide +kernel
theorem dX6_isJug_11 : decode cX6_isJug 11 = .ok (.ireturn, 1) := by decide +kernel
set_option maxRecDepth 20000 in
theorem ggX6_jug_X6_in : GoodIn wsX6_jug wsX6_in := goodIn_r _ [7] (by decide +kernel) (by decide +kernel)
set_option maxRecDepth 20000 in
theorem gX6_jug_X6_in : GoodIn wsX6_jug (va_wsS RX6 71 yX6_in wsX6_in) := goodIn_app (goodIn_of _ (by decide +kernel)) ggX6_jug_X6_in
theorem dX6_jug_0 : decode cX6_jug 0 = .ok (.iload_n 1, 1) := by decide +kernel
theorem dX6_jug_1 : decode cX6_jug 1 = .ok (.iconst 1, 1) := by decide +kernel
theorem dX6_jug_2 : decode cX6_jug 2 = .ok (.bipush 10, 2) := by decide +kernel
theorem dX6_jug_4 : decode cX6_jug 4 = .ok (.invokestatic 71, 3) := by decide +kernel
theorem dX6_jug_7 : decode cX6_jug 7 = .ok (.ifCond .eq 12, 3) := by decide +kernel
theorem dX6_jug_10 : decode cX6_jug 10 = .ok (.iload_n 2, 1) := by decide +kernel
theorem dX6_jug_11 : decode cX6_jug 11 = .ok (.iconst 0, 1) := by decide +kernel
theorem dX6_jug_12 : decode cX6_jug 12 = .ok (.iload_n 1, 1) := by decide +kernel
theorem dX6_jug_13 : decode cX6_jug 13 = .ok (.invokestatic 71, 3) := by decide +kernel
theorem dX6_jug_16 : decode cX6_jug 16 = .ok (.ifCond .ne 6, 3) := by decide +kernel
theorem dX6_jug_19 : decode cX6_jug 19 = .ok (.bipush (-2), 2) := by decide +kernel
theorem dX6_jug_21 : decode cX6_jug 21 = .ok (.ireturn, 1) := by decide +kernel
theorem dX6_jug_22 : decode cX6_jug 22 = .ok (.aload_n 0, 1) := by decide +kernel
theorem dX6_jug_23 : decode cX6_jug 23 = .ok (.getfield 67, 3) := by decide +kernel
theorem dX6_jug_26 : decode cX6_jug 26 = .ok (.iconst 4, 1) := by decide +kernel
theorem dX6_jug_27 : decode cX6_jug 27 = .ok (.if_icmp .ne 6, 3) := by decide +kernel
theorem dX6_jug_30 : decode cX6_jug 30 = .ok (.bipush (-4), 2) := by decide +kernel
theorem dX6_jug_32 : decode cX6_jug 32 = .ok (.ireturn, 1) := by decide +kernel
theorem dX6_jug_33 : decode cX6_jug 33 = .ok (.aload_n 0, 1) := by decide +kernel
theorem dX6_jug_34 : decode cX6_jug 34 = .ok (.getfield 7, 3) := by decide +kernel
theorem dX6_jug_37 : decode cX6_jug 37 = .ok (.aload_n 0, 1) := by decide +kernel
theorem dX6_jug_38 : decode cX6_jug 38 = .ok (.getfield 67, 3) := by decide +kernel
theorem dX6_jug_41 : decode cX6_jug 41 = .ok (.iload_n 1, 1) := by decide +kernel
theorem dX6_jug_42 : decode cX6_jug 42 = .ok (.iastore, 1) := by decide +kernel
theorem dX6_jug_43 : decode cX6_jug 43 = .ok (.aload_n 0, 1) := by decide +kernel
theorem dX6_jug_44 : decode cX6_jug 44 = .ok (.getfield 13, 3) := by decide +kernel
theorem dX6_jug_47 : decode cX6_jug 47 = .ok (.aload_n 0, 1) := by decide +kernel
theorem dX6_jug_48 : decode cX6_jug 48 = .ok (.getfield 67, 3) := by decide +kernel
theorem dX6_jug_51 : decode cX6_jug 51 = .ok (.iload_n 2, 1) := by decide +kernel
theorem dX6_jug_52 : decode cX6_jug 52 = .ok (.iastore, 1) := by decide +kernel
theorem dX6_jug_53 : decode cX6_jug 53 = .ok (.aload_n 0, 1) := by decide +kernel
theorem dX6_jug_54 : decode cX6_jug 54 = .ok (.dup, 1) := by decide +kernel
theorem dX6_jug_55 : decode cX6_jug 55 = .ok (.getfield 67, 3) := by decide +kernel
theorem dX6_jug_58 : decode cX6_jug 58 = .ok (.iconst 1, 1) := by decide +kernel
theorem dX6_jug_59 : decode cX6_jug 59 = .ok (.iadd, 1) := by decide +kernel
theorem dX6_jug_60 : decode cX6_jug 60 = .ok (.putfield 67, 3) := by decide +kernel
theorem dX6_jug_63 : decode cX6_jug 63 = .ok (.aload_n 0, 1) := by decide +kernel
theorem dX6_jug_64 : decode cX6_jug 64 = .ok (.getfield 67, 3) := by decide +kernel
theorem dX6_jug_67 : decode cX6_jug 67 = .ok (.iconst 1, 1) := by decide +kernel
theorem dX6_jug_68 : decode cX6_jug 68 = .ok (.isub, 1) := by decide +kernel
theorem dX6_jug_69 : decode cX6_jug 69 = .ok (.ireturn, 1) := by decide +kernel
set_option maxRecDepth 20000 in
theorem ggX6_set_X6_in : GoodIn wsX6_set wsX6_in := goodIn_r _ [6] (by decide +kernel) (by decide +kernel)
set_option maxRecDepth 20000 in
theorem gX6_set_X6_in : GoodIn wsX6_set (va_wsS RX6 71 yX6_in wsX6_in) := goodIn_app (goodIn_of _ (by decide +kernel)) ggX6_set_X6_in
theorem dX6_set_0 : decode cX6_set 0 = .ok (.iload_n 1, 1) := by decide +kernel
theorem dX6_set_1 : decode cX6_set 1 = .ok (.iconst 0, 1) := by decide +kernel
theorem dX6_set_2 : decode cX6_set 2 = .ok (.iconst 1, 1) := by decide +kernel
theorem dX6_set_3 : decode cX6_set 3 = .ok (.invokestatic 71, 3) := by decide +kernel
theorem dX6_set_6 : decode cX6_set 6 = .ok (.ifCond .ne 6, 3) := by decide +kernel
theorem dX6_set_9 : decode cX6_set 9 = .ok (.bipush (-2), 2) := by decide +kernel
theorem dX6_set_11 : decode cX6_set 11 = .ok (.ireturn, 1) := by decide +kernel
theorem dX6_set_12 : decode cX6_set 12 = .ok (.iload_n 1, 1) := by decide +kernel
theorem dX6_set_13 : decode cX6_set 13 = .ok (.ifCond .ne 13, 3) := by decide +kernel
theorem dX6_set_16 : decode cX6_set 16 = .ok (.aload_n 0, 1) := by decide +kernel
theorem dX6_set_17 : decode cX6_set 17 = .ok (.getfield 16, 3) := by decide +kernel
theorem dX6_set_20 : decode cX6_set 20 = .ok (.ifCond .eq 17, 3) := by decide +kernel
theorem dX6_set_23 : decode cX6_set 23 = .ok (.goto 10, 3) := by decide +kernel
theorem dX6_set_26 : decode cX6_set 26 = .ok (.aload_n 0, 1) := by decide +kernel
theorem dX6_set_27 : decode cX6_set 27 = .ok (.getfield 20, 3) := by decide +kernel
theorem dX6_set_30 : decode cX6_set 30 = .ok (.ifCond .eq 7, 3) := by decide +kernel
theorem dX6_set_33 : decode cX6_set 33 = .ok (.iconst 1, 1) := by decide +kernel
theorem dX6_set_34 : decode cX6_set 34 = .ok (.goto 4, 3) := by decide +kernel
theorem dX6_set_37 : decode cX6_set 37 = .ok (.iconst 0, 1) := by decide +kernel
theorem dX6_set_38 : decode cX6_set 38 = .ok (.istore_n 3, 1) := by decide +kernel
theorem dX6_set_39 : decode cX6_set 39 = .ok (.aload_n 0, 1) := by decide +kernel
theorem dX6_set_40 : decode cX6_set 40 = .ok (.iload_n 1, 1) := by decide +kernel
theorem dX6_set_41 : decode cX6_set 41 = .ok (.ifCond .ne 7, 3) := by decide +kernel
theorem dX6_set_44 : decode cX6_set 44 = .ok (.iload_n 2, 1) := by decide +kernel
theorem dX6_set_45 : decode cX6_set 45 = .ok (.goto 7, 3) := by decide +kernel
theorem dX6_set_48 : decode cX6_set 48 = .ok (.aload_n 0, 1) := by decide +kernel
theorem dX6_set_49 : decode cX6_set 49 = .ok (.getfield 16, 3) := by decide +kernel
theorem dX6_set_52 : decode cX6_set 52 = .ok (.putfield 16, 3) := by decide +kernel
theorem dX6_set_55 : decode cX6_set 55 = .ok (.aload_n 0, 1) := by decide +kernel
theorem dX6_set_56 : decode cX6_set 56 = .ok (.iload_n 1, 1) := by decide +kernel
theorem dX6_set_57 : decode cX6_set 57 = .ok (.iconst 1, 1) := by decide +kernel
theorem dX6_set_58 : decode cX6_set 58 = .ok (.if_icmp .ne 7, 3) := by decide +kernel
theorem dX6_set_61 : decode cX6_set 61 = .ok (.iload_n 2, 1) := by decide +kernel
theorem dX6_set_62 : decode cX6_set 62 = .ok (.goto 7, 3) := by decide +kernel
theorem dX6_set_65 : decode cX6_set 65 = .ok (.aload_n 0, 1) := by decide +kernel
theorem dX6_set_66 : decode cX6_set 66 = .ok (.getfield 20, 3) := by decide +kernel
theorem dX6_set_69 : decode cX6_set 69 = .ok (.putfield 20, 3) := by decide +kernel
theorem dX6_set_72 : decode cX6_set 72 = .ok (.iload_n 3, 1) := by decide +kernel
theorem dX6_set_73 : decode cX6_set 73 = .ok (.ireturn, 1) := by decide +kernel
set_option maxRecDepth 20000 in
theorem ggX6_put_X6_isJug : GoodIn wsX6_put wsX6_isJug := goodIn_r _ [7, 8, 9, 10, 6, 11, 12, 13, 14, 15, 16, 17, 18, 19, 20, 21, 22, 23, 24, 25, 26, 27, 28, 29, 30, 31, 32, 33, 34, 35, 36, 37, 38, 39] (by decide +kernel) (by decide +kernel)
set_option maxRecDepth 20000 in
theorem gX6_put_X6_isJug : GoodIn wsX6_put (wsV RX6 75 RX6 yX6_isJug wsX6_isJug) := goodIn_app (goodIn_of _ (by decide +kernel)) ggX6_put_X6_isJug
set_option maxRecDepth 20000 in
theorem ggX6_put_X6_in : GoodIn wsX6_put wsX6_in := goodIn_r _ [11] (by decide +kernel) (by decide +kernel)
set_option maxRecDepth 20000 in
theorem gX6_put_X6_in : GoodIn wsX6_put (va_wsS RX6 71 yX6_in wsX6_in) := goodIn_app (goodIn_of _ (by decide +kernel)) ggX6_put_X6_in
theorem dX6_put_0 : decode cX6_put 0 = .ok (.aload_n 0, 1) := by decide +kernel
theorem dX6_put_1 : decode cX6_put 1 = .ok (.iload_n 1, 1) := by decide +kernel
theorem dX6_put_2 : decode cX6_put 2 = .ok (.invokevirtual 75, 3) := by decide +kernel
theorem dX6_put_5 : decode cX6_put 5 = .ok (.ifCond .eq 17, 3) := by decide +kernel
theorem dX6_put_8 : decode cX6_put 8 = .ok (.iload_n 2, 1) := by decide +kernel
theorem dX6_put_9 : decode cX6_put 9 = .ok (.iconst 0, 1) := by decide +kernel
theorem dX6_put_10 : decode cX6_put 10 = .ok (.aload_n 0, 1) := by decide +kernel
theorem dX6_put_11 : decode cX6_put 11 = .ok (.getfield 7, 3) := by decide +kernel
theorem dX6_put_14 : decode cX6_put 14 = .ok (.iload_n 1, 1) := by decide +kernel
theorem dX6_put_15 : decode cX6_put 15 = .ok (.iaload, 1) := by decide +kernel
theorem dX6_put_16 : decode cX6_put 16 = .ok (.invokestatic 71, 3) := by decide +kernel
theorem dX6_put_19 : decode cX6_put 19 = .ok (.ifCond .ne 6, 3) := by decide +kernel
theorem dX6_put_22 : decode cX6_put 22 = .ok (.bipush (-2), 2) := by decide +kernel
theorem dX6_put_24 : decode cX6_put 24 = .ok (.ireturn, 1) := by decide +kernel
theorem dX6_put_25 : decode cX6_put 25 = .ok (.aload_n 0, 1) := by decide +kernel
theorem dX6_put_26 : decode cX6_put 26 = .ok (.getfield 13, 3) := by decide +kernel
theorem dX6_put_29 : decode cX6_put 29 = .ok (.iload_n 1, 1) := by decide +kernel
theorem dX6_put_30 : decode cX6_put 30 = .ok (.iaload, 1) := by decide +kernel
theorem dX6_put_31 : decode cX6_put 31 = .ok (.istore_n 3, 1) := by decide +kernel
theorem dX6_put_32 : decode cX6_put 32 = .ok (.aload_n 0, 1) := by decide +kernel
theorem dX6_put_33 : decode cX6_put 33 = .ok (.getfield 13, 3) := by decide +kernel
theorem dX6_put_36 : decode cX6_put 36 = .ok (.iload_n 1, 1) := by decide +kernel
theorem dX6_put_37 : decode cX6_put 37 = .ok (.iload_n 2, 1) := by decide +kernel
theorem dX6_put_38 : decode cX6_put 38 = .ok (.iastore, 1) := by decide +kernel
theorem dX6_put_39 : decode cX6_put 39 = .ok (.iload_n 3, 1) := by decide +kernel
theorem dX6_put_40 : decode cX6_put 40 = .ok (.ireturn, 1) := by decide +kernel
set_option maxRecDepth 20000 in
theorem ggX6_holds_X6_isJug : GoodIn wsX6_holds wsX6_isJug := goodIn_r _ [6, 7, 8, 9, 5, 10, 11, 12, 13, 14, 15, 16, 17, 18, 19, 20, 21, 22, 23, 24, 25, 26, 27, 28, 29, 30, 31, 32, 33, 34, 35, 36, 37, 38] (by decide +kernel) (by decide +kernel)
set_option maxRecDepth 20000 in
theorem gX6_holds_X6_isJug : GoodIn wsX6_holds (wsV RX6 75 RX6 yX6_isJug wsX6_isJug) := goodIn_app (goodIn_of _ (by decide +kernel)) ggX6_holds_X6_isJug
theorem dX6_holds_0 : decode cX6_holds 0 = .ok (.aload_n 0, 1) := by decide +kernel
theorem dX6_holds_1 : decode cX6_holds 1 = .ok (.iload_n 1, 1) := by decide +kernel
theorem dX6_holds_2 : decode cX6_holds 2 = .ok (.invokevirtual 75, 3) := by decide +kernel
theorem dX6_holds_5 : decode cX6_holds 5 = .ok (.ifCond .eq 12, 3) := by decide +kernel
theorem dX6_holds_8 : decode cX6_holds 8 = .ok (.aload_n 0, 1) := by decide +kernel
theorem dX6_holds_9 : decode cX6_holds 9 = .ok (.getfield 13, 3) := by decide +kernel
theorem dX6_holds_12 : decode cX6_holds 12 = .ok (.iload_n 1, 1) := by decide +kernel
theorem dX6_holds_13 : decode cX6_holds 13 = .ok (.iaload, 1) := by decide +kernel
theorem dX6_holds_14 : decode cX6_holds 14 = .ok (.goto 5, 3) := by decide +kernel
theorem dX6_holds_17 : decode cX6_holds 17 = .ok (.bipush (-2), 2) := by decide +kernel
theorem dX6_holds_19 : decode cX6_holds 19 = .ok (.ireturn, 1) := by decide +kernel
theorem dX6_clear_0 : decode cX6_clear 0 = .ok (.aload_n 0, 1) := by decide +kernel
theorem dX6_clear_1 : decode cX6_clear 1 = .ok (.getfield 67, 3) := by decide +kernel
theorem dX6_clear_4 : decode cX6_clear 4 = .ok (.istore_n 1, 1) := by decide +kernel
theorem dX6_clear_5 : decode cX6_clear 5 = .ok (.aload_n 0, 1) := by decide +kernel
theorem dX6_clear_6 : decode cX6_clear 6 = .ok (.iconst 0, 1) := by decide +kernel
theorem dX6_clear_7 : decode cX6_clear 7 = .ok (.putfield 67, 3) := by decide +kernel
theorem dX6_clear_10 : decode cX6_clear 10 = .ok (.iload_n 1, 1) := by decide +kernel
theorem dX6_clear_11 : decode cX6_clear 11 = .ok (.ireturn, 1) := by decide +kernel
theorem dX6_tryOwn_0 : decode cX6_tryOwn 0 = .ok (.aload_n 0, 1) := by decide +kernel
theorem dX6_tryOwn_1 : decode cX6_tryOwn 1 = .ok (.aload_n 0, 1) := by decide +kernel
theorem dX6_tryOwn_2 : decode cX6_tryOwn 2 = .ok (.getfield 67, 3) := by decide +kernel
theorem dX6_tryOwn_5 : decode cX6_tryOwn 5 = .ok (.putfield 79, 3) := by decide +kernel
theorem dX6_tryOwn_8 : decode cX6_tryOwn 8 = .ok (.aload_n 0, 1) := by decide +kernel
theorem dX6_tryOwn_9 : decode cX6_tryOwn 9 = .ok (.aload_n 0, 1) := by decide +kernel
theorem dX6_tryOwn_10 : decode cX6_tryOwn 10 = .ok (.getfield 16, 3) := by decide +kernel
theorem dX6_tryOwn_13 : decode cX6_tryOwn 13 = .ok (.putfield 82, 3) := by decide +kernel
theorem dX6_tryOwn_16 : decode cX6_tryOwn 16 = .ok (.aload_n 0, 1) := by decide +kernel
theorem dX6_tryOwn_17 : decode cX6_tryOwn 17 = .ok (.aload_n 0, 1) := by decide +kernel
theorem dX6_tryOwn_18 : decode cX6_tryOwn 18 = .ok (.getfield 20, 3) := by decide +kernel
theorem dX6_tryOwn_21 : decode cX6_tryOwn 21 = .ok (.putfield 85, 3) := by decide +kernel
theorem dX6_tryOwn_24 : decode cX6_tryOwn 24 = .ok (.iconst 0, 1) := by decide +kernel
theorem dX6_tryOwn_25 : decode cX6_tryOwn 25 = .ok (.istore_n 1, 1) := by decide +kernel
theorem dX6_tryOwn_26 : decode cX6_tryOwn 26 = .ok (.iload_n 1, 1) := by decide +kernel
theorem dX6_tryOwn_27 : decode cX6_tryOwn 27 = .ok (.aload_n 0, 1) := by decide +kernel
theorem dX6_tryOwn_28 : decode cX6_tryOwn 28 = .ok (.getfield 67, 3) := by decide +kernel
theorem dX6_tryOwn_31 : decode cX6_tryOwn 31 = .ok (.if_icmp .ge 33, 3) := by decide +kernel
theorem dX6_tryOwn_34 : decode cX6_tryOwn 34 = .ok (.aload_n 0, 1) := by decide +kernel
theorem dX6_tryOwn_35 : decode cX6_tryOwn 35 = .ok (.getfield 26, 3) := by decide +kernel
theorem dX6_tryOwn_38 : decode cX6_tryOwn 38 = .ok (.iload_n 1, 1) := by decide +kernel
theorem dX6_tryOwn_39 : decode cX6_tryOwn 39 = .ok (.aload_n 0, 1) := by decide +kernel
theorem dX6_tryOwn_40 : decode cX6_tryOwn 40 = .ok (.getfield 7, 3) := by decide +kernel
theorem dX6_tryOwn_43 : decode cX6_tryOwn 43 = .ok (.iload_n 1, 1) := by decide +kernel
theorem dX6_tryOwn_44 : decode cX6_tryOwn 44 = .ok (.iaload, 1) := by decide +kernel
theorem dX6_tryOwn_45 : decode cX6_tryOwn 45 = .ok (.iastore, 1) := by decide +kernel
theorem dX6_tryOwn_46 : decode cX6_tryOwn 46 = .ok (.aload_n 0, 1) := by decide +kernel
theorem dX6_tryOwn_47 : decode cX6_tryOwn 47 = .ok (.getfield 29, 3) := by decide +kernel
theorem dX6_tryOwn_50 : decode cX6_tryOwn 50 = .ok (.iload_n 1, 1) := by decide +kernel
theorem dX6_tryOwn_51 : decode cX6_tryOwn 51 = .ok (.aload_n 0, 1) := by decide +kernel
theorem dX6_tryOwn_52 : decode cX6_tryOwn 52 = .ok (.getfield 13, 3) := by decide +kernel
theorem dX6_tryOwn_55 : decode cX6_tryOwn 55 = .ok (.iload_n 1, 1) := by decide +kernel
theorem dX6_tryOwn_56 : decode cX6_tryOwn 56 = .ok (.iaload, 1) := by decide +kernel
theorem dX6_tryOwn_57 : decode cX6_tryOwn 57 = .ok (.iastore, 1) := by decide +kernel
theorem dX6_tryOwn_58 : decode cX6_tryOwn 58 = .ok (.iinc 1 1, 3) := by decide +kernel
theorem dX6_tryOwn_61 : decode cX6_tryOwn 61 = .ok (.goto (-35), 3) := by decide +kernel
theorem dX6_tryOwn_64 : decode cX6_tryOwn 64 = .ok (.return_, 1) := by decide +kernel
theorem dX6_numberOf_0 : decode cX6_numberOf 0 = .ok (.iconst 0, 1) := by decide +kernel
theorem dX6_numberOf_1 : decode cX6_numberOf 1 = .ok (.istore_n 1, 1) := by decide +kernel
theorem dX6_numberOf_2 : decode cX6_numberOf 2 = .ok (.iconst 0, 1) := by decide +kernel
theorem dX6_numberOf_3 : decode cX6_numberOf 3 = .ok (.istore_n 2, 1) := by decide +kernel
theorem dX6_numberOf_4 : decode cX6_numberOf 4 = .ok (.iload_n 2, 1) := by decide +kernel
theorem dX6_numberOf_5 : decode cX6_numberOf 5 = .ok (.aload_n 0, 1) := by decide +kernel
theorem dX6_numberOf_6 : decode cX6_numberOf 6 = .ok (.getfield 79, 3) := by decide +kernel
theorem dX6_numberOf_9 : decode cX6_numberOf 9 = .ok (.if_icmp .ge 27, 3) := by decide +kernel
theorem dX6_numberOf_12 : decode cX6_numberOf 12 = .ok (.iload_n 1, 1) := by decide +kernel
theorem dX6_numberOf_13 : decode cX6_numberOf 13 = .ok (.aload_n 0, 1) := by decide +kernel
theorem dX6_numberOf_14 : decode cX6_numberOf 14 = .ok (.getfield 26, 3) := by decide +kernel
theorem dX6_numberOf_17 : decode cX6_numberOf 17 = .ok (.iload_n 2, 1) := by decide +kernel
theorem dX6_numberOf_18 : decode cX6_numberOf 18 = .ok (.iaload, 1) := by decide +kernel
theorem dX6_numberOf_19 : decode cX6_numberOf 19 = .ok (.iconst 1, 1) := by decide +kernel
theorem dX6_numberOf_20 : decode cX6_numberOf 20 = .ok (.iadd, 1) := by decide +kernel
theorem dX6_numberOf_21 : decode cX6_numberOf 21 = .ok (.imul, 1) := by decide +kernel
theorem dX6_numberOf_22 : decode cX6_numberOf 22 = .ok (.aload_n 0, 1) := by decide +kernel
theorem dX6_numberOf_23 : decode cX6_numberOf 23 = .ok (.getfield 29, 3) := by decide +kernel
theorem dX6_numberOf_26 : decode cX6_numberOf 26 = .ok (.iload_n 2, 1) := by decide +kernel
theorem dX6_numberOf_27 : decode cX6_numberOf 27 = .ok (.iaload, 1) := by decide +kernel
theorem dX6_numberOf_28 : decode cX6_numberOf 28 = .ok (.iadd, 1) := by decide +kernel
theorem dX6_numberOf_29 : decode cX6_numberOf 29 = .ok (.istore_n 1, 1) := by decide +kernel
theorem dX6_numberOf_30 : decode cX6_numberOf 30 = .ok (.iinc 2 1, 3) := by decide +kernel
theorem dX6_numberOf_33 : decode cX6_numberOf 33 = .ok (.goto (-29), 3) := by decide +kernel
theorem dX6_numberOf_36 : decode cX6_numberOf 36 = .ok (.iload_n 1, 1) := by decide +kernel
theorem dX6_numberOf_37 : decode cX6_numberOf 37 = .ok (.ireturn, 1) := by decide +kernel
theorem dX6_stateMany_0 : decode cX6_stateMany 0 = .ok (.iconst 1, 1) := by decide +kernel
theorem dX6_stateMany_1 : decode cX6_stateMany 1 = .ok (.istore_n 1, 1) := by decide +kernel
theorem dX6_stateMany_2 : decode cX6_stateMany 2 = .ok (.iconst 0, 1) := by decide +kernel
theorem dX6_stateMany_3 : decode cX6_stateMany 3 = .ok (.istore_n 2, 1) := by decide +kernel
theorem dX6_stateMany_4 : decode cX6_stateMany 4 = .ok (.iload_n 2, 1) := by decide +kernel
theorem dX6_stateMany_5 : decode cX6_stateMany 5 = .ok (.aload_n 0, 1) := by decide +kernel
theorem dX6_stateMany_6 : decode cX6_stateMany 6 = .ok (.getfield 79, 3) := by decide +kernel
theorem dX6_stateMany_9 : decode cX6_stateMany 9 = .ok (.if_icmp .ge 20, 3) := by decide +kernel
theorem dX6_stateMany_12 : decode cX6_stateMany 12 = .ok (.iload_n 1, 1) := by decide +kernel
theorem dX6_stateMany_13 : decode cX6_stateMany 13 = .ok (.aload_n 0, 1) := by decide +kernel
theorem dX6_stateMany_14 : decode cX6_stateMany 14 = .ok (.getfield 26, 3) := by decide +kernel
theorem dX6_stateMany_17 : decode cX6_stateMany 17 = .ok (.iload_n 2, 1) := by decide +kernel
theorem dX6_stateMany_18 : decode cX6_stateMany 18 = .ok (.iaload, 1) := by decide +kernel
theorem dX6_stateMany_19 : decode cX6_stateMany 19 = .ok (.iconst 1, 1) := by decide +kernel
theorem dX6_stateMany_20 : decode cX6_stateMany 20 = .ok (.iadd, 1) := by decide +kernel
theorem dX6_stateMany_21 : decode cX6_stateMany 21 = .ok (.imul, 1) := by decide +kernel
theorem dX6_stateMany_22 : decode cX6_stateMany 22 = .ok (.istore_n 1, 1) := by decide +kernel
theorem dX6_stateMany_23 : decode cX6_stateMany 23 = .ok (.iinc 2 1, 3) := by decide +kernel
theorem dX6_stateMany_26 : decode cX6_stateMany 26 = .ok (.goto (-22), 3) := by decide +kernel
theorem dX6_stateMany_29 : decode cX6_stateMany 29 = .ok (.iload_n 1, 1) := by decide +kernel
theorem dX6_stateMany_30 : decode cX6_stateMany 30 = .ok (.ireturn, 1) := by decide +kernel
theorem dX6_layState_0 : decode cX6_layState 0 = .ok (.iload_n 1, 1) := by decide +kernel
theorem dX6_layState_1 : decode cX6_layState 1 = .ok (.istore_n 2, 1) := by decide +kernel
theorem dX6_layState_2 : decode cX6_layState 2 = .ok (.aload_n 0, 1) := by decide +kernel
theorem dX6_layState_3 : decode cX6_layState 3 = .ok (.getfield 79, 3) := by decide +kernel
theorem dX6_layState_6 : decode cX6_layState 6 = .ok (.iconst 1, 1) := by decide +kernel
theorem dX6_layState_7 : decode cX6_layState 7 = .ok (.isub, 1) := by decide +kernel
theorem dX6_layState_8 : decode cX6_layState 8 = .ok (.istore_n 3, 1) := by decide +kernel
theorem dX6_layState_9 : decode cX6_layState 9 = .ok (.iload_n 3, 1) := by decide +kernel
theorem dX6_layState_10 : decode cX6_layState 10 = .ok (.ifCond .lt 36, 3) := by decide +kernel
theorem dX6_layState_13 : decode cX6_layState 13 = .ok (.aload_n 0, 1) := by decide +kernel
theorem dX6_layState_14 : decode cX6_layState 14 = .ok (.getfield 29, 3) := by decide +kernel
theorem dX6_layState_17 : decode cX6_layState 17 = .ok (.iload_n 3, 1) := by decide +kernel
theorem dX6_layState_18 : decode cX6_layState 18 = .ok (.iload_n 2, 1) := by decide +kernel
theorem dX6_layState_19 : decode cX6_layState 19 = .ok (.aload_n 0, 1) := by decide +kernel
theorem dX6_layState_20 : decode cX6_layState 20 = .ok (.getfield 26, 3) := by decide +kernel
theorem dX6_layState_23 : decode cX6_layState 23 = .ok (.iload_n 3, 1) := by decide +kernel
theorem dX6_layState_24 : decode cX6_layState 24 = .ok (.iaload, 1) := by decide +kernel
theorem dX6_layState_25 : decode cX6_layState 25 = .ok (.iconst 1, 1) := by decide +kernel
theorem dX6_layState_26 : decode cX6_layState 26 = .ok (.iadd, 1) := by decide +kernel
theorem dX6_layState_27 : decode cX6_layState 27 = .ok (.irem, 1) := by decide +kernel
theorem dX6_layState_28 : decode cX6_layState 28 = .ok (.iastore, 1) := by decide +kernel
theorem dX6_layState_29 : decode cX6_layState 29 = .ok (.iload_n 2, 1) := by decide +kernel
theorem dX6_layState_30 : decode cX6_layState 30 = .ok (.aload_n 0, 1) := by decide +kernel
theorem dX6_layState_31 : decode cX6_layState 31 = .ok (.getfield 26, 3) := by decide +kernel
theorem dX6_layState_34 : decode cX6_layState 34 = .ok (.iload_n 3, 1) := by decide +kernel
theorem dX6_layState_35 : decode cX6_layState 35 = .ok (.iaload, 1) := by decide +kernel
theorem dX6_layState_36 : decode cX6_layState 36 = .ok (.iconst 1, 1) := by decide +kernel
theorem dX6_layState_37 : decode cX6_layState 37 = .ok (.iadd, 1) := by decide +kernel
theorem dX6_layState_38 : decode cX6_layState 38 = .ok (.idiv, 1) := by decide +kernel
theorem dX6_layState_39 : decode cX6_layState 39 = .ok (.istore_n 2, 1) := by decide +kernel
theorem dX6_layState_40 : decode cX6_layState 40 = .ok (.iinc 3 (-1), 3) := by decide +kernel
theorem dX6_layState_43 : decode cX6_layState 43 = .ok (.goto (-34), 3) := by decide +kernel
theorem dX6_layState_46 : decode cX6_layState 46 = .ok (.return_, 1) := by decide +kernel
theorem dX6_does_0 : decode cX6_does 0 = .ok (.iload_n 1, 1) := by decide +kernel
theorem dX6_does_1 : decode cX6_does 1 = .ok (.bipush 8, 2) := by decide +kernel
theorem dX6_does_3 : decode cX6_does 3 = .ok (.if_icmp .ge 9, 3) := by decide +kernel
theorem dX6_does_6 : decode cX6_does 6 = .ok (.iload_n 1, 1) := by decide +kernel
theorem dX6_does_7 : decode cX6_does 7 = .ok (.iconst 4, 1) := by decide +kernel
theorem dX6_does_8 : decode cX6_does 8 = .ok (.irem, 1) := by decide +kernel
theorem dX6_does_9 : decode cX6_does 9 = .ok (.goto 9, 3) := by decide +kernel
theorem dX6_does_12 : decode cX6_does 12 = .ok (.iload_n 1, 1) := by decide +kernel
theorem dX6_does_13 : decode cX6_does 13 = .ok (.bipush 8, 2) := by decide +kernel
theorem dX6_does_15 : decode cX6_does 15 = .ok (.isub, 1) := by decide +kernel
theorem dX6_does_16 : decode cX6_does 16 = .ok (.iconst 4, 1) := by decide +kernel
theorem dX6_does_17 : decode cX6_does 17 = .ok (.idiv, 1) := by decide +kernel
theorem dX6_does_18 : decode cX6_does 18 = .ok (.istore_n 2, 1) := by decide +kernel
theorem dX6_does_19 : decode cX6_does 19 = .ok (.iload_n 1, 1) := by decide +kernel
theorem dX6_does_20 : decode cX6_does 20 = .ok (.bipush 8, 2) := by decide +kernel
theorem dX6_does_22 : decode cX6_does 22 = .ok (.if_icmp .ge 7, 3) := by decide +kernel
theorem dX6_does_25 : decode cX6_does 25 = .ok (.iload_n 2, 1) := by decide +kernel
theorem dX6_does_26 : decode cX6_does 26 = .ok (.goto 6, 3) := by decide +kernel
theorem dX6_does_29 : decode cX6_does 29 = .ok (.iload_n 1, 1) := by decide +kernel
theorem dX6_does_30 : decode cX6_does 30 = .ok (.iconst 4, 1) := by decide +kernel
theorem dX6_does_31 : decode cX6_does 31 = .ok (.irem, 1) := by decide +kernel
theorem dX6_does_32 : decode cX6_does 32 = .ok (.istore_n 3, 1) := by decide +kernel
theorem dX6_does_33 : decode cX6_does 33 = .ok (.iload_n 2, 1) := by decide +kernel
theorem dX6_does_34 : decode cX6_does 34 = .ok (.aload_n 0, 1) := by decide +kernel
theorem dX6_does_35 : decode cX6_does 35 = .ok (.getfield 79, 3) := by decide +kernel
theorem dX6_does_38 : decode cX6_does 38 = .ok (.if_icmp .ge 22, 3) := by decide +kernel
theorem dX6_does_41 : decode cX6_does 41 = .ok (.iload_n 3, 1) := by decide +kernel
theorem dX6_does_42 : decode cX6_does 42 = .ok (.aload_n 0, 1) := by decide +kernel
theorem dX6_does_43 : decode cX6_does 43 = .ok (.getfield 79, 3) := by decide +kernel
theorem dX6_does_46 : decode cX6_does 46 = .ok (.if_icmp .ge 14, 3) := by decide +kernel
theorem dX6_does_49 : decode cX6_does 49 = .ok (.iload_n 1, 1) := by decide +kernel
theorem dX6_does_50 : decode cX6_does 50 = .ok (.bipush 8, 2) := by decide +kernel
theorem dX6_does_52 : decode cX6_does 52 = .ok (.if_icmp .lt 10, 3) := by decide +kernel
theorem dX6_does_55 : decode cX6_does 55 = .ok (.iload_n 2, 1) := by decide +kernel
theorem dX6_does_56 : decode cX6_does 56 = .ok (.iload_n 3, 1) := by decide +kernel
theorem dX6_does_57 : decode cX6_does 57 = .ok (.if_icmp .ne 5, 3) := by decide +kernel
theorem dX6_does_60 : decode cX6_does 60 = .ok (.iconst 0, 1) := by decide +kernel
theorem dX6_does_61 : decode cX6_does 61 = .ok (.ireturn, 1) := by decide +kernel
theorem dX6_does_62 : decode cX6_does 62 = .ok (.aload_n 0, 1) := by decide +kernel
theorem dX6_does_63 : decode cX6_does 63 = .ok (.iconst 0, 1) := by decide +kernel
theorem dX6_does_64 : decode cX6_does 64 = .ok (.putfield 88, 3) := by decide +kernel
theorem dX6_does_67 : decode cX6_does 67 = .ok (.iload_n 1, 1) := by decide +kernel
theorem dX6_does_68 : decode cX6_does 68 = .ok (.iconst 4, 1) := by decide +kernel
theorem dX6_does_69 : decode cX6_does 69 = .ok (.if_icmp .ge 47, 3) := by decide +kernel
theorem dX6_does_72 : decode cX6_does 72 = .ok (.aload_n 0, 1) := by decide +kernel
theorem dX6_does_73 : decode cX6_does 73 = .ok (.aload_n 0, 1) := by decide +kernel
theorem dX6_does_74 : decode cX6_does 74 = .ok (.getfield 82, 3) := by decide +kernel
theorem dX6_does_77 : decode cX6_does 77 = .ok (.ifCond .eq 19, 3) := by decide +kernel
theorem dX6_does_80 : decode cX6_does 80 = .ok (.aload_n 0, 1) := by decide +kernel
theorem dX6_does_81 : decode cX6_does 81 = .ok (.getfield 26, 3) := by decide +kernel
theorem dX6_does_84 : decode cX6_does 84 = .ok (.iload_n 2, 1) := by decide +kernel
theorem dX6_does_85 : decode cX6_does 85 = .ok (.iaload, 1) := by decide +kernel
theorem dX6_does_86 : decode cX6_does 86 = .ok (.aload_n 0, 1) := by decide +kernel
theorem dX6_does_87 : decode cX6_does 87 = .ok (.getfield 29, 3) := by decide +kernel
theorem dX6_does_90 : decode cX6_does 90 = .ok (.iload_n 2, 1) := by decide +kernel
theorem dX6_does_91 : decode cX6_does 91 = .ok (.iaload, 1) := by decide +kernel
theorem dX6_does_92 : decode cX6_does 92 = .ok (.isub, 1) := by decide +kernel
theorem dX6_does_93 : decode cX6_does 93 = .ok (.goto 4, 3) := by decide +kernel
theorem dX6_does_96 : decode cX6_does 96 = .ok (.iconst 0, 1) := by decide +kernel
theorem dX6_does_97 : decode cX6_does 97 = .ok (.putfield 91, 3) := by decide +kernel
theorem dX6_does_100 : decode cX6_does 100 = .ok (.aload_n 0, 1) := by decide +kernel
theorem dX6_does_101 : decode cX6_does 101 = .ok (.getfield 29, 3) := by decide +kernel
theorem dX6_does_104 : decode cX6_does 104 = .ok (.iload_n 2, 1) := by decide +kernel
theorem dX6_does_105 : decode cX6_does 105 = .ok (.dup2, 1) := by decide +kernel
theorem dX6_does_106 : decode cX6_does 106 = .ok (.iaload, 1) := by decide +kernel
theorem dX6_does_107 : decode cX6_does 107 = .ok (.aload_n 0, 1) := by decide +kernel
theorem dX6_does_108 : decode cX6_does 108 = .ok (.getfield 91, 3) := by decide +kernel
theorem dX6_does_111 : decode cX6_does 111 = .ok (.iadd, 1) := by decide +kernel
theorem dX6_does_112 : decode cX6_does 112 = .ok (.iastore, 1) := by decide +kernel
theorem dX6_does_113 : decode cX6_does 113 = .ok (.goto 128, 3) := by decide +kernel
theorem dX6_does_116 : decode cX6_does 116 = .ok (.iload_n 1, 1) := by decide +kernel
theorem dX6_does_117 : decode cX6_does 117 = .ok (.bipush 8, 2) := by decide +kernel
theorem dX6_does_119 : decode cX6_does 119 = .ok (.if_icmp .ge 48, 3) := by decide +kernel
theorem dX6_does_122 : decode cX6_does 122 = .ok (.aload_n 0, 1) := by decide +kernel
theorem dX6_does_123 : decode cX6_does 123 = .ok (.aload_n 0, 1) := by decide +kernel
theorem dX6_does_124 : decode cX6_does 124 = .ok (.getfield 85, 3) := by decide +kernel
theorem dX6_does_127 : decode cX6_does 127 = .ok (.ifCond .eq 12, 3) := by decide +kernel
theorem dX6_does_130 : decode cX6_does 130 = .ok (.aload_n 0, 1) := by decide +kernel
theorem dX6_does_131 : decode cX6_does 131 = .ok (.getfield 29, 3) := by decide +kernel
theorem dX6_does_134 : decode cX6_does 134 = .ok (.iload_n 2, 1) := by decide +kernel
theorem dX6_does_135 : decode cX6_does 135 = .ok (.iaload, 1) := by decide +kernel
theorem dX6_does_136 : decode cX6_does 136 = .ok (.goto 4, 3) := by decide +kernel
theorem dX6_does_139 : decode cX6_does 139 = .ok (.iconst 0, 1) := by decide +kernel
theorem dX6_does_140 : decode cX6_does 140 = .ok (.putfield 91, 3) := by decide +kernel
theorem dX6_does_143 : decode cX6_does 143 = .ok (.aload_n 0, 1) := by decide +kernel
theorem dX6_does_144 : decode cX6_does 144 = .ok (.aload_n 0, 1) := by decide +kernel
theorem dX6_does_145 : decode cX6_does 145 = .ok (.getfield 91, 3) := by decide +kernel
theorem dX6_does_148 : decode cX6_does 148 = .ok (.putfield 88, 3) := by decide +kernel
theorem dX6_does_151 : decode cX6_does 151 = .ok (.aload_n 0, 1) := by decide +kernel
theorem dX6_does_152 : decode cX6_does 152 = .ok (.getfield 29, 3) := by decide +kernel
theorem dX6_does_155 : decode cX6_does 155 = .ok (.iload_n 2, 1) := by decide +kernel
theorem dX6_does_156 : decode cX6_does 156 = .ok (.dup2, 1) := by decide +kernel
theorem dX6_does_157 : decode cX6_does 157 = .ok (.iaload, 1) := by decide +kernel
theorem dX6_does_158 : decode cX6_does 158 = .ok (.aload_n 0, 1) := by decide +kernel
theorem dX6_does_159 : decode cX6_does 159 = .ok (.getfield 91, 3) := by decide +kernel
theorem dX6_does_162 : decode cX6_does 162 = .ok (.isub, 1) := by decide +kernel
theorem dX6_does_163 : decode cX6_does 163 = .ok (.iastore, 1) := by decide +kernel
theorem dX6_does_164 : decode cX6_does 164 = .ok (.goto 77, 3) := by decide +kernel
theorem dX6_does_167 : decode cX6_does 167 = .ok (.aload_n 0, 1) := by decide +kernel
theorem dX6_does_168 : decode cX6_does 168 = .ok (.aload_n 0, 1) := by decide +kernel
theorem dX6_does_169 : decode cX6_does 169 = .ok (.getfield 29, 3) := by decide +kernel
theorem dX6_does_172 : decode cX6_does 172 = .ok (.iload_n 2, 1) := by decide +kernel
theorem dX6_does_173 : decode cX6_does 173 = .ok (.iaload, 1) := by decide +kernel
theorem dX6_does_174 : decode cX6_does 174 = .ok (.aload_n 0, 1) := by decide +kernel
theorem dX6_does_175 : decode cX6_does 175 = .ok (.getfield 26, 3) := by decide +kernel
theorem dX6_does_178 : decode cX6_does 178 = .ok (.iload_n 3, 1) := by decide +kernel
theorem dX6_does_179 : decode cX6_does 179 = .ok (.iaload, 1) := by decide +kernel
theorem dX6_does_180 : decode cX6_does 180 = .ok (.aload_n 0, 1) := by decide +kernel
theorem dX6_does_181 : decode cX6_does 181 = .ok (.getfield 29, 3) := by decide +kernel
theorem dX6_does_184 : decode cX6_does 184 = .ok (.iload_n 3, 1) := by decide +kernel
theorem dX6_does_185 : decode cX6_does 185 = .ok (.iaload, 1) := by decide +kernel
theorem dX6_does_186 : decode cX6_does 186 = .ok (.isub, 1) := by decide +kernel
theorem dX6_does_187 : decode cX6_does 187 = .ok (.if_icmp .ge 12, 3) := by decide +kernel
theorem dX6_does_190 : decode cX6_does 190 = .ok (.aload_n 0, 1) := by decide +kernel
theorem dX6_does_191 : decode cX6_does 191 = .ok (.getfield 29, 3) := by decide +kernel
theorem dX6_does_194 : decode cX6_does 194 = .ok (.iload_n 2, 1) := by decide +kernel
theorem dX6_does_195 : decode cX6_does 195 = .ok (.iaload, 1) := by decide +kernel
theorem dX6_does_196 : decode cX6_does 196 = .ok (.goto 16, 3) := by decide +kernel
theorem dX6_does_199 : decode cX6_does 199 = .ok (.aload_n 0, 1) := by decide +kernel
theorem dX6_does_200 : decode cX6_does 200 = .ok (.getfield 26, 3) := by decide +kernel
theorem dX6_does_203 : decode cX6_does 203 = .ok (.iload_n 3, 1) := by decide +kernel
theorem dX6_does_204 : decode cX6_does 204 = .ok (.iaload, 1) := by decide +kernel
theorem dX6_does_205 : decode cX6_does 205 = .ok (.aload_n 0, 1) := by decide +kernel
theorem dX6_does_206 : decode cX6_does 206 = .ok (.getfield 29, 3) := by decide +kernel
theorem dX6_does_209 : decode cX6_does 209 = .ok (.iload_n 3, 1) := by decide +kernel
theorem dX6_does_210 : decode cX6_does 210 = .ok (.iaload, 1) := by decide +kernel
theorem dX6_does_211 : decode cX6_does 211 = .ok (.isub, 1) := by decide +kernel
theorem dX6_does_212 : decode cX6_does 212 = .ok (.putfield 91, 3) := by decide +kernel
theorem dX6_does_215 : decode cX6_does 215 = .ok (.aload_n 0, 1) := by decide +kernel
theorem dX6_does_216 : decode cX6_does 216 = .ok (.getfield 29, 3) := by decide +kernel
theorem dX6_does_219 : decode cX6_does 219 = .ok (.iload_n 2, 1) := by decide +kernel
theorem dX6_does_220 : decode cX6_does 220 = .ok (.dup2, 1) := by decide +kernel
theorem dX6_does_221 : decode cX6_does 221 = .ok (.iaload, 1) := by decide +kernel
theorem dX6_does_222 : decode cX6_does 222 = .ok (.aload_n 0, 1) := by decide +kernel
theorem dX6_does_223 : decode cX6_does 223 = .ok (.getfield 91, 3) := by decide +kernel
theorem dX6_does_226 : decode cX6_does 226 = .ok (.isub, 1) := by decide +kernel
theorem dX6_does_227 : decode cX6_does 227 = .ok (.iastore, 1) := by decide +kernel
theorem dX6_does_228 : decode cX6_does 228 = .ok (.aload_n 0, 1) := by decide +kernel
theorem dX6_does_229 : decode cX6_does 229 = .ok (.getfield 29, 3) := by decide +kernel
theorem dX6_does_232 : decode cX6_does 232 = .ok (.iload_n 3, 1) := by decide +kernel
theorem dX6_does_233 : decode cX6_does 233 = .ok (.dup2, 1) := by decide +kernel
theorem dX6_does_234 : decode cX6_does 234 = .ok (.iaload, 1) := by decide +kernel
theorem dX6_does_235 : decode cX6_does 235 = .ok (.aload_n 0, 1) := by decide +kernel
theorem dX6_does_236 : decode cX6_does 236 = .ok (.getfield 91, 3) := by decide +kernel
theorem dX6_does_239 : decode cX6_does 239 = .ok (.iadd, 1) := by decide +kernel
theorem dX6_does_240 : decode cX6_does 240 = .ok (.iastore, 1) := by decide +kernel
theorem dX6_does_241 : decode cX6_does 241 = .ok (.aload_n 0, 1) := by decide +kernel
theorem dX6_does_242 : decode cX6_does 242 = .ok (.getfield 91, 3) := by decide +kernel
theorem dX6_does_245 : decode cX6_does 245 = .ok (.ifCond .le 7, 3) := by decide +kernel
theorem dX6_does_248 : decode cX6_does 248 = .ok (.iconst 1, 1) := by decide +kernel
theorem dX6_does_249 : decode cX6_does 249 = .ok (.goto 4, 3) := by decide +kernel
theorem dX6_does_252 : decode cX6_does 252 = .ok (.iconst 0, 1) := by decide +kernel
theorem dX6_does_253 : decode cX6_does 253 = .ok (.ireturn, 1) := by decide +kernel
set_option maxRecDepth 20000 in
theorem ggX6_act_X6_in : GoodIn wsX6_act wsX6_in := goodIn_r _ [8] (by decide +kernel) (by decide +kernel)
set_option maxRecDepth 20000 in
theorem gX6_act_X6_in : GoodIn wsX6_act (va_wsS RX6 71 yX6_in wsX6_in) := goodIn_app (goodIn_of _ (by decide +kernel)) ggX6_act_X6_in
set_option maxRecDepth 20000 in
theorem ggX6_act_X6_isJug : GoodIn wsX6_act wsX6_isJug := goodIn_r _ [12, 1, 5, 6, 7, 8, 29, 30, 31, 32, 33, 34, 35, 36, 37, 38, 39, 40, 41, 42, 43, 44, 45, 46, 47, 48, 49, 50, 51, 52, 53, 54, 55, 56] (by decide +kernel) (by decide +kernel)
set_option maxRecDepth 20000 in
theorem gX6_act_X6_isJug : GoodIn wsX6_act (wsV RX6 75 RX6 yX6_isJug wsX6_isJug) := goodIn_app (goodIn_of _ (by decide +kernel)) ggX6_act_X6_isJug
set_option maxRecDepth 20000 in
theorem ggX6_act_X6_tryOwn : GoodIn wsX6_act wsX6_tryOwn := goodIn_r _ [16, 1, 17, 18, 19, 20, 21, 22, 23, 3, 2, 29, 30, 31, 32, 33, 34, 35, 36, 37, 38, 39, 40, 41, 42, 43, 44, 45, 46, 47, 48, 49, 50, 51, 52, 53, 54, 55, 56] (by decide +kernel) (by decide +kernel)
set_option maxRecDepth 20000 in
theorem gX6_act_X6_tryOwn : GoodIn wsX6_act (wsV RX6 94 RX6 yX6_tryOwn wsX6_tryOwn) := goodIn_app (goodIn_of _ (by decide +kernel)) ggX6_act_X6_tryOwn
set_option maxRecDepth 20000 in
theorem ggX6_act_X6_does : GoodIn wsX6_act wsX6_does := goodIn_r _ [27, 17, 28, 19, 22, 3, 4, 21, 29, 30, 31, 32, 33, 34, 35, 36, 37, 38, 39, 40, 41, 42, 43, 44, 45, 46, 47, 48, 49, 50, 51, 52, 53, 54, 55, 56] (by decide +kernel) (by decide +kernel)
set_option maxRecDepth 20000 in
theorem gX6_act_X6_does : GoodIn wsX6_act (wsV RX6 97 RX6 yX6_does wsX6_does) := goodIn_app (goodIn_of _ (by decide +kernel)) ggX6_act_X6_does
theorem dX6_act_0 : decode cX6_act 0 = .ok (.iload_n 1, 1) := by decide +kernel
theorem dX6_act_1 : decode cX6_act 1 = .ok (.bipush 8, 2) := by decide +kernel
theorem dX6_act_3 : decode cX6_act 3 = .ok (.if_icmp .ge 9, 3) := by decide +kernel
theorem dX6_act_6 : decode cX6_act 6 = .ok (.iload_n 1, 1) := by decide +kernel
theorem dX6_act_7 : decode cX6_act 7 = .ok (.iconst 4, 1) := by decide +kernel
theorem dX6_act_8 : decode cX6_act 8 = .ok (.irem, 1) := by decide +kernel
theorem dX6_act_9 : decode cX6_act 9 = .ok (.goto 9, 3) := by decide +kernel
theorem dX6_act_12 : decode cX6_act 12 = .ok (.iload_n 1, 1) := by decide +kernel
theorem dX6_act_13 : decode cX6_act 13 = .ok (.bipush 8, 2) := by decide +kernel
theorem dX6_act_15 : decode cX6_act 15 = .ok (.isub, 1) := by decide +kernel
theorem dX6_act_16 : decode cX6_act 16 = .ok (.iconst 4, 1) := by decide +kernel
theorem dX6_act_17 : decode cX6_act 17 = .ok (.idiv, 1) := by decide +kernel
theorem dX6_act_18 : decode cX6_act 18 = .ok (.istore_n 2, 1) := by decide +kernel
theorem dX6_act_19 : decode cX6_act 19 = .ok (.iload_n 1, 1) := by decide +kernel
theorem dX6_act_20 : decode cX6_act 20 = .ok (.bipush 8, 2) := by decide +kernel
theorem dX6_act_22 : decode cX6_act 22 = .ok (.if_icmp .ge 7, 3) := by decide +kernel
theorem dX6_act_25 : decode cX6_act 25 = .ok (.iload_n 2, 1) := by decide +kernel
theorem dX6_act_26 : decode cX6_act 26 = .ok (.goto 6, 3) := by decide +kernel
theorem dX6_act_29 : decode cX6_act 29 = .ok (.iload_n 1, 1) := by decide +kernel
theorem dX6_act_30 : decode cX6_act 30 = .ok (.iconst 4, 1) := by decide +kernel
theorem dX6_act_31 : decode cX6_act 31 = .ok (.irem, 1) := by decide +kernel
theorem dX6_act_32 : decode cX6_act 32 = .ok (.istore_n 3, 1) := by decide +kernel
theorem dX6_act_33 : decode cX6_act 33 = .ok (.iload_n 1, 1) := by decide +kernel
theorem dX6_act_34 : decode cX6_act 34 = .ok (.iconst 0, 1) := by decide +kernel
theorem dX6_act_35 : decode cX6_act 35 = .ok (.bipush 23, 2) := by decide +kernel
theorem dX6_act_37 : decode cX6_act 37 = .ok (.invokestatic 71, 3) := by decide +kernel
theorem dX6_act_40 : decode cX6_act 40 = .ok (.ifCond .eq 30, 3) := by decide +kernel
theorem dX6_act_43 : decode cX6_act 43 = .ok (.aload_n 0, 1) := by decide +kernel
theorem dX6_act_44 : decode cX6_act 44 = .ok (.iload_n 2, 1) := by decide +kernel
theorem dX6_act_45 : decode cX6_act 45 = .ok (.invokevirtual 75, 3) := by decide +kernel
theorem dX6_act_48 : decode cX6_act 48 = .ok (.ifCond .eq 22, 3) := by decide +kernel
theorem dX6_act_51 : decode cX6_act 51 = .ok (.aload_n 0, 1) := by decide +kernel
theorem dX6_act_52 : decode cX6_act 52 = .ok (.iload_n 3, 1) := by decide +kernel
theorem dX6_act_53 : decode cX6_act 53 = .ok (.invokevirtual 75, 3) := by decide +kernel
theorem dX6_act_56 : decode cX6_act 56 = .ok (.ifCond .eq 14, 3) := by decide +kernel
theorem dX6_act_59 : decode cX6_act 59 = .ok (.iload_n 1, 1) := by decide +kernel
theorem dX6_act_60 : decode cX6_act 60 = .ok (.bipush 8, 2) := by decide +kernel
theorem dX6_act_62 : decode cX6_act 62 = .ok (.if_icmp .lt 11, 3) := by decide +kernel
theorem dX6_act_65 : decode cX6_act 65 = .ok (.iload_n 2, 1) := by decide +kernel
theorem dX6_act_66 : decode cX6_act 66 = .ok (.iload_n 3, 1) := by decide +kernel
theorem dX6_act_67 : decode cX6_act 67 = .ok (.if_icmp .ne 6, 3) := by decide +kernel
theorem dX6_act_70 : decode cX6_act 70 = .ok (.bipush (-2), 2) := by decide +kernel
theorem dX6_act_72 : decode cX6_act 72 = .ok (.ireturn, 1) := by decide +kernel
theorem dX6_act_73 : decode cX6_act 73 = .ok (.aload_n 0, 1) := by decide +kernel
theorem dX6_act_74 : decode cX6_act 74 = .ok (.invokevirtual 94, 3) := by decide +kernel
theorem dX6_act_77 : decode cX6_act 77 = .ok (.aload_n 0, 1) := by decide +kernel
theorem dX6_act_78 : decode cX6_act 78 = .ok (.iload_n 1, 1) := by decide +kernel
theorem dX6_act_79 : decode cX6_act 79 = .ok (.invokevirtual 97, 3) := by decide +kernel
theorem dX6_act_82 : decode cX6_act 82 = .ok (.ifCond .ne 6, 3) := by decide +kernel
theorem dX6_act_85 : decode cX6_act 85 = .ok (.bipush (-3), 2) := by decide +kernel
theorem dX6_act_87 : decode cX6_act 87 = .ok (.ireturn, 1) := by decide +kernel
theorem dX6_act_88 : decode cX6_act 88 = .ok (.iconst 0, 1) := by decide +kernel
theorem dX6_act_89 : decode cX6_act 89 = .ok (.istore 4, 2) := by decide +kernel
theorem dX6_act_91 : decode cX6_act 91 = .ok (.iload 4, 2) := by decide +kernel
theorem dX6_act_93 : decode cX6_act 93 = .ok (.aload_n 0, 1) := by decide +kernel
theorem dX6_act_94 : decode cX6_act 94 = .ok (.getfield 67, 3) := by decide +kernel
theorem dX6_act_97 : decode cX6_act 97 = .ok (.if_icmp .ge 23, 3) := by decide +kernel
theorem dX6_act_100 : decode cX6_act 100 = .ok (.aload_n 0, 1) := by decide +kernel
theorem dX6_act_101 : decode cX6_act 101 = .ok (.getfield 13, 3) := by decide +kernel
theorem dX6_act_104 : decode cX6_act 104 = .ok (.iload 4, 2) := by decide +kernel
theorem dX6_act_106 : decode cX6_act 106 = .ok (.aload_n 0, 1) := by decide +kernel
theorem dX6_act_107 : decode cX6_act 107 = .ok (.getfield 29, 3) := by decide +kernel
theorem dX6_act_110 : decode cX6_act 110 = .ok (.iload 4, 2) := by decide +kernel
theorem dX6_act_112 : decode cX6_act 112 = .ok (.iaload, 1) := by decide +kernel
theorem dX6_act_113 : decode cX6_act 113 = .ok (.iastore, 1) := by decide +kernel
theorem dX6_act_114 : decode cX6_act 114 = .ok (.iinc 4 1, 3) := by decide +kernel
theorem dX6_act_117 : decode cX6_act 117 = .ok (.goto (-26), 3) := by decide +kernel
theorem dX6_act_120 : decode cX6_act 120 = .ok (.aload_n 0, 1) := by decide +kernel
theorem dX6_act_121 : decode cX6_act 121 = .ok (.getfield 91, 3) := by decide +kernel
theorem dX6_act_124 : decode cX6_act 124 = .ok (.ireturn, 1) := by decide +kernel
set_option maxRecDepth 20000 in
theorem ggX6_layActs_X6_stateMany : GoodIn wsX6_layActs wsX6_stateMany := goodIn_r _ [8, 9, 10, 27, 28, 29, 30, 31, 32, 33, 34, 35, 36, 37, 38, 39, 40, 41, 42, 43, 44, 45, 46, 47, 48, 49, 50, 51, 52, 53, 54] (by decide +kernel) (by decide +kernel)
set_option maxRecDepth 20000 in
theorem gX6_layActs_X6_stateMany : GoodIn wsX6_layActs (wsV RX6 100 RX6 yX6_stateMany wsX6_stateMany) := goodIn_app (goodIn_of _ (by decide +kernel)) ggX6_layActs_X6_stateMany
set_option maxRecDepth 20000 in
theorem ggX6_layActs_X6_layState : GoodIn wsX6_layActs wsX6_layState := goodIn_r _ [14, 9, 15, 10, 27, 28, 29, 30, 31, 32, 33, 34, 35, 36, 37, 38, 39, 40, 41, 42, 43, 44, 45, 46, 47, 48, 49, 50, 51, 52, 53, 54] (by decide +kernel) (by decide +kernel)
set_option maxRecDepth 20000 in
theorem gX6_layActs_X6_layState : GoodIn wsX6_layActs (wsV RX6 104 RX6 yX6_layState wsX6_layState) := goodIn_app (goodIn_of _ (by decide +kernel)) ggX6_layActs_X6_layState
set_option maxRecDepth 20000 in
theorem ggX6_layActs_X6_does : GoodIn wsX6_layActs wsX6_does := goodIn_r _ [19, 9, 3, 20, 10, 15, 21, 22, 27, 28, 29, 30, 31, 32, 33, 34, 35, 36, 37, 38, 39, 40, 41, 42, 43, 44, 45, 46, 47, 48, 49, 50, 51, 52, 53, 54] (by decide +kernel) (by decide +kernel)
set_option maxRecDepth 20000 in
theorem gX6_layActs_X6_does : GoodIn wsX6_layActs (wsV RX6 97 RX6 yX6_does wsX6_does) := goodIn_app (goodIn_of _ (by decide +kernel)) ggX6_layActs_X6_does
set_option maxRecDepth 20000 in
theorem ggX6_layActs_X6_numberOf : GoodIn wsX6_layActs wsX6_numberOf := goodIn_r _ [26, 9, 10, 15, 27, 28, 29, 30, 31, 32, 33, 34, 35, 36, 37, 38, 39, 40, 41, 42, 43, 44, 45, 46, 47, 48, 49, 50, 51, 52, 53, 54] (by decide +kernel) (by decide +kernel)
set_option maxRecDepth 20000 in
theorem gX6_layActs_X6_numberOf : GoodIn wsX6_layActs (wsV RX6 108 RX6 yX6_numberOf wsX6_numberOf) := goodIn_app (goodIn_of _ (by decide +kernel)) ggX6_layActs_X6_numberOf
theorem dX6_layActs_0 : decode cX6_layActs 0 = .ok (.aload_n 0, 1) := by decide +kernel
theorem dX6_layActs_1 : decode cX6_layActs 1 = .ok (.invokevirtual 100, 3) := by decide +kernel
theorem dX6_layActs_4 : decode cX6_layActs 4 = .ok (.istore_n 1, 1) := by decide +kernel
theorem dX6_layActs_5 : decode cX6_layActs 5 = .ok (.iconst 0, 1) := by decide +kernel
theorem dX6_layActs_6 : decode cX6_layActs 6 = .ok (.istore_n 2, 1) := by decide +kernel
theorem dX6_layActs_7 : decode cX6_layActs 7 = .ok (.iload_n 2, 1) := by decide +kernel
theorem dX6_layActs_8 : decode cX6_layActs 8 = .ok (.iload_n 1, 1) := by decide +kernel
theorem dX6_layActs_9 : decode cX6_layActs 9 = .ok (.if_icmp .ge 83, 3) := by decide +kernel
theorem dX6_layActs_12 : decode cX6_layActs 12 = .ok (.iconst 0, 1) := by decide +kernel
theorem dX6_layActs_13 : decode cX6_layActs 13 = .ok (.istore_n 3, 1) := by decide +kernel
theorem dX6_layActs_14 : decode cX6_layActs 14 = .ok (.iload_n 3, 1) := by decide +kernel
theorem dX6_layActs_15 : decode cX6_layActs 15 = .ok (.bipush 24, 2) := by decide +kernel
theorem dX6_layActs_17 : decode cX6_layActs 17 = .ok (.if_icmp .ge 69, 3) := by decide +kernel
theorem dX6_layActs_20 : decode cX6_layActs 20 = .ok (.aload_n 0, 1) := by decide +kernel
theorem dX6_layActs_21 : decode cX6_layActs 21 = .ok (.iload_n 2, 1) := by decide +kernel
theorem dX6_layActs_22 : decode cX6_layActs 22 = .ok (.invokevirtual 104, 3) := by decide +kernel
theorem dX6_layActs_25 : decode cX6_layActs 25 = .ok (.aload_n 0, 1) := by decide +kernel
theorem dX6_layActs_26 : decode cX6_layActs 26 = .ok (.iload_n 3, 1) := by decide +kernel
theorem dX6_layActs_27 : decode cX6_layActs 27 = .ok (.invokevirtual 97, 3) := by decide +kernel
theorem dX6_layActs_30 : decode cX6_layActs 30 = .ok (.istore 4, 2) := by decide +kernel
theorem dX6_layActs_32 : decode cX6_layActs 32 = .ok (.aload_n 0, 1) := by decide +kernel
theorem dX6_layActs_33 : decode cX6_layActs 33 = .ok (.getfield 33, 3) := by decide +kernel
theorem dX6_layActs_36 : decode cX6_layActs 36 = .ok (.bipush 24, 2) := by decide +kernel
theorem dX6_layActs_38 : decode cX6_layActs 38 = .ok (.iload_n 2, 1) := by decide +kernel
theorem dX6_layActs_39 : decode cX6_layActs 39 = .ok (.imul, 1) := by decide +kernel
theorem dX6_layActs_40 : decode cX6_layActs 40 = .ok (.iload_n 3, 1) := by decide +kernel
theorem dX6_layActs_41 : decode cX6_layActs 41 = .ok (.iadd, 1) := by decide +kernel
theorem dX6_layActs_42 : decode cX6_layActs 42 = .ok (.iload 4, 2) := by decide +kernel
theorem dX6_layActs_44 : decode cX6_layActs 44 = .ok (.ifCond .eq 10, 3) := by decide +kernel
theorem dX6_layActs_47 : decode cX6_layActs 47 = .ok (.aload_n 0, 1) := by decide +kernel
theorem dX6_layActs_48 : decode cX6_layActs 48 = .ok (.invokevirtual 108, 3) := by decide +kernel
theorem dX6_layActs_51 : decode cX6_layActs 51 = .ok (.goto 4, 3) := by decide +kernel
theorem dX6_layActs_54 : decode cX6_layActs 54 = .ok (.iconst (-1), 1) := by decide +kernel
theorem dX6_layActs_55 : decode cX6_layActs 55 = .ok (.iastore, 1) := by decide +kernel
theorem dX6_layActs_56 : decode cX6_layActs 56 = .ok (.aload_n 0, 1) := by decide +kernel
theorem dX6_layActs_57 : decode cX6_layActs 57 = .ok (.getfield 36, 3) := by decide +kernel
theorem dX6_layActs_60 : decode cX6_layActs 60 = .ok (.bipush 24, 2) := by decide +kernel
theorem dX6_layActs_62 : decode cX6_layActs 62 = .ok (.iload_n 2, 1) := by decide +kernel
theorem dX6_layActs_63 : decode cX6_layActs 63 = .ok (.imul, 1) := by decide +kernel
theorem dX6_layActs_64 : decode cX6_layActs 64 = .ok (.iload_n 3, 1) := by decide +kernel
theorem dX6_layActs_65 : decode cX6_layActs 65 = .ok (.iadd, 1) := by decide +kernel
theorem dX6_layActs_66 : decode cX6_layActs 66 = .ok (.iload 4, 2) := by decide +kernel
theorem dX6_layActs_68 : decode cX6_layActs 68 = .ok (.ifCond .eq 10, 3) := by decide +kernel
theorem dX6_layActs_71 : decode cX6_layActs 71 = .ok (.aload_n 0, 1) := by decide +kernel
theorem dX6_layActs_72 : decode cX6_layActs 72 = .ok (.getfield 88, 3) := by decide +kernel
theorem dX6_layActs_75 : decode cX6_layActs 75 = .ok (.goto 4, 3) := by decide +kernel
theorem dX6_layActs_78 : decode cX6_layActs 78 = .ok (.iconst 0, 1) := by decide +kernel
theorem dX6_layActs_79 : decode cX6_layActs 79 = .ok (.iastore, 1) := by decide +kernel
theorem dX6_layActs_80 : decode cX6_layActs 80 = .ok (.iinc 3 1, 3) := by decide +kernel
theorem dX6_layActs_83 : decode cX6_layActs 83 = .ok (.goto (-69), 3) := by decide +kernel
theorem dX6_layActs_86 : decode cX6_layActs 86 = .ok (.iinc 2 1, 3) := by decide +kernel
theorem dX6_layActs_89 : decode cX6_layActs 89 = .ok (.goto (-82), 3) := by decide +kernel
theorem dX6_layActs_92 : decode cX6_layActs 92 = .ok (.return_, 1) := by decide +kernel
set_option maxRecDepth 20000 in
theorem ggX6_isMade_X6_layState : GoodIn wsX6_isMade wsX6_layState := goodIn_r _ [7, 1, 2, 8, 9, 10, 11, 12, 13, 14, 15, 16, 17, 18, 19, 20, 21, 22, 23, 24, 25, 26, 27, 28, 29, 30, 31, 32, 33, 34, 35, 36] (by decide +kernel) (by decide +kernel)
set_option maxRecDepth 20000 in
theorem gX6_isMade_X6_layState : GoodIn wsX6_isMade (wsV RX6 104 RX6 yX6_layState wsX6_layState) := goodIn_app (goodIn_of _ (by decide +kernel)) ggX6_isMade_X6_layState
theorem dX6_isMade_0 : decode cX6_isMade 0 = .ok (.aload_n 0, 1) := by decide +kernel
theorem dX6_isMade_1 : decode cX6_isMade 1 = .ok (.iload_n 1, 1) := by decide +kernel
theorem dX6_isMade_2 : decode cX6_isMade 2 = .ok (.invokevirtual 104, 3) := by decide +kernel
theorem dX6_isMade_5 : decode cX6_isMade 5 = .ok (.iconst 0, 1) := by decide +kernel
theorem dX6_isMade_6 : decode cX6_isMade 6 = .ok (.istore 4, 2) := by decide +kernel
theorem dX6_isMade_8 : decode cX6_isMade 8 = .ok (.iconst 0, 1) := by decide +kernel
theorem dX6_isMade_9 : decode cX6_isMade 9 = .ok (.istore 5, 2) := by decide +kernel
theorem dX6_isMade_11 : decode cX6_isMade 11 = .ok (.iload 5, 2) := by decide +kernel
theorem dX6_isMade_13 : decode cX6_isMade 13 = .ok (.aload_n 0, 1) := by decide +kernel
theorem dX6_isMade_14 : decode cX6_isMade 14 = .ok (.getfield 79, 3) := by decide +kernel
theorem dX6_isMade_17 : decode cX6_isMade 17 = .ok (.if_icmp .ge 43, 3) := by decide +kernel
theorem dX6_isMade_20 : decode cX6_isMade 20 = .ok (.iload 4, 2) := by decide +kernel
theorem dX6_isMade_22 : decode cX6_isMade 22 = .ok (.ifCond .ne 25, 3) := by decide +kernel
theorem dX6_isMade_25 : decode cX6_isMade 25 = .ok (.iload_n 2, 1) := by decide +kernel
theorem dX6_isMade_26 : decode cX6_isMade 26 = .ok (.iconst (-1), 1) := by decide +kernel
theorem dX6_isMade_27 : decode cX6_isMade 27 = .ok (.if_icmp .eq 9, 3) := by decide +kernel
theorem dX6_isMade_30 : decode cX6_isMade 30 = .ok (.iload_n 2, 1) := by decide +kernel
theorem dX6_isMade_31 : decode cX6_isMade 31 = .ok (.iload 5, 2) := by decide +kernel
theorem dX6_isMade_33 : decode cX6_isMade 33 = .ok (.if_icmp .ne 18, 3) := by decide +kernel
theorem dX6_isMade_36 : decode cX6_isMade 36 = .ok (.aload_n 0, 1) := by decide +kernel
theorem dX6_isMade_37 : decode cX6_isMade 37 = .ok (.getfield 29, 3) := by decide +kernel
theorem dX6_isMade_40 : decode cX6_isMade 40 = .ok (.iload 5, 2) := by decide +kernel
theorem dX6_isMade_42 : decode cX6_isMade 42 = .ok (.iaload, 1) := by decide +kernel
theorem dX6_isMade_43 : decode cX6_isMade 43 = .ok (.iload_n 3, 1) := by decide +kernel
theorem dX6_isMade_44 : decode cX6_isMade 44 = .ok (.if_icmp .ne 7, 3) := by decide +kernel
theorem dX6_isMade_47 : decode cX6_isMade 47 = .ok (.iconst 1, 1) := by decide +kernel
theorem dX6_isMade_48 : decode cX6_isMade 48 = .ok (.goto 4, 3) := by decide +kernel
theorem dX6_isMade_51 : decode cX6_isMade 51 = .ok (.iconst 0, 1) := by decide +kernel
theorem dX6_isMade_52 : decode cX6_isMade 52 = .ok (.istore 4, 2) := by decide +kernel
theorem dX6_isMade_54 : decode cX6_isMade 54 = .ok (.iinc 5 1, 3) := by decide +kernel
theorem dX6_isMade_57 : decode cX6_isMade 57 = .ok (.goto (-46), 3) := by decide +kernel
theorem dX6_isMade_60 : decode cX6_isMade 60 = .ok (.iload 4, 2) := by decide +kernel
theorem dX6_isMade_62 : decode cX6_isMade 62 = .ok (.ireturn, 1) := by decide +kernel
theorem dX6_costBy_0 : decode cX6_costBy 0 = .ok (.aload_n 0, 1) := by decide +kernel
theorem dX6_costBy_1 : decode cX6_costBy 1 = .ok (.getfield 33, 3) := by decide +kernel
theorem dX6_costBy_4 : decode cX6_costBy 4 = .ok (.bipush 24, 2) := by decide +kernel
theorem dX6_costBy_6 : decode cX6_costBy 6 = .ok (.iload_n 1, 1) := by decide +kernel
theorem dX6_costBy_7 : decode cX6_costBy 7 = .ok (.imul, 1) := by decide +kernel
theorem dX6_costBy_8 : decode cX6_costBy 8 = .ok (.iload_n 2, 1) := by decide +kernel
theorem dX6_costBy_9 : decode cX6_costBy 9 = .ok (.iadd, 1) := by decide +kernel
theorem dX6_costBy_10 : decode cX6_costBy 10 = .ok (.iaload, 1) := by decide +kernel
theorem dX6_costBy_11 : decode cX6_costBy 11 = .ok (.istore 4, 2) := by decide +kernel
theorem dX6_costBy_13 : decode cX6_costBy 13 = .ok (.iload 4, 2) := by decide +kernel
theorem dX6_costBy_15 : decode cX6_costBy 15 = .ok (.iconst (-1), 1) := by decide +kernel
theorem dX6_costBy_16 : decode cX6_costBy 16 = .ok (.if_icmp .eq 15, 3) := by decide +kernel
theorem dX6_costBy_19 : decode cX6_costBy 19 = .ok (.aload_n 0, 1) := by decide +kernel
theorem dX6_costBy_20 : decode cX6_costBy 20 = .ok (.getfield 39, 3) := by decide +kernel
theorem dX6_costBy_23 : decode cX6_costBy 23 = .ok (.iload 4, 2) := by decide +kernel
theorem dX6_costBy_25 : decode cX6_costBy 25 = .ok (.iaload, 1) := by decide +kernel
theorem dX6_costBy_26 : decode cX6_costBy 26 = .ok (.ldc 111, 2) := by decide +kernel
theorem dX6_costBy_28 : decode cX6_costBy 28 = .ok (.if_icmp .ne 8, 3) := by decide +kernel
theorem dX6_costBy_31 : decode cX6_costBy 31 = .ok (.ldc 111, 2) := by decide +kernel
theorem dX6_costBy_33 : decode cX6_costBy 33 = .ok (.goto 26, 3) := by decide +kernel
theorem dX6_costBy_36 : decode cX6_costBy 36 = .ok (.aload_n 0, 1) := by decide +kernel
theorem dX6_costBy_37 : decode cX6_costBy 37 = .ok (.getfield 39, 3) := by decide +kernel
theorem dX6_costBy_40 : decode cX6_costBy 40 = .ok (.iload 4, 2) := by decide +kernel
theorem dX6_costBy_42 : decode cX6_costBy 42 = .ok (.iaload, 1) := by decide +kernel
theorem dX6_costBy_43 : decode cX6_costBy 43 = .ok (.iconst 1, 1) := by decide +kernel
theorem dX6_costBy_44 : decode cX6_costBy 44 = .ok (.iadd, 1) := by decide +kernel
theorem dX6_costBy_45 : decode cX6_costBy 45 = .ok (.iload_n 3, 1) := by decide +kernel
theorem dX6_costBy_46 : decode cX6_costBy 46 = .ok (.aload_n 0, 1) := by decide +kernel
theorem dX6_costBy_47 : decode cX6_costBy 47 = .ok (.getfield 36, 3) := by decide +kernel
theorem dX6_costBy_50 : decode cX6_costBy 50 = .ok (.bipush 24, 2) := by decide +kernel
theorem dX6_costBy_52 : decode cX6_costBy 52 = .ok (.iload_n 1, 1) := by decide +kernel
theorem dX6_costBy_53 : decode cX6_costBy 53 = .ok (.imul, 1) := by decide +kernel
theorem dX6_costBy_54 : decode cX6_costBy 54 = .ok (.iload_n 2, 1) := by decide +kernel
theorem dX6_costBy_55 : decode cX6_costBy 55 = .ok (.iadd, 1) := by decide +kernel
theorem dX6_costBy_56 : decode cX6_costBy 56 = .ok (.iaload, 1) := by decide +kernel
theorem dX6_costBy_57 : decode cX6_costBy 57 = .ok (.imul, 1) := by decide +kernel
theorem dX6_costBy_58 : decode cX6_costBy 58 = .ok (.iadd, 1) := by decide +kernel
theorem dX6_costBy_59 : decode cX6_costBy 59 = .ok (.ireturn, 1) := by decide +kernel
set_option maxRecDepth 20000 in
theorem ggX6_findCosts_X6_tryOwn : GoodIn wsX6_findCosts wsX6_tryOwn := goodIn_r _ [8, 9, 10, 11, 12, 13, 14, 15, 16, 17, 18, 51, 52, 53, 54, 55, 56, 57, 58, 59, 60, 61, 62, 63, 64, 65, 66, 67, 68, 69, 70, 71, 72, 73, 74, 75, 76, 77, 78] (by decide +kernel) (by decide +kernel)
set_option maxRecDepth 20000 in
theorem gX6_findCosts_X6_tryOwn : GoodIn wsX6_findCosts (wsV RX6 94 RX6 yX6_tryOwn wsX6_tryOwn) := goodIn_app (goodIn_of _ (by decide +kernel)) ggX6_findCosts_X6_tryOwn
set_option maxRecDepth 20000 in
theorem ggX6_findCosts_X6_numberOf : GoodIn wsX6_findCosts wsX6_numberOf := goodIn_r _ [22, 10, 15, 17, 51, 52, 53, 54, 55, 56, 57, 58, 59, 60, 61, 62, 63, 64, 65, 66, 67, 68, 69, 70, 71, 72, 73, 74, 75, 76, 77, 78] (by decide +kernel) (by decide +kernel)
set_option maxRecDepth 20000 in
theorem gX6_findCosts_X6_numberOf : GoodIn wsX6_findCosts (wsV RX6 108 RX6 yX6_numberOf wsX6_numberOf) := goodIn_app (goodIn_of _ (by decide +kernel)) ggX6_findCosts_X6_numberOf
set_option maxRecDepth 20000 in
theorem ggX6_findCosts_X6_layActs : GoodIn wsX6_findCosts wsX6_layActs := goodIn_r _ [26, 27, 28, 29, 30, 31, 32, 7, 33, 10, 15, 34, 35, 36, 37, 17, 38, 39, 40, 41, 12, 42, 14, 19, 20, 21, 22, 51, 52, 53, 54, 55, 56, 57, 58, 59, 60, 61, 62, 63, 64, 65, 66, 67, 68, 69, 70, 71, 72, 73, 74, 75, 76, 77, 78] (by decide +kernel) (by decide +kernel)
set_option maxRecDepth 20000 in
theorem gX6_findCosts_X6_layActs : GoodIn wsX6_findCosts (wsV RX6 115 RX6 yX6_layActs wsX6_layActs) := goodIn_app (goodIn_of _ (by decide +kernel)) ggX6_findCosts_X6_layActs
set_option maxRecDepth 20000 in
theorem ggX6_findCosts_X6_stateMany : GoodIn wsX6_findCosts wsX6_stateMany := goodIn_r _ [33, 10, 15, 51, 52, 53, 54, 55, 56, 57, 58, 59, 60, 61, 62, 63, 64, 65, 66, 67, 68, 69, 70, 71, 72, 73, 74, 75, 76, 77, 78] (by decide +kernel) (by decide +kernel)
set_option maxRecDepth 20000 in
theorem gX6_findCosts_X6_stateMany : GoodIn wsX6_findCosts (wsV RX6 100 RX6 yX6_stateMany wsX6_stateMany) := goodIn_app (goodIn_of _ (by decide +kernel)) ggX6_findCosts_X6_stateMany
set_option maxRecDepth 20000 in
theorem ggX6_findCosts_X6_isMade : GoodIn wsX6_findCosts wsX6_isMade := goodIn_r _ [46, 10, 17, 34, 35, 36, 7, 37, 15, 51, 52, 53, 54, 55, 56, 57, 58, 59, 60, 61, 62, 63, 64, 65, 66, 67, 68, 69, 70, 71, 72, 73, 74, 75, 76, 77, 78] (by decide +kernel) (by decide +kernel)
set_option maxRecDepth 20000 in
theorem gX6_findCosts_X6_isMade : GoodIn wsX6_findCosts (wsV RX6 118 RX6 yX6_isMade wsX6_isMade) := goodIn_app (goodIn_of _ (by decide +kernel)) ggX6_findCosts_X6_isMade
set_option maxRecDepth 20000 in
theorem ggX6_findCosts_X6_costBy : GoodIn wsX6_findCosts wsX6_costBy := goodIn_r _ [50, 27, 2, 3, 28, 51, 52, 53, 54, 55, 56, 57, 58, 59, 60, 61, 62, 63, 64, 65, 66, 67, 68, 69, 70, 71, 72, 73, 74, 75, 76, 77, 78] (by decide +kernel) (by decide +kernel)
set_option maxRecDepth 20000 in
theorem gX6_findCosts_X6_costBy : GoodIn wsX6_findCosts (wsV RX6 121 RX6 yX6_costBy wsX6_costBy) := goodIn_app (goodIn_of _ (by decide +kernel)) ggX6_findCosts_X6_costBy
theorem dX6_findCosts_0 : decode cX6_findCosts 0 = .ok (.aload_n 0, 1) := by decide +kernel
theorem dX6_findCosts_1 : decode cX6_findCosts 1 = .ok (.invokevirtual 94, 3) := by decide +kernel
theorem dX6_findCosts_4 : decode cX6_findCosts 4 = .ok (.aload_n 0, 1) := by decide +kernel
theorem dX6_findCosts_5 : decode cX6_findCosts 5 = .ok (.aload_n 0, 1) := by decide +kernel
theorem dX6_findCosts_6 : decode cX6_findCosts 6 = .ok (.invokevirtual 108, 3) := by decide +kernel
theorem dX6_findCosts_9 : decode cX6_findCosts 9 = .ok (.putfield 112, 3) := by decide +kernel
theorem dX6_findCosts_12 : decode cX6_findCosts 12 = .ok (.aload_n 0, 1) := by decide +kernel
theorem dX6_findCosts_13 : decode cX6_findCosts 13 = .ok (.invokevirtual 115, 3) := by decide +kernel
theorem dX6_findCosts_16 : decode cX6_findCosts 16 = .ok (.aload_n 0, 1) := by decide +kernel
theorem dX6_findCosts_17 : decode cX6_findCosts 17 = .ok (.invokevirtual 100, 3) := by decide +kernel
theorem dX6_findCosts_20 : decode cX6_findCosts 20 = .ok (.istore 4, 2) := by decide +kernel
theorem dX6_findCosts_22 : decode cX6_findCosts 22 = .ok (.iconst 0, 1) := by decide +kernel
theorem dX6_findCosts_23 : decode cX6_findCosts 23 = .ok (.istore 5, 2) := by decide +kernel
theorem dX6_findCosts_25 : decode cX6_findCosts 25 = .ok (.iload 5, 2) := by decide +kernel
theorem dX6_findCosts_27 : decode cX6_findCosts 27 = .ok (.iload 4, 2) := by decide +kernel
theorem dX6_findCosts_29 : decode cX6_findCosts 29 = .ok (.if_icmp .ge 33, 3) := by decide +kernel
theorem dX6_findCosts_32 : decode cX6_findCosts 32 = .ok (.aload_n 0, 1) := by decide +kernel
theorem dX6_findCosts_33 : decode cX6_findCosts 33 = .ok (.getfield 39, 3) := by decide +kernel
theorem dX6_findCosts_36 : decode cX6_findCosts 36 = .ok (.iload 5, 2) := by decide +kernel
theorem dX6_findCosts_38 : decode cX6_findCosts 38 = .ok (.aload_n 0, 1) := by decide +kernel
theorem dX6_findCosts_39 : decode cX6_findCosts 39 = .ok (.iload 5, 2) := by decide +kernel
theorem dX6_findCosts_41 : decode cX6_findCosts 41 = .ok (.iload_n 1, 1) := by decide +kernel
theorem dX6_findCosts_42 : decode cX6_findCosts 42 = .ok (.iload_n 2, 1) := by decide +kernel
theorem dX6_findCosts_43 : decode cX6_findCosts 43 = .ok (.invokevirtual 118, 3) := by decide +kernel
theorem dX6_findCosts_46 : decode cX6_findCosts 46 = .ok (.ifCond .eq 7, 3) := by decide +kernel
theorem dX6_findCosts_49 : decode cX6_findCosts 49 = .ok (.iconst 0, 1) := by decide +kernel
theorem dX6_findCosts_50 : decode cX6_findCosts 50 = .ok (.goto 5, 3) := by decide +kernel
theorem dX6_findCosts_53 : decode cX6_findCosts 53 = .ok (.ldc 111, 2) := by decide +kernel
theorem dX6_findCosts_55 : decode cX6_findCosts 55 = .ok (.iastore, 1) := by decide +kernel
theorem dX6_findCosts_56 : decode cX6_findCosts 56 = .ok (.iinc 5 1, 3) := by decide +kernel
theorem dX6_findCosts_59 : decode cX6_findCosts 59 = .ok (.goto (-34), 3) := by decide +kernel
theorem dX6_findCosts_62 : decode cX6_findCosts 62 = .ok (.iconst 1, 1) := by decide +kernel
theorem dX6_findCosts_63 : decode cX6_findCosts 63 = .ok (.istore 5, 2) := by decide +kernel
theorem dX6_findCosts_65 : decode cX6_findCosts 65 = .ok (.iload 5, 2) := by decide +kernel
theorem dX6_findCosts_67 : decode cX6_findCosts 67 = .ok (.ifCond .eq 76, 3) := by decide +kernel
theorem dX6_findCosts_70 : decode cX6_findCosts 70 = .ok (.iconst 0, 1) := by decide +kernel
theorem dX6_findCosts_71 : decode cX6_findCosts 71 = .ok (.istore 5, 2) := by decide +kernel
theorem dX6_findCosts_73 : decode cX6_findCosts 73 = .ok (.iconst 0, 1) := by decide +kernel
theorem dX6_findCosts_74 : decode cX6_findCosts 74 = .ok (.istore 6, 2) := by decide +kernel
theorem dX6_findCosts_76 : decode cX6_findCosts 76 = .ok (.iload 6, 2) := by decide +kernel
theorem dX6_findCosts_78 : decode cX6_findCosts 78 = .ok (.iload 4, 2) := by decide +kernel
theorem dX6_findCosts_80 : decode cX6_findCosts 80 = .ok (.if_icmp .ge 60, 3) := by decide +kernel
theorem dX6_findCosts_83 : decode cX6_findCosts 83 = .ok (.iconst 0, 1) := by decide +kernel
theorem dX6_findCosts_84 : decode cX6_findCosts 84 = .ok (.istore 7, 2) := by decide +kernel
theorem dX6_findCosts_86 : decode cX6_findCosts 86 = .ok (.iload 7, 2) := by decide +kernel
theorem dX6_findCosts_88 : decode cX6_findCosts 88 = .ok (.bipush 24, 2) := by decide +kernel
theorem dX6_findCosts_90 : decode cX6_findCosts 90 = .ok (.if_icmp .ge 44, 3) := by decide +kernel
theorem dX6_findCosts_93 : decode cX6_findCosts 93 = .ok (.aload_n 0, 1) := by decide +kernel
theorem dX6_findCosts_94 : decode cX6_findCosts 94 = .ok (.iload 6, 2) := by decide +kernel
theorem dX6_findCosts_96 : decode cX6_findCosts 96 = .ok (.iload 7, 2) := by decide +kernel
theorem dX6_findCosts_98 : decode cX6_findCosts 98 = .ok (.iload_n 3, 1) := by decide +kernel
theorem dX6_findCosts_99 : decode cX6_findCosts 99 = .ok (.invokevirtual 121, 3) := by decide +kernel
theorem dX6_findCosts_102 : decode cX6_findCosts 102 = .ok (.istore 8, 2) := by decide +kernel
theorem dX6_findCosts_104 : decode cX6_findCosts 104 = .ok (.iload 8, 2) := by decide +kernel
theorem dX6_findCosts_106 : decode cX6_findCosts 106 = .ok (.aload_n 0, 1) := by decide +kernel
theorem dX6_findCosts_107 : decode cX6_findCosts 107 = .ok (.getfield 39, 3) := by decide +kernel
theorem dX6_findCosts_110 : decode cX6_findCosts 110 = .ok (.iload 6, 2) := by decide +kernel
theorem dX6_findCosts_112 : decode cX6_findCosts 112 = .ok (.iaload, 1) := by decide +kernel
theorem dX6_findCosts_113 : decode cX6_findCosts 113 = .ok (.if_icmp .ge 15, 3) := by decide +kernel
theorem dX6_findCosts_116 : decode cX6_findCosts 116 = .ok (.aload_n 0, 1) := by decide +kernel
theorem dX6_findCosts_117 : decode cX6_findCosts 117 = .ok (.getfield 39, 3) := by decide +kernel
theorem dX6_findCosts_120 : decode cX6_findCosts 120 = .ok (.iload 6, 2) := by decide +kernel
theorem dX6_findCosts_122 : decode cX6_findCosts 122 = .ok (.iload 8, 2) := by decide +kernel
theorem dX6_findCosts_124 : decode cX6_findCosts 124 = .ok (.iastore, 1) := by decide +kernel
theorem dX6_findCosts_125 : decode cX6_findCosts 125 = .ok (.iconst 1, 1) := by decide +kernel
theorem dX6_findCosts_126 : decode cX6_findCosts 126 = .ok (.istore 5, 2) := by decide +kernel
theorem dX6_findCosts_128 : decode cX6_findCosts 128 = .ok (.iinc 7 1, 3) := by decide +kernel
theorem dX6_findCosts_131 : decode cX6_findCosts 131 = .ok (.goto (-45), 3) := by decide +kernel
theorem dX6_findCosts_134 : decode cX6_findCosts 134 = .ok (.iinc 6 1, 3) := by decide +kernel
theorem dX6_findCosts_137 : decode cX6_findCosts 137 = .ok (.goto (-61), 3) := by decide +kernel
theorem dX6_findCosts_140 : decode cX6_findCosts 140 = .ok (.goto (-75), 3) := by decide +kernel
theorem dX6_findCosts_143 : decode cX6_findCosts 143 = .ok (.return_, 1) := by decide +kernel
set_option maxRecDepth 20000 in
theorem ggX6_isAim_X6_isJug : GoodIn wsX6_isAim wsX6_isJug := goodIn_r _ [5, 6, 7, 8, 4, 9, 10, 11, 12, 13, 14, 15, 16, 17, 18, 19, 20, 21, 22, 23, 24, 25, 26, 27, 28, 29, 30, 31, 32, 33, 34, 35, 36, 37] (by decide +kernel) (by decide +kernel)
set_option maxRecDepth 20000 in
theorem gX6_isAim_X6_isJug : GoodIn wsX6_isAim (wsV RX6 75 RX6 yX6_isJug wsX6_isJug) := goodIn_app (goodIn_of _ (by decide +kernel)) ggX6_isAim_X6_isJug
set_option maxRecDepth 20000 in
theorem ggX6_isAim_X6_in : GoodIn wsX6_isAim wsX6_in := goodIn_r _ [9] (by decide +kernel) (by decide +kernel)
set_option maxRecDepth 20000 in
theorem gX6_isAim_X6_in : GoodIn wsX6_isAim (va_wsS RX6 71 yX6_in wsX6_in) := goodIn_app (goodIn_of _ (by decide +kernel)) ggX6_isAim_X6_in
theorem dX6_isAim_0 : decode cX6_isAim 0 = .ok (.iload_n 1, 1) := by decide +kernel
theorem dX6_isAim_1 : decode cX6_isAim 1 = .ok (.iconst (-1), 1) := by decide +kernel
theorem dX6_isAim_2 : decode cX6_isAim 2 = .ok (.if_icmp .eq 11, 3) := by decide +kernel
theorem dX6_isAim_5 : decode cX6_isAim 5 = .ok (.aload_n 0, 1) := by decide +kernel
theorem dX6_isAim_6 : decode cX6_isAim 6 = .ok (.iload_n 1, 1) := by decide +kernel
theorem dX6_isAim_7 : decode cX6_isAim 7 = .ok (.invokevirtual 75, 3) := by decide +kernel
theorem dX6_isAim_10 : decode cX6_isAim 10 = .ok (.ifCond .eq 17, 3) := by decide +kernel
theorem dX6_isAim_13 : decode cX6_isAim 13 = .ok (.iload_n 2, 1) := by decide +kernel
theorem dX6_isAim_14 : decode cX6_isAim 14 = .ok (.iconst 0, 1) := by decide +kernel
theorem dX6_isAim_15 : decode cX6_isAim 15 = .ok (.bipush 10, 2) := by decide +kernel
theorem dX6_isAim_17 : decode cX6_isAim 17 = .ok (.invokestatic 71, 3) := by decide +kernel
theorem dX6_isAim_20 : decode cX6_isAim 20 = .ok (.ifCond .eq 7, 3) := by decide +kernel
theorem dX6_isAim_23 : decode cX6_isAim 23 = .ok (.iconst 1, 1) := by decide +kernel
theorem dX6_isAim_24 : decode cX6_isAim 24 = .ok (.goto 4, 3) := by decide +kernel
theorem dX6_isAim_27 : decode cX6_isAim 27 = .ok (.iconst 0, 1) := by decide +kernel
theorem dX6_isAim_28 : decode cX6_isAim 28 = .ok (.ireturn, 1) := by decide +kernel
set_option maxRecDepth 20000 in
theorem ggX6_actOf_X6_costBy : GoodIn wsX6_actOf wsX6_costBy := goodIn_r _ [9, 4, 2, 3, 10, 11, 12, 13, 14, 15, 16, 17, 18, 19, 20, 21, 22, 23, 24, 25, 26, 27, 28, 29, 30, 31, 32, 33, 34, 35, 36, 37, 38] (by decide +kernel) (by decide +kernel)
set_option maxRecDepth 20000 in
theorem gX6_actOf_X6_costBy : GoodIn wsX6_actOf (wsV RX6 121 RX6 yX6_costBy wsX6_costBy) := goodIn_app (goodIn_of _ (by decide +kernel)) ggX6_actOf_X6_costBy
theorem dX6_actOf_0 : decode cX6_actOf 0 = .ok (.aload_n 0, 1) := by decide +kernel
theorem dX6_actOf_1 : decode cX6_actOf 1 = .ok (.getfield 112, 3) := by decide +kernel
theorem dX6_actOf_4 : decode cX6_actOf 4 = .ok (.istore_n 3, 1) := by decide +kernel
theorem dX6_actOf_5 : decode cX6_actOf 5 = .ok (.iconst (-1), 1) := by decide +kernel
theorem dX6_actOf_6 : decode cX6_actOf 6 = .ok (.istore 4, 2) := by decide +kernel
theorem dX6_actOf_8 : decode cX6_actOf 8 = .ok (.iconst 0, 1) := by decide +kernel
theorem dX6_actOf_9 : decode cX6_actOf 9 = .ok (.istore 5, 2) := by decide +kernel
theorem dX6_actOf_11 : decode cX6_actOf 11 = .ok (.iload 5, 2) := by decide +kernel
theorem dX6_actOf_13 : decode cX6_actOf 13 = .ok (.iload_n 1, 1) := by decide +kernel
theorem dX6_actOf_14 : decode cX6_actOf 14 = .ok (.if_icmp .gt 70, 3) := by decide +kernel
theorem dX6_actOf_17 : decode cX6_actOf 17 = .ok (.aload_n 0, 1) := by decide +kernel
theorem dX6_actOf_18 : decode cX6_actOf 18 = .ok (.getfield 39, 3) := by decide +kernel
theorem dX6_actOf_21 : decode cX6_actOf 21 = .ok (.iload_n 3, 1) := by decide +kernel
theorem dX6_actOf_22 : decode cX6_actOf 22 = .ok (.iaload, 1) := by decide +kernel
theorem dX6_actOf_23 : decode cX6_actOf 23 = .ok (.ifCond .eq 14, 3) := by decide +kernel
theorem dX6_actOf_26 : decode cX6_actOf 26 = .ok (.aload_n 0, 1) := by decide +kernel
theorem dX6_actOf_27 : decode cX6_actOf 27 = .ok (.getfield 39, 3) := by decide +kernel
theorem dX6_actOf_30 : decode cX6_actOf 30 = .ok (.iload_n 3, 1) := by decide +kernel
theorem dX6_actOf_31 : decode cX6_actOf 31 = .ok (.iaload, 1) := by decide +kernel
theorem dX6_actOf_32 : decode cX6_actOf 32 = .ok (.ldc 111, 2) := by decide +kernel
theorem dX6_actOf_34 : decode cX6_actOf 34 = .ok (.if_icmp .ne 5, 3) := by decide +kernel
theorem dX6_actOf_37 : decode cX6_actOf 37 = .ok (.iconst (-1), 1) := by decide +kernel
theorem dX6_actOf_38 : decode cX6_actOf 38 = .ok (.ireturn, 1) := by decide +kernel
theorem dX6_actOf_39 : decode cX6_actOf 39 = .ok (.iconst 0, 1) := by decide +kernel
theorem dX6_actOf_40 : decode cX6_actOf 40 = .ok (.istore 4, 2) := by decide +kernel
theorem dX6_actOf_42 : decode cX6_actOf 42 = .ok (.aload_n 0, 1) := by decide +kernel
theorem dX6_actOf_43 : decode cX6_actOf 43 = .ok (.iload_n 3, 1) := by decide +kernel
theorem dX6_actOf_44 : decode cX6_actOf 44 = .ok (.iload 4, 2) := by decide +kernel
theorem dX6_actOf_46 : decode cX6_actOf 46 = .ok (.iload_n 2, 1) := by decide +kernel
theorem dX6_actOf_47 : decode cX6_actOf 47 = .ok (.invokevirtual 121, 3) := by decide +kernel
theorem dX6_actOf_50 : decode cX6_actOf 50 = .ok (.aload_n 0, 1) := by decide +kernel
theorem dX6_actOf_51 : decode cX6_actOf 51 = .ok (.getfield 39, 3) := by decide +kernel
theorem dX6_actOf_54 : decode cX6_actOf 54 = .ok (.iload_n 3, 1) := by decide +kernel
theorem dX6_actOf_55 : decode cX6_actOf 55 = .ok (.iaload, 1) := by decide +kernel
theorem dX6_actOf_56 : decode cX6_actOf 56 = .ok (.if_icmp .eq 9, 3) := by decide +kernel
theorem dX6_actOf_59 : decode cX6_actOf 59 = .ok (.iinc 4 1, 3) := by decide +kernel
theorem dX6_actOf_62 : decode cX6_actOf 62 = .ok (.goto (-20), 3) := by decide +kernel
theorem dX6_actOf_65 : decode cX6_actOf 65 = .ok (.aload_n 0, 1) := by decide +kernel
theorem dX6_actOf_66 : decode cX6_actOf 66 = .ok (.getfield 33, 3) := by decide +kernel
theorem dX6_actOf_69 : decode cX6_actOf 69 = .ok (.bipush 24, 2) := by decide +kernel
theorem dX6_actOf_71 : decode cX6_actOf 71 = .ok (.iload_n 3, 1) := by decide +kernel
theorem dX6_actOf_72 : decode cX6_actOf 72 = .ok (.imul, 1) := by decide +kernel
theorem dX6_actOf_73 : decode cX6_actOf 73 = .ok (.iload 4, 2) := by decide +kernel
theorem dX6_actOf_75 : decode cX6_actOf 75 = .ok (.iadd, 1) := by decide +kernel
theorem dX6_actOf_76 : decode cX6_actOf 76 = .ok (.iaload, 1) := by decide +kernel
theorem dX6_actOf_77 : decode cX6_actOf 77 = .ok (.istore_n 3, 1) := by decide +kernel
theorem dX6_actOf_78 : decode cX6_actOf 78 = .ok (.iinc 5 1, 3) := by decide +kernel
theorem dX6_actOf_81 : decode cX6_actOf 81 = .ok (.goto (-70), 3) := by decide +kernel
theorem dX6_actOf_84 : decode cX6_actOf 84 = .ok (.iload 4, 2) := by decide +kernel
theorem dX6_actOf_86 : decode cX6_actOf 86 = .ok (.ireturn, 1) := by decide +kernel
set_option maxRecDepth 20000 in
theorem ggX6_fewest_X6_isAim : GoodIn wsX6_fewest wsX6_isAim := goodIn_r _ [8, 9, 10, 11, 7, 12, 13, 14, 15, 16, 66, 67, 68, 69, 70, 71, 72, 73, 74, 75, 76, 77, 78, 79, 80, 81, 82, 83, 84, 85, 86, 87, 88, 89, 90, 91, 92, 93] (by decide +kernel) (by decide +kernel)
set_option maxRecDepth 20000 in
theorem gX6_fewest_X6_isAim : GoodIn wsX6_fewest (wsV RX6 125 RX6 yX6_isAim wsX6_isAim) := goodIn_app (goodIn_of _ (by decide +kernel)) ggX6_fewest_X6_isAim
set_option maxRecDepth 20000 in
theorem ggX6_fewest_X6_findCosts : GoodIn wsX6_fewest wsX6_findCosts := goodIn_r _ [20, 2, 1, 3, 21, 22, 23, 7, 24, 13, 25, 26, 27, 28, 29, 30, 31, 32, 33, 34, 35, 36, 37, 38, 39, 40, 41, 42, 43, 44, 45, 46, 47, 48, 49, 50, 51, 52, 53, 54, 55, 56, 57, 58, 59, 60, 61, 62, 63, 64, 65, 66, 67, 68, 69, 70, 71, 72, 73, 74, 75, 76, 77, 78, 79, 80, 81, 82, 83, 84, 85, 86, 87, 88, 89, 90, 91, 92, 93] (by decide +kernel) (by decide +kernel)
set_option maxRecDepth 20000 in
theorem gX6_fewest_X6_findCosts : GoodIn wsX6_fewest (wsV RX6 129 RX6 yX6_findCosts wsX6_findCosts) := goodIn_app (goodIn_of _ (by decide +kernel)) ggX6_fewest_X6_findCosts
theorem dX6_fewest_0 : decode cX6_fewest 0 = .ok (.aload_n 0, 1) := by decide +kernel
theorem dX6_fewest_1 : decode cX6_fewest 1 = .ok (.iload_n 1, 1) := by decide +kernel
theorem dX6_fewest_2 : decode cX6_fewest 2 = .ok (.iload_n 2, 1) := by decide +kernel
theorem dX6_fewest_3 : decode cX6_fewest 3 = .ok (.invokevirtual 125, 3) := by decide +kernel
theorem dX6_fewest_6 : decode cX6_fewest 6 = .ok (.ifCond .ne 6, 3) := by decide +kernel
theorem dX6_fewest_9 : decode cX6_fewest 9 = .ok (.bipush (-2), 2) := by decide +kernel
theorem dX6_fewest_11 : decode cX6_fewest 11 = .ok (.ireturn, 1) := by decide +kernel
theorem dX6_fewest_12 : decode cX6_fewest 12 = .ok (.aload_n 0, 1) := by decide +kernel
theorem dX6_fewest_13 : decode cX6_fewest 13 = .ok (.iload_n 1, 1) := by decide +kernel
theorem dX6_fewest_14 : decode cX6_fewest 14 = .ok (.iload_n 2, 1) := by decide +kernel
theorem dX6_fewest_15 : decode cX6_fewest 15 = .ok (.iconst 0, 1) := by decide +kernel
theorem dX6_fewest_16 : decode cX6_fewest 16 = .ok (.invokevirtual 129, 3) := by decide +kernel
theorem dX6_fewest_19 : decode cX6_fewest 19 = .ok (.aload_n 0, 1) := by decide +kernel
theorem dX6_fewest_20 : decode cX6_fewest 20 = .ok (.getfield 39, 3) := by decide +kernel
theorem dX6_fewest_23 : decode cX6_fewest 23 = .ok (.aload_n 0, 1) := by decide +kernel
theorem dX6_fewest_24 : decode cX6_fewest 24 = .ok (.getfield 112, 3) := by decide +kernel
theorem dX6_fewest_27 : decode cX6_fewest 27 = .ok (.iaload, 1) := by decide +kernel
theorem dX6_fewest_28 : decode cX6_fewest 28 = .ok (.ldc 111, 2) := by decide +kernel
theorem dX6_fewest_30 : decode cX6_fewest 30 = .ok (.if_icmp .ne 7, 3) := by decide +kernel
theorem dX6_fewest_33 : decode cX6_fewest 33 = .ok (.iconst (-1), 1) := by decide +kernel
theorem dX6_fewest_34 : decode cX6_fewest 34 = .ok (.goto 12, 3) := by decide +kernel
theorem dX6_fewest_37 : decode cX6_fewest 37 = .ok (.aload_n 0, 1) := by decide +kernel
theorem dX6_fewest_38 : decode cX6_fewest 38 = .ok (.getfield 39, 3) := by decide +kernel
theorem dX6_fewest_41 : decode cX6_fewest 41 = .ok (.aload_n 0, 1) := by decide +kernel
theorem dX6_fewest_42 : decode cX6_fewest 42 = .ok (.getfield 112, 3) := by decide +kernel
theorem dX6_fewest_45 : decode cX6_fewest 45 = .ok (.iaload, 1) := by decide +kernel
theorem dX6_fewest_46 : decode cX6_fewest 46 = .ok (.ireturn, 1) := by decide +kernel
set_option maxRecDepth 20000 in
theorem ggX6_rows_X6_isAim : GoodIn wsX6_rows wsX6_isAim := goodIn_r _ [12, 13, 14, 15, 11, 16, 17, 18, 19, 20, 69, 70, 71, 72, 73, 74, 75, 76, 77, 78, 79, 80, 81, 82, 83, 84, 85, 86, 87, 88, 89, 90, 91, 92, 93, 94, 95, 96] (by decide +kernel) (by decide +kernel)
set_option maxRecDepth 20000 in
theorem gX6_rows_X6_isAim : GoodIn wsX6_rows (wsV RX6 125 RX6 yX6_isAim wsX6_isAim) := goodIn_app (goodIn_of _ (by decide +kernel)) ggX6_rows_X6_isAim
set_option maxRecDepth 20000 in
theorem ggX6_rows_X6_findCosts : GoodIn wsX6_rows wsX6_findCosts := goodIn_r _ [24, 3, 2, 4, 25, 26, 27, 11, 28, 17, 29, 30, 31, 32, 33, 34, 35, 36, 37, 38, 39, 40, 41, 42, 43, 44, 45, 6, 46, 47, 48, 49, 50, 51, 52, 53, 54, 55, 56, 57, 58, 59, 60, 61, 62, 63, 64, 65, 66, 67, 68, 69, 70, 71, 72, 73, 74, 75, 76, 77, 78, 79, 80, 81, 82, 83, 84, 85, 86, 87, 88, 89, 90, 91, 92, 93, 94, 95, 96] (by decide +kernel) (by decide +kernel)
set_option maxRecDepth 20000 in
theorem gX6_rows_X6_findCosts : GoodIn wsX6_rows (wsV RX6 129 RX6 yX6_findCosts wsX6_findCosts) := goodIn_app (goodIn_of _ (by decide +kernel)) ggX6_rows_X6_findCosts
set_option maxRecDepth 20000 in
theorem ggX6_rows_X6_stateMany : GoodIn wsX6_rows wsX6_stateMany := goodIn_r _ [51, 29, 34, 69, 70, 71, 72, 73, 74, 75, 76, 77, 78, 79, 80, 81, 82, 83, 84, 85, 86, 87, 88, 89, 90, 91, 92, 93, 94, 95, 96] (by decide +kernel) (by decide +kernel)
set_option maxRecDepth 20000 in
theorem gX6_rows_X6_stateMany : GoodIn wsX6_rows (wsV RX6 100 RX6 yX6_stateMany wsX6_stateMany) := goodIn_app (goodIn_of _ (by decide +kernel)) ggX6_rows_X6_stateMany
set_option maxRecDepth 20000 in
theorem ggX6_rows_X6_costBy : GoodIn wsX6_rows wsX6_costBy := goodIn_r _ [68, 6, 2, 4, 46, 69, 70, 71, 72, 73, 74, 75, 76, 77, 78, 79, 80, 81, 82, 83, 84, 85, 86, 87, 88, 89, 90, 91, 92, 93, 94, 95, 96] (by decide +kernel) (by decide +kernel)
set_option maxRecDepth 20000 in
theorem gX6_rows_X6_costBy : GoodIn wsX6_rows (wsV RX6 121 RX6 yX6_costBy wsX6_costBy) := goodIn_app (goodIn_of _ (by decide +kernel)) ggX6_rows_X6_costBy
theorem dX6_rows_0 : decode cX6_rows 0 = .ok (.aload_n 0, 1) := by decide +kernel
theorem dX6_rows_1 : decode cX6_rows 1 = .ok (.iload_n 1, 1) := by decide +kernel
theorem dX6_rows_2 : decode cX6_rows 2 = .ok (.iload_n 2, 1) := by decide +kernel
theorem dX6_rows_3 : decode cX6_rows 3 = .ok (.invokevirtual 125, 3) := by decide +kernel
theorem dX6_rows_6 : decode cX6_rows 6 = .ok (.ifCond .ne 7, 3) := by decide +kernel
theorem dX6_rows_9 : decode cX6_rows 9 = .ok (.ldc2_w 133, 3) := by decide +kernel
theorem dX6_rows_12 : decode cX6_rows 12 = .ok (.lreturn, 1) := by decide +kernel
theorem dX6_rows_13 : decode cX6_rows 13 = .ok (.aload_n 0, 1) := by decide +kernel
theorem dX6_rows_14 : decode cX6_rows 14 = .ok (.iload_n 1, 1) := by decide +kernel
theorem dX6_rows_15 : decode cX6_rows 15 = .ok (.iload_n 2, 1) := by decide +kernel
theorem dX6_rows_16 : decode cX6_rows 16 = .ok (.iconst 0, 1) := by decide +kernel
theorem dX6_rows_17 : decode cX6_rows 17 = .ok (.invokevirtual 129, 3) := by decide +kernel
theorem dX6_rows_20 : decode cX6_rows 20 = .ok (.aload_n 0, 1) := by decide +kernel
theorem dX6_rows_21 : decode cX6_rows 21 = .ok (.getfield 39, 3) := by decide +kernel
theorem dX6_rows_24 : decode cX6_rows 24 = .ok (.aload_n 0, 1) := by decide +kernel
theorem dX6_rows_25 : decode cX6_rows 25 = .ok (.getfield 112, 3) := by decide +kernel
theorem dX6_rows_28 : decode cX6_rows 28 = .ok (.iaload, 1) := by decide +kernel
theorem dX6_rows_29 : decode cX6_rows 29 = .ok (.ldc 111, 2) := by decide +kernel
theorem dX6_rows_31 : decode cX6_rows 31 = .ok (.if_icmp .ne 5, 3) := by decide +kernel
theorem dX6_rows_34 : decode cX6_rows 34 = .ok (.lconst 0, 1) := by decide +kernel
theorem dX6_rows_35 : decode cX6_rows 35 = .ok (.lreturn, 1) := by decide +kernel
theorem dX6_rows_36 : decode cX6_rows 36 = .ok (.aload_n 0, 1) := by decide +kernel
theorem dX6_rows_37 : decode cX6_rows 37 = .ok (.invokevirtual 100, 3) := by decide +kernel
theorem dX6_rows_40 : decode cX6_rows 40 = .ok (.istore_n 3, 1) := by decide +kernel
theorem dX6_rows_41 : decode cX6_rows 41 = .ok (.iconst 0, 1) := by decide +kernel
theorem dX6_rows_42 : decode cX6_rows 42 = .ok (.istore 4, 2) := by decide +kernel
theorem dX6_rows_44 : decode cX6_rows 44 = .ok (.iload 4, 2) := by decide +kernel
theorem dX6_rows_46 : decode cX6_rows 46 = .ok (.aload_n 0, 1) := by decide +kernel
theorem dX6_rows_47 : decode cX6_rows 47 = .ok (.getfield 39, 3) := by decide +kernel
theorem dX6_rows_50 : decode cX6_rows 50 = .ok (.aload_n 0, 1) := by decide +kernel
theorem dX6_rows_51 : decode cX6_rows 51 = .ok (.getfield 112, 3) := by decide +kernel
theorem dX6_rows_54 : decode cX6_rows 54 = .ok (.iaload, 1) := by decide +kernel
theorem dX6_rows_55 : decode cX6_rows 55 = .ok (.if_icmp .gt 138, 3) := by decide +kernel
theorem dX6_rows_58 : decode cX6_rows 58 = .ok (.iconst 0, 1) := by decide +kernel
theorem dX6_rows_59 : decode cX6_rows 59 = .ok (.istore 5, 2) := by decide +kernel
theorem dX6_rows_61 : decode cX6_rows 61 = .ok (.iload 5, 2) := by decide +kernel
theorem dX6_rows_63 : decode cX6_rows 63 = .ok (.iload_n 3, 1) := by decide +kernel
theorem dX6_rows_64 : decode cX6_rows 64 = .ok (.if_icmp .ge 123, 3) := by decide +kernel
theorem dX6_rows_67 : decode cX6_rows 67 = .ok (.aload_n 0, 1) := by decide +kernel
theorem dX6_rows_68 : decode cX6_rows 68 = .ok (.getfield 39, 3) := by decide +kernel
theorem dX6_rows_71 : decode cX6_rows 71 = .ok (.iload 5, 2) := by decide +kernel
theorem dX6_rows_73 : decode cX6_rows 73 = .ok (.iaload, 1) := by decide +kernel
theorem dX6_rows_74 : decode cX6_rows 74 = .ok (.iload 4, 2) := by decide +kernel
theorem dX6_rows_76 : decode cX6_rows 76 = .ok (.if_icmp .ne 105, 3) := by decide +kernel
theorem dX6_rows_79 : decode cX6_rows 79 = .ok (.iload 4, 2) := by decide +kernel
theorem dX6_rows_81 : decode cX6_rows 81 = .ok (.ifCond .ne 7, 3) := by decide +kernel
theorem dX6_rows_84 : decode cX6_rows 84 = .ok (.lconst 1, 1) := by decide +kernel
theorem dX6_rows_85 : decode cX6_rows 85 = .ok (.goto 4, 3) := by decide +kernel
theorem dX6_rows_88 : decode cX6_rows 88 = .ok (.lconst 0, 1) := by decide +kernel
theorem dX6_rows_89 : decode cX6_rows 89 = .ok (.lstore 6, 2) := by decide +kernel
theorem dX6_rows_91 : decode cX6_rows 91 = .ok (.iconst 0, 1) := by decide +kernel
theorem dX6_rows_92 : decode cX6_rows 92 = .ok (.istore 8, 2) := by decide +kernel
theorem dX6_rows_94 : decode cX6_rows 94 = .ok (.iload 8, 2) := by decide +kernel
theorem dX6_rows_96 : decode cX6_rows 96 = .ok (.bipush 24, 2) := by decide +kernel
theorem dX6_rows_98 : decode cX6_rows 98 = .ok (.if_icmp .ge 74, 3) := by decide +kernel
theorem dX6_rows_101 : decode cX6_rows 101 = .ok (.iload 4, 2) := by decide +kernel
theorem dX6_rows_103 : decode cX6_rows 103 = .ok (.ifCond .le 69, 3) := by decide +kernel
theorem dX6_rows_106 : decode cX6_rows 106 = .ok (.lload 6, 2) := by decide +kernel
theorem dX6_rows_108 : decode cX6_rows 108 = .ok (.aload_n 0, 1) := by decide +kernel
theorem dX6_rows_109 : decode cX6_rows 109 = .ok (.iload 5, 2) := by decide +kernel
theorem dX6_rows_111 : decode cX6_rows 111 = .ok (.iload 8, 2) := by decide +kernel
theorem dX6_rows_113 : decode cX6_rows 113 = .ok (.iconst 0, 1) := by decide +kernel
theorem dX6_rows_114 : decode cX6_rows 114 = .ok (.invokevirtual 121, 3) := by decide +kernel
