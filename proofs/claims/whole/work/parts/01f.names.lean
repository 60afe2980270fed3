theorem dX6_rows_117 : decode cX6_rows 117 = .ok (.iload 4, 2) := by decide +kernel
theorem dX6_rows_119 : decode cX6_rows 119 = .ok (.if_icmp .ne 24, 3) := by decide +kernel
theorem dX6_rows_122 : decode cX6_rows 122 = .ok (.aload_n 0, 1) := by decide +kernel
theorem dX6_rows_123 : decode cX6_rows 123 = .ok (.getfield 42, 3) := by decide +kernel
theorem dX6_rows_126 : decode cX6_rows 126 = .ok (.aload_n 0, 1) := by decide +kernel
theorem dX6_rows_127 : decode cX6_rows 127 = .ok (.getfield 33, 3) := by decide +kernel
theorem dX6_rows_130 : decode cX6_rows 130 = .ok (.bipush 24, 2) := by decide +kernel
theorem dX6_rows_132 : decode cX6_rows 132 = .ok (.iload 5, 2) := by decide +kernel
theorem dX6_rows_134 : decode cX6_rows 134 = .ok (.imul, 1) := by decide +kernel
theorem dX6_rows_135 : decode cX6_rows 135 = .ok (.iload 8, 2) := by decide +kernel
theorem dX6_rows_137 : decode cX6_rows 137 = .ok (.iadd, 1) := by decide +kernel
theorem dX6_rows_138 : decode cX6_rows 138 = .ok (.iaload, 1) := by decide +kernel
theorem dX6_rows_139 : decode cX6_rows 139 = .ok (.laload, 1) := by decide +kernel
theorem dX6_rows_140 : decode cX6_rows 140 = .ok (.goto 4, 3) := by decide +kernel
theorem dX6_rows_143 : decode cX6_rows 143 = .ok (.lconst 0, 1) := by decide +kernel
theorem dX6_rows_144 : decode cX6_rows 144 = .ok (.ladd, 1) := by decide +kernel
theorem dX6_rows_145 : decode cX6_rows 145 = .ok (.lstore 6, 2) := by decide +kernel
theorem dX6_rows_147 : decode cX6_rows 147 = .ok (.lload 6, 2) := by decide +kernel
theorem dX6_rows_149 : decode cX6_rows 149 = .ok (.ldc2_w 135, 3) := by decide +kernel
theorem dX6_rows_152 : decode cX6_rows 152 = .ok (.lcmp, 1) := by decide +kernel
theorem dX6_rows_153 : decode cX6_rows 153 = .ok (.ifCond .le 9, 3) := by decide +kernel
theorem dX6_rows_156 : decode cX6_rows 156 = .ok (.ldc2_w 135, 3) := by decide +kernel
theorem dX6_rows_159 : decode cX6_rows 159 = .ok (.goto 5, 3) := by decide +kernel
theorem dX6_rows_162 : decode cX6_rows 162 = .ok (.lload 6, 2) := by decide +kernel
theorem dX6_rows_164 : decode cX6_rows 164 = .ok (.lstore 6, 2) := by decide +kernel
theorem dX6_rows_166 : decode cX6_rows 166 = .ok (.iinc 8 1, 3) := by decide +kernel
theorem dX6_rows_169 : decode cX6_rows 169 = .ok (.goto (-75), 3) := by decide +kernel
theorem dX6_rows_172 : decode cX6_rows 172 = .ok (.aload_n 0, 1) := by decide +kernel
theorem dX6_rows_173 : decode cX6_rows 173 = .ok (.getfield 42, 3) := by decide +kernel
theorem dX6_rows_176 : decode cX6_rows 176 = .ok (.iload 5, 2) := by decide +kernel
theorem dX6_rows_178 : decode cX6_rows 178 = .ok (.lload 6, 2) := by decide +kernel
theorem dX6_rows_180 : decode cX6_rows 180 = .ok (.lastore, 1) := by decide +kernel
theorem dX6_rows_181 : decode cX6_rows 181 = .ok (.iinc 5 1, 3) := by decide +kernel
theorem dX6_rows_184 : decode cX6_rows 184 = .ok (.goto (-123), 3) := by decide +kernel
theorem dX6_rows_187 : decode cX6_rows 187 = .ok (.iinc 4 1, 3) := by decide +kernel
theorem dX6_rows_190 : decode cX6_rows 190 = .ok (.goto (-146), 3) := by decide +kernel
theorem dX6_rows_193 : decode cX6_rows 193 = .ok (.aload_n 0, 1) := by decide +kernel
theorem dX6_rows_194 : decode cX6_rows 194 = .ok (.getfield 42, 3) := by decide +kernel
theorem dX6_rows_197 : decode cX6_rows 197 = .ok (.aload_n 0, 1) := by decide +kernel
theorem dX6_rows_198 : decode cX6_rows 198 = .ok (.getfield 112, 3) := by decide +kernel
theorem dX6_rows_201 : decode cX6_rows 201 = .ok (.laload, 1) := by decide +kernel
theorem dX6_rows_202 : decode cX6_rows 202 = .ok (.lreturn, 1) := by decide +kernel
set_option maxRecDepth 20000 in
theorem ggX6_best_X6_isAim : GoodIn wsX6_best wsX6_isAim := goodIn_r _ [5, 6, 7, 8, 4, 9, 10, 11, 12, 13, 70, 71, 72, 73, 74, 75, 76, 77, 78, 79, 80, 81, 82, 83, 84, 85, 86, 87, 88, 89, 90, 91, 92, 93, 94, 95, 96, 97] (by decide +kernel) (by decide +kernel)
set_option maxRecDepth 20000 in
theorem gX6_best_X6_isAim : GoodIn wsX6_best (wsV RX6 125 RX6 yX6_isAim wsX6_isAim) := goodIn_app (goodIn_of _ (by decide +kernel)) ggX6_best_X6_isAim
set_option maxRecDepth 20000 in
theorem ggX6_best_X6_findCosts : GoodIn wsX6_best wsX6_findCosts := goodIn_r _ [17, 18, 19, 20, 21, 22, 23, 4, 24, 10, 25, 26, 27, 28, 29, 30, 31, 32, 33, 34, 35, 36, 37, 38, 39, 40, 41, 42, 43, 44, 45, 46, 47, 48, 49, 50, 51, 52, 53, 54, 55, 56, 57, 58, 59, 60, 61, 62, 63, 64, 65, 70, 71, 72, 73, 74, 75, 76, 77, 78, 79, 80, 81, 82, 83, 84, 85, 86, 87, 88, 89, 90, 91, 92, 93, 94, 95, 96, 97] (by decide +kernel) (by decide +kernel)
set_option maxRecDepth 20000 in
theorem gX6_best_X6_findCosts : GoodIn wsX6_best (wsV RX6 129 RX6 yX6_findCosts wsX6_findCosts) := goodIn_app (goodIn_of _ (by decide +kernel)) ggX6_best_X6_findCosts
set_option maxRecDepth 20000 in
theorem ggX6_best_X6_actOf : GoodIn wsX6_best wsX6_actOf := goodIn_r _ [69, 18, 19, 20, 42, 62, 63, 64, 4, 65, 43, 70, 71, 72, 73, 74, 75, 76, 77, 78, 79, 80, 81, 82, 83, 84, 85, 86, 87, 88, 89, 90, 91, 92, 93, 94, 95, 96, 97] (by decide +kernel) (by decide +kernel)
set_option maxRecDepth 20000 in
theorem gX6_best_X6_actOf : GoodIn wsX6_best (wsV RX6 137 RX6 yX6_actOf wsX6_actOf) := goodIn_app (goodIn_of _ (by decide +kernel)) ggX6_best_X6_actOf
theorem dX6_best_0 : decode cX6_best 0 = .ok (.aload_n 0, 1) := by decide +kernel
theorem dX6_best_1 : decode cX6_best 1 = .ok (.iload_n 1, 1) := by decide +kernel
theorem dX6_best_2 : decode cX6_best 2 = .ok (.iload_n 2, 1) := by decide +kernel
theorem dX6_best_3 : decode cX6_best 3 = .ok (.invokevirtual 125, 3) := by decide +kernel
theorem dX6_best_6 : decode cX6_best 6 = .ok (.ifCond .eq 7, 3) := by decide +kernel
theorem dX6_best_9 : decode cX6_best 9 = .ok (.iload_n 3, 1) := by decide +kernel
theorem dX6_best_10 : decode cX6_best 10 = .ok (.ifCond .ge 6, 3) := by decide +kernel
theorem dX6_best_13 : decode cX6_best 13 = .ok (.bipush (-2), 2) := by decide +kernel
theorem dX6_best_15 : decode cX6_best 15 = .ok (.ireturn, 1) := by decide +kernel
theorem dX6_best_16 : decode cX6_best 16 = .ok (.aload_n 0, 1) := by decide +kernel
theorem dX6_best_17 : decode cX6_best 17 = .ok (.iload_n 1, 1) := by decide +kernel
theorem dX6_best_18 : decode cX6_best 18 = .ok (.iload_n 2, 1) := by decide +kernel
theorem dX6_best_19 : decode cX6_best 19 = .ok (.iconst 0, 1) := by decide +kernel
theorem dX6_best_20 : decode cX6_best 20 = .ok (.invokevirtual 129, 3) := by decide +kernel
theorem dX6_best_23 : decode cX6_best 23 = .ok (.iload_n 3, 1) := by decide +kernel
theorem dX6_best_24 : decode cX6_best 24 = .ok (.sipush 14641, 3) := by decide +kernel
theorem dX6_best_27 : decode cX6_best 27 = .ok (.if_icmp .lt 7, 3) := by decide +kernel
theorem dX6_best_30 : decode cX6_best 30 = .ok (.iconst (-1), 1) := by decide +kernel
theorem dX6_best_31 : decode cX6_best 31 = .ok (.goto 9, 3) := by decide +kernel
theorem dX6_best_34 : decode cX6_best 34 = .ok (.aload_n 0, 1) := by decide +kernel
theorem dX6_best_35 : decode cX6_best 35 = .ok (.iload_n 3, 1) := by decide +kernel
theorem dX6_best_36 : decode cX6_best 36 = .ok (.iconst 0, 1) := by decide +kernel
theorem dX6_best_37 : decode cX6_best 37 = .ok (.invokevirtual 137, 3) := by decide +kernel
theorem dX6_best_40 : decode cX6_best 40 = .ok (.ireturn, 1) := by decide +kernel
set_option maxRecDepth 20000 in
theorem ggX6_sparing_X6_isAim : GoodIn wsX6_sparing wsX6_isAim := goodIn_r _ [8, 9, 10, 11, 7, 12, 13, 14, 15, 16, 66, 67, 68, 69, 70, 71, 72, 73, 74, 75, 76, 77, 78, 79, 80, 81, 82, 83, 84, 85, 86, 87, 88, 89, 90, 91, 92, 93] (by decide +kernel) (by decide +kernel)
set_option maxRecDepth 20000 in
theorem gX6_sparing_X6_isAim : GoodIn wsX6_sparing (wsV RX6 125 RX6 yX6_isAim wsX6_isAim) := goodIn_app (goodIn_of _ (by decide +kernel)) ggX6_sparing_X6_isAim
set_option maxRecDepth 20000 in
theorem ggX6_sparing_X6_in : GoodIn wsX6_sparing wsX6_in := goodIn_r _ [16] (by decide +kernel) (by decide +kernel)
set_option maxRecDepth 20000 in
theorem gX6_sparing_X6_in : GoodIn wsX6_sparing (va_wsS RX6 71 yX6_in wsX6_in) := goodIn_app (goodIn_of _ (by decide +kernel)) ggX6_sparing_X6_in
set_option maxRecDepth 20000 in
theorem ggX6_sparing_X6_findCosts : GoodIn wsX6_sparing wsX6_findCosts := goodIn_r _ [20, 2, 1, 3, 21, 22, 23, 7, 24, 13, 25, 26, 27, 28, 29, 30, 31, 32, 33, 34, 35, 36, 37, 38, 39, 40, 41, 42, 43, 44, 45, 46, 47, 48, 49, 50, 51, 52, 53, 54, 55, 56, 57, 58, 59, 60, 61, 62, 63, 64, 65, 66, 67, 68, 69, 70, 71, 72, 73, 74, 75, 76, 77, 78, 79, 80, 81, 82, 83, 84, 85, 86, 87, 88, 89, 90, 91, 92, 93] (by decide +kernel) (by decide +kernel)
set_option maxRecDepth 20000 in
theorem gX6_sparing_X6_findCosts : GoodIn wsX6_sparing (wsV RX6 129 RX6 yX6_findCosts wsX6_findCosts) := goodIn_app (goodIn_of _ (by decide +kernel)) ggX6_sparing_X6_findCosts
theorem dX6_sparing_0 : decode cX6_sparing 0 = .ok (.aload_n 0, 1) := by decide +kernel
theorem dX6_sparing_1 : decode cX6_sparing 1 = .ok (.iload_n 1, 1) := by decide +kernel
theorem dX6_sparing_2 : decode cX6_sparing 2 = .ok (.iload_n 2, 1) := by decide +kernel
theorem dX6_sparing_3 : decode cX6_sparing 3 = .ok (.invokevirtual 125, 3) := by decide +kernel
theorem dX6_sparing_6 : decode cX6_sparing 6 = .ok (.ifCond .eq 12, 3) := by decide +kernel
theorem dX6_sparing_9 : decode cX6_sparing 9 = .ok (.iload_n 3, 1) := by decide +kernel
theorem dX6_sparing_10 : decode cX6_sparing 10 = .ok (.iconst 0, 1) := by decide +kernel
theorem dX6_sparing_11 : decode cX6_sparing 11 = .ok (.iconst 1, 1) := by decide +kernel
theorem dX6_sparing_12 : decode cX6_sparing 12 = .ok (.invokestatic 71, 3) := by decide +kernel
theorem dX6_sparing_15 : decode cX6_sparing 15 = .ok (.ifCond .ne 6, 3) := by decide +kernel
theorem dX6_sparing_18 : decode cX6_sparing 18 = .ok (.bipush (-2), 2) := by decide +kernel
theorem dX6_sparing_20 : decode cX6_sparing 20 = .ok (.ireturn, 1) := by decide +kernel
theorem dX6_sparing_21 : decode cX6_sparing 21 = .ok (.aload_n 0, 1) := by decide +kernel
theorem dX6_sparing_22 : decode cX6_sparing 22 = .ok (.iload_n 1, 1) := by decide +kernel
theorem dX6_sparing_23 : decode cX6_sparing 23 = .ok (.iload_n 2, 1) := by decide +kernel
theorem dX6_sparing_24 : decode cX6_sparing 24 = .ok (.sipush 20000, 3) := by decide +kernel
theorem dX6_sparing_27 : decode cX6_sparing 27 = .ok (.invokevirtual 129, 3) := by decide +kernel
theorem dX6_sparing_30 : decode cX6_sparing 30 = .ok (.aload_n 0, 1) := by decide +kernel
theorem dX6_sparing_31 : decode cX6_sparing 31 = .ok (.getfield 39, 3) := by decide +kernel
theorem dX6_sparing_34 : decode cX6_sparing 34 = .ok (.aload_n 0, 1) := by decide +kernel
theorem dX6_sparing_35 : decode cX6_sparing 35 = .ok (.getfield 112, 3) := by decide +kernel
theorem dX6_sparing_38 : decode cX6_sparing 38 = .ok (.iaload, 1) := by decide +kernel
theorem dX6_sparing_39 : decode cX6_sparing 39 = .ok (.istore 4, 2) := by decide +kernel
theorem dX6_sparing_41 : decode cX6_sparing 41 = .ok (.iload 4, 2) := by decide +kernel
theorem dX6_sparing_43 : decode cX6_sparing 43 = .ok (.ldc 111, 2) := by decide +kernel
theorem dX6_sparing_45 : decode cX6_sparing 45 = .ok (.if_icmp .ne 7, 3) := by decide +kernel
theorem dX6_sparing_48 : decode cX6_sparing 48 = .ok (.iconst (-1), 1) := by decide +kernel
theorem dX6_sparing_49 : decode cX6_sparing 49 = .ok (.goto 22, 3) := by decide +kernel
theorem dX6_sparing_52 : decode cX6_sparing 52 = .ok (.iload_n 3, 1) := by decide +kernel
theorem dX6_sparing_53 : decode cX6_sparing 53 = .ok (.ifCond .ne 12, 3) := by decide +kernel
theorem dX6_sparing_56 : decode cX6_sparing 56 = .ok (.iload 4, 2) := by decide +kernel
theorem dX6_sparing_58 : decode cX6_sparing 58 = .ok (.sipush 20000, 3) := by decide +kernel
theorem dX6_sparing_61 : decode cX6_sparing 61 = .ok (.idiv, 1) := by decide +kernel
theorem dX6_sparing_62 : decode cX6_sparing 62 = .ok (.goto 9, 3) := by decide +kernel
theorem dX6_sparing_65 : decode cX6_sparing 65 = .ok (.iload 4, 2) := by decide +kernel
theorem dX6_sparing_67 : decode cX6_sparing 67 = .ok (.sipush 20000, 3) := by decide +kernel
theorem dX6_sparing_70 : decode cX6_sparing 70 = .ok (.irem, 1) := by decide +kernel
theorem dX6_sparing_71 : decode cX6_sparing 71 = .ok (.ireturn, 1) := by decide +kernel
set_option maxRecDepth 20000 in
theorem ggX6_spare_X6_isAim : GoodIn wsX6_spare wsX6_isAim := goodIn_r _ [5, 6, 7, 8, 4, 9, 10, 11, 12, 13, 70, 71, 72, 73, 74, 75, 76, 77, 78, 79, 80, 81, 82, 83, 84, 85, 86, 87, 88, 89, 90, 91, 92, 93, 94, 95, 96, 97] (by decide +kernel) (by decide +kernel)
set_option maxRecDepth 20000 in
theorem gX6_spare_X6_isAim : GoodIn wsX6_spare (wsV RX6 125 RX6 yX6_isAim wsX6_isAim) := goodIn_app (goodIn_of _ (by decide +kernel)) ggX6_spare_X6_isAim
set_option maxRecDepth 20000 in
theorem ggX6_spare_X6_findCosts : GoodIn wsX6_spare wsX6_findCosts := goodIn_r _ [17, 18, 19, 20, 21, 22, 23, 4, 24, 10, 25, 26, 27, 28, 29, 30, 31, 32, 33, 34, 35, 36, 37, 38, 39, 40, 41, 42, 43, 44, 45, 46, 47, 48, 49, 50, 51, 52, 53, 54, 55, 56, 57, 58, 59, 60, 61, 62, 63, 64, 65, 70, 71, 72, 73, 74, 75, 76, 77, 78, 79, 80, 81, 82, 83, 84, 85, 86, 87, 88, 89, 90, 91, 92, 93, 94, 95, 96, 97] (by decide +kernel) (by decide +kernel)
set_option maxRecDepth 20000 in
theorem gX6_spare_X6_findCosts : GoodIn wsX6_spare (wsV RX6 129 RX6 yX6_findCosts wsX6_findCosts) := goodIn_app (goodIn_of _ (by decide +kernel)) ggX6_spare_X6_findCosts
set_option maxRecDepth 20000 in
theorem ggX6_spare_X6_actOf : GoodIn wsX6_spare wsX6_actOf := goodIn_r _ [69, 18, 19, 20, 42, 62, 63, 64, 4, 65, 43, 70, 71, 72, 73, 74, 75, 76, 77, 78, 79, 80, 81, 82, 83, 84, 85, 86, 87, 88, 89, 90, 91, 92, 93, 94, 95, 96, 97] (by decide +kernel) (by decide +kernel)
set_option maxRecDepth 20000 in
theorem gX6_spare_X6_actOf : GoodIn wsX6_spare (wsV RX6 137 RX6 yX6_actOf wsX6_actOf) := goodIn_app (goodIn_of _ (by decide +kernel)) ggX6_spare_X6_actOf
theorem dX6_spare_0 : decode cX6_spare 0 = .ok (.aload_n 0, 1) := by decide +kernel
theorem dX6_spare_1 : decode cX6_spare 1 = .ok (.iload_n 1, 1) := by decide +kernel
theorem dX6_spare_2 : decode cX6_spare 2 = .ok (.iload_n 2, 1) := by decide +kernel
theorem dX6_spare_3 : decode cX6_spare 3 = .ok (.invokevirtual 125, 3) := by decide +kernel
theorem dX6_spare_6 : decode cX6_spare 6 = .ok (.ifCond .eq 7, 3) := by decide +kernel
theorem dX6_spare_9 : decode cX6_spare 9 = .ok (.iload_n 3, 1) := by decide +kernel
theorem dX6_spare_10 : decode cX6_spare 10 = .ok (.ifCond .ge 6, 3) := by decide +kernel
theorem dX6_spare_13 : decode cX6_spare 13 = .ok (.bipush (-2), 2) := by decide +kernel
theorem dX6_spare_15 : decode cX6_spare 15 = .ok (.ireturn, 1) := by decide +kernel
theorem dX6_spare_16 : decode cX6_spare 16 = .ok (.aload_n 0, 1) := by decide +kernel
theorem dX6_spare_17 : decode cX6_spare 17 = .ok (.iload_n 1, 1) := by decide +kernel
theorem dX6_spare_18 : decode cX6_spare 18 = .ok (.iload_n 2, 1) := by decide +kernel
theorem dX6_spare_19 : decode cX6_spare 19 = .ok (.sipush 20000, 3) := by decide +kernel
theorem dX6_spare_22 : decode cX6_spare 22 = .ok (.invokevirtual 129, 3) := by decide +kernel
theorem dX6_spare_25 : decode cX6_spare 25 = .ok (.iload_n 3, 1) := by decide +kernel
theorem dX6_spare_26 : decode cX6_spare 26 = .ok (.sipush 14641, 3) := by decide +kernel
theorem dX6_spare_29 : decode cX6_spare 29 = .ok (.if_icmp .lt 7, 3) := by decide +kernel
theorem dX6_spare_32 : decode cX6_spare 32 = .ok (.iconst (-1), 1) := by decide +kernel
theorem dX6_spare_33 : decode cX6_spare 33 = .ok (.goto 11, 3) := by decide +kernel
theorem dX6_spare_36 : decode cX6_spare 36 = .ok (.aload_n 0, 1) := by decide +kernel
theorem dX6_spare_37 : decode cX6_spare 37 = .ok (.iload_n 3, 1) := by decide +kernel
theorem dX6_spare_38 : decode cX6_spare 38 = .ok (.sipush 20000, 3) := by decide +kernel
theorem dX6_spare_41 : decode cX6_spare 41 = .ok (.invokevirtual 137, 3) := by decide +kernel
theorem dX6_spare_44 : decode cX6_spare 44 = .ok (.ireturn, 1) := by decide +kernel
set_option maxRecDepth 20000 in
theorem ggX6_reach_X6_stateMany : GoodIn wsX6_reach wsX6_stateMany := goodIn_r _ [7, 8, 9, 27, 28, 29, 30, 31, 32, 33, 34, 35, 36, 37, 38, 39, 40, 41, 42, 43, 44, 45, 46, 47, 48, 49, 50, 51, 52, 53, 54] (by decide +kernel) (by decide +kernel)
set_option maxRecDepth 20000 in
theorem gX6_reach_X6_stateMany : GoodIn wsX6_reach (wsV RX6 100 RX6 yX6_stateMany wsX6_stateMany) := goodIn_app (goodIn_of _ (by decide +kernel)) ggX6_reach_X6_stateMany
set_option maxRecDepth 20000 in
theorem ggX6_reach_X6_layState : GoodIn wsX6_reach wsX6_layState := goodIn_r _ [13, 8, 14, 9, 27, 28, 29, 30, 31, 32, 33, 34, 35, 36, 37, 38, 39, 40, 41, 42, 43, 44, 45, 46, 47, 48, 49, 50, 51, 52, 53, 54] (by decide +kernel) (by decide +kernel)
set_option maxRecDepth 20000 in
theorem gX6_reach_X6_layState : GoodIn wsX6_reach (wsV RX6 104 RX6 yX6_layState wsX6_layState) := goodIn_app (goodIn_of _ (by decide +kernel)) ggX6_reach_X6_layState
set_option maxRecDepth 20000 in
theorem ggX6_reach_X6_does : GoodIn wsX6_reach wsX6_does := goodIn_r _ [18, 8, 19, 20, 9, 14, 21, 22, 27, 28, 29, 30, 31, 32, 33, 34, 35, 36, 37, 38, 39, 40, 41, 42, 43, 44, 45, 46, 47, 48, 49, 50, 51, 52, 53, 54] (by decide +kernel) (by decide +kernel)
set_option maxRecDepth 20000 in
theorem gX6_reach_X6_does : GoodIn wsX6_reach (wsV RX6 97 RX6 yX6_does wsX6_does) := goodIn_app (goodIn_of _ (by decide +kernel)) ggX6_reach_X6_does
set_option maxRecDepth 20000 in
theorem ggX6_reach_X6_numberOf : GoodIn wsX6_reach wsX6_numberOf := goodIn_r _ [26, 8, 9, 14, 27, 28, 29, 30, 31, 32, 33, 34, 35, 36, 37, 38, 39, 40, 41, 42, 43, 44, 45, 46, 47, 48, 49, 50, 51, 52, 53, 54] (by decide +kernel) (by decide +kernel)
set_option maxRecDepth 20000 in
theorem gX6_reach_X6_numberOf : GoodIn wsX6_reach (wsV RX6 108 RX6 yX6_numberOf wsX6_numberOf) := goodIn_app (goodIn_of _ (by decide +kernel)) ggX6_reach_X6_numberOf
theorem dX6_reach_0 : decode cX6_reach 0 = .ok (.aload_n 0, 1) := by decide +kernel
theorem dX6_reach_1 : decode cX6_reach 1 = .ok (.invokevirtual 100, 3) := by decide +kernel
theorem dX6_reach_4 : decode cX6_reach 4 = .ok (.istore_n 2, 1) := by decide +kernel
theorem dX6_reach_5 : decode cX6_reach 5 = .ok (.iconst 0, 1) := by decide +kernel
theorem dX6_reach_6 : decode cX6_reach 6 = .ok (.istore_n 3, 1) := by decide +kernel
theorem dX6_reach_7 : decode cX6_reach 7 = .ok (.iload_n 3, 1) := by decide +kernel
theorem dX6_reach_8 : decode cX6_reach 8 = .ok (.iload_n 2, 1) := by decide +kernel
theorem dX6_reach_9 : decode cX6_reach 9 = .ok (.if_icmp .ge 16, 3) := by decide +kernel
theorem dX6_reach_12 : decode cX6_reach 12 = .ok (.aload_n 0, 1) := by decide +kernel
theorem dX6_reach_13 : decode cX6_reach 13 = .ok (.getfield 46, 3) := by decide +kernel
theorem dX6_reach_16 : decode cX6_reach 16 = .ok (.iload_n 3, 1) := by decide +kernel
theorem dX6_reach_17 : decode cX6_reach 17 = .ok (.iconst 0, 1) := by decide +kernel
theorem dX6_reach_18 : decode cX6_reach 18 = .ok (.bastore, 1) := by decide +kernel
theorem dX6_reach_19 : decode cX6_reach 19 = .ok (.iinc 3 1, 3) := by decide +kernel
theorem dX6_reach_22 : decode cX6_reach 22 = .ok (.goto (-15), 3) := by decide +kernel
theorem dX6_reach_25 : decode cX6_reach 25 = .ok (.aload_n 0, 1) := by decide +kernel
theorem dX6_reach_26 : decode cX6_reach 26 = .ok (.getfield 46, 3) := by decide +kernel
theorem dX6_reach_29 : decode cX6_reach 29 = .ok (.iload_n 1, 1) := by decide +kernel
theorem dX6_reach_30 : decode cX6_reach 30 = .ok (.iconst 1, 1) := by decide +kernel
theorem dX6_reach_31 : decode cX6_reach 31 = .ok (.bastore, 1) := by decide +kernel
theorem dX6_reach_32 : decode cX6_reach 32 = .ok (.aload_n 0, 1) := by decide +kernel
theorem dX6_reach_33 : decode cX6_reach 33 = .ok (.getfield 50, 3) := by decide +kernel
theorem dX6_reach_36 : decode cX6_reach 36 = .ok (.iconst 0, 1) := by decide +kernel
theorem dX6_reach_37 : decode cX6_reach 37 = .ok (.iload_n 1, 1) := by decide +kernel
theorem dX6_reach_38 : decode cX6_reach 38 = .ok (.iastore, 1) := by decide +kernel
theorem dX6_reach_39 : decode cX6_reach 39 = .ok (.iconst 1, 1) := by decide +kernel
theorem dX6_reach_40 : decode cX6_reach 40 = .ok (.istore_n 3, 1) := by decide +kernel
theorem dX6_reach_41 : decode cX6_reach 41 = .ok (.iconst 0, 1) := by decide +kernel
theorem dX6_reach_42 : decode cX6_reach 42 = .ok (.istore 4, 2) := by decide +kernel
theorem dX6_reach_44 : decode cX6_reach 44 = .ok (.iload 4, 2) := by decide +kernel
theorem dX6_reach_46 : decode cX6_reach 46 = .ok (.iload_n 3, 1) := by decide +kernel
theorem dX6_reach_47 : decode cX6_reach 47 = .ok (.if_icmp .ge 80, 3) := by decide +kernel
theorem dX6_reach_50 : decode cX6_reach 50 = .ok (.iconst 0, 1) := by decide +kernel
theorem dX6_reach_51 : decode cX6_reach 51 = .ok (.istore 5, 2) := by decide +kernel
theorem dX6_reach_53 : decode cX6_reach 53 = .ok (.iload 5, 2) := by decide +kernel
theorem dX6_reach_55 : decode cX6_reach 55 = .ok (.bipush 24, 2) := by decide +kernel
theorem dX6_reach_57 : decode cX6_reach 57 = .ok (.if_icmp .ge 64, 3) := by decide +kernel
theorem dX6_reach_60 : decode cX6_reach 60 = .ok (.aload_n 0, 1) := by decide +kernel
theorem dX6_reach_61 : decode cX6_reach 61 = .ok (.aload_n 0, 1) := by decide +kernel
theorem dX6_reach_62 : decode cX6_reach 62 = .ok (.getfield 50, 3) := by decide +kernel
theorem dX6_reach_65 : decode cX6_reach 65 = .ok (.iload 4, 2) := by decide +kernel
theorem dX6_reach_67 : decode cX6_reach 67 = .ok (.iaload, 1) := by decide +kernel
theorem dX6_reach_68 : decode cX6_reach 68 = .ok (.invokevirtual 104, 3) := by decide +kernel
theorem dX6_reach_71 : decode cX6_reach 71 = .ok (.aload_n 0, 1) := by decide +kernel
theorem dX6_reach_72 : decode cX6_reach 72 = .ok (.iload 5, 2) := by decide +kernel
theorem dX6_reach_74 : decode cX6_reach 74 = .ok (.invokevirtual 97, 3) := by decide +kernel
theorem dX6_reach_77 : decode cX6_reach 77 = .ok (.ifCond .eq 38, 3) := by decide +kernel
theorem dX6_reach_80 : decode cX6_reach 80 = .ok (.aload_n 0, 1) := by decide +kernel
theorem dX6_reach_81 : decode cX6_reach 81 = .ok (.invokevirtual 108, 3) := by decide +kernel
theorem dX6_reach_84 : decode cX6_reach 84 = .ok (.istore 6, 2) := by decide +kernel
theorem dX6_reach_86 : decode cX6_reach 86 = .ok (.aload_n 0, 1) := by decide +kernel
theorem dX6_reach_87 : decode cX6_reach 87 = .ok (.getfield 46, 3) := by decide +kernel
theorem dX6_reach_90 : decode cX6_reach 90 = .ok (.iload 6, 2) := by decide +kernel
theorem dX6_reach_92 : decode cX6_reach 92 = .ok (.baload, 1) := by decide +kernel
theorem dX6_reach_93 : decode cX6_reach 93 = .ok (.ifCond .ne 22, 3) := by decide +kernel
theorem dX6_reach_96 : decode cX6_reach 96 = .ok (.aload_n 0, 1) := by decide +kernel
theorem dX6_reach_97 : decode cX6_reach 97 = .ok (.getfield 46, 3) := by decide +kernel
theorem dX6_reach_100 : decode cX6_reach 100 = .ok (.iload 6, 2) := by decide +kernel
theorem dX6_reach_102 : decode cX6_reach 102 = .ok (.iconst 1, 1) := by decide +kernel
theorem dX6_reach_103 : decode cX6_reach 103 = .ok (.bastore, 1) := by decide +kernel
theorem dX6_reach_104 : decode cX6_reach 104 = .ok (.aload_n 0, 1) := by decide +kernel
theorem dX6_reach_105 : decode cX6_reach 105 = .ok (.getfield 50, 3) := by decide +kernel
theorem dX6_reach_108 : decode cX6_reach 108 = .ok (.iload_n 3, 1) := by decide +kernel
theorem dX6_reach_109 : decode cX6_reach 109 = .ok (.iload 6, 2) := by decide +kernel
theorem dX6_reach_111 : decode cX6_reach 111 = .ok (.iastore, 1) := by decide +kernel
theorem dX6_reach_112 : decode cX6_reach 112 = .ok (.iinc 3 1, 3) := by decide +kernel
theorem dX6_reach_115 : decode cX6_reach 115 = .ok (.iinc 5 1, 3) := by decide +kernel
theorem dX6_reach_118 : decode cX6_reach 118 = .ok (.goto (-65), 3) := by decide +kernel
theorem dX6_reach_121 : decode cX6_reach 121 = .ok (.iinc 4 1, 3) := by decide +kernel
theorem dX6_reach_124 : decode cX6_reach 124 = .ok (.goto (-80), 3) := by decide +kernel
theorem dX6_reach_127 : decode cX6_reach 127 = .ok (.iload_n 3, 1) := by decide +kernel
theorem dX6_reach_128 : decode cX6_reach 128 = .ok (.ireturn, 1) := by decide +kernel
set_option maxRecDepth 20000 in
theorem ggX6_madeBy_X6_layState : GoodIn wsX6_madeBy wsX6_layState := goodIn_r _ [8, 2, 3, 9, 10, 11, 12, 13, 14, 15, 16, 17, 18, 19, 20, 21, 22, 23, 24, 25, 26, 27, 28, 29, 30, 31, 32, 33, 34, 35, 36, 37] (by decide +kernel) (by decide +kernel)
set_option maxRecDepth 20000 in
theorem gX6_madeBy_X6_layState : GoodIn wsX6_madeBy (wsV RX6 104 RX6 yX6_layState wsX6_layState) := goodIn_app (goodIn_of _ (by decide +kernel)) ggX6_madeBy_X6_layState
theorem dX6_madeBy_0 : decode cX6_madeBy 0 = .ok (.iconst 0, 1) := by decide +kernel
theorem dX6_madeBy_1 : decode cX6_madeBy 1 = .ok (.istore_n 2, 1) := by decide +kernel
theorem dX6_madeBy_2 : decode cX6_madeBy 2 = .ok (.iconst 0, 1) := by decide +kernel
theorem dX6_madeBy_3 : decode cX6_madeBy 3 = .ok (.istore_n 3, 1) := by decide +kernel
theorem dX6_madeBy_4 : decode cX6_madeBy 4 = .ok (.iload_n 3, 1) := by decide +kernel
theorem dX6_madeBy_5 : decode cX6_madeBy 5 = .ok (.iload_n 1, 1) := by decide +kernel
theorem dX6_madeBy_6 : decode cX6_madeBy 6 = .ok (.if_icmp .ge 49, 3) := by decide +kernel
theorem dX6_madeBy_9 : decode cX6_madeBy 9 = .ok (.aload_n 0, 1) := by decide +kernel
theorem dX6_madeBy_10 : decode cX6_madeBy 10 = .ok (.aload_n 0, 1) := by decide +kernel
theorem dX6_madeBy_11 : decode cX6_madeBy 11 = .ok (.getfield 50, 3) := by decide +kernel
theorem dX6_madeBy_14 : decode cX6_madeBy 14 = .ok (.iload_n 3, 1) := by decide +kernel
theorem dX6_madeBy_15 : decode cX6_madeBy 15 = .ok (.iaload, 1) := by decide +kernel
theorem dX6_madeBy_16 : decode cX6_madeBy 16 = .ok (.invokevirtual 104, 3) := by decide +kernel
theorem dX6_madeBy_19 : decode cX6_madeBy 19 = .ok (.iconst 0, 1) := by decide +kernel
theorem dX6_madeBy_20 : decode cX6_madeBy 20 = .ok (.istore 4, 2) := by decide +kernel
theorem dX6_madeBy_22 : decode cX6_madeBy 22 = .ok (.iload 4, 2) := by decide +kernel
theorem dX6_madeBy_24 : decode cX6_madeBy 24 = .ok (.aload_n 0, 1) := by decide +kernel
theorem dX6_madeBy_25 : decode cX6_madeBy 25 = .ok (.getfield 79, 3) := by decide +kernel
theorem dX6_madeBy_28 : decode cX6_madeBy 28 = .ok (.if_icmp .ge 21, 3) := by decide +kernel
theorem dX6_madeBy_31 : decode cX6_madeBy 31 = .ok (.iload_n 2, 1) := by decide +kernel
theorem dX6_madeBy_32 : decode cX6_madeBy 32 = .ok (.iconst 1, 1) := by decide +kernel
theorem dX6_madeBy_33 : decode cX6_madeBy 33 = .ok (.aload_n 0, 1) := by decide +kernel
theorem dX6_madeBy_34 : decode cX6_madeBy 34 = .ok (.getfield 29, 3) := by decide +kernel
theorem dX6_madeBy_37 : decode cX6_madeBy 37 = .ok (.iload 4, 2) := by decide +kernel
theorem dX6_madeBy_39 : decode cX6_madeBy 39 = .ok (.iaload, 1) := by decide +kernel
theorem dX6_madeBy_40 : decode cX6_madeBy 40 = .ok (.ishl, 1) := by decide +kernel
theorem dX6_madeBy_41 : decode cX6_madeBy 41 = .ok (.ior, 1) := by decide +kernel
theorem dX6_madeBy_42 : decode cX6_madeBy 42 = .ok (.istore_n 2, 1) := by decide +kernel
theorem dX6_madeBy_43 : decode cX6_madeBy 43 = .ok (.iinc 4 1, 3) := by decide +kernel
theorem dX6_madeBy_46 : decode cX6_madeBy 46 = .ok (.goto (-24), 3) := by decide +kernel
theorem dX6_madeBy_49 : decode cX6_madeBy 49 = .ok (.iinc 3 1, 3) := by decide +kernel
theorem dX6_madeBy_52 : decode cX6_madeBy 52 = .ok (.goto (-48), 3) := by decide +kernel
theorem dX6_madeBy_55 : decode cX6_madeBy 55 = .ok (.iload_n 2, 1) := by decide +kernel
theorem dX6_madeBy_56 : decode cX6_madeBy 56 = .ok (.ireturn, 1) := by decide +kernel
set_option maxRecDepth 20000 in
theorem ggX6_makes_X6_tryOwn : GoodIn wsX6_makes wsX6_tryOwn := goodIn_r _ [5, 6, 7, 8, 9, 10, 11, 12, 13, 14, 15, 44, 45, 46, 47, 48, 49, 50, 51, 52, 53, 54, 55, 56, 57, 58, 59, 60, 61, 62, 63, 64, 65, 66, 67, 68, 69, 70, 71] (by decide +kernel) (by decide +kernel)
set_option maxRecDepth 20000 in
theorem gX6_makes_X6_tryOwn : GoodIn wsX6_makes (wsV RX6 94 RX6 yX6_tryOwn wsX6_tryOwn) := goodIn_app (goodIn_of _ (by decide +kernel)) ggX6_makes_X6_tryOwn
set_option maxRecDepth 20000 in
theorem ggX6_makes_X6_numberOf : GoodIn wsX6_makes wsX6_numberOf := goodIn_r _ [19, 7, 12, 14, 44, 45, 46, 47, 48, 49, 50, 51, 52, 53, 54, 55, 56, 57, 58, 59, 60, 61, 62, 63, 64, 65, 66, 67, 68, 69, 70, 71] (by decide +kernel) (by decide +kernel)
set_option maxRecDepth 20000 in
theorem gX6_makes_X6_numberOf : GoodIn wsX6_makes (wsV RX6 108 RX6 yX6_numberOf wsX6_numberOf) := goodIn_app (goodIn_of _ (by decide +kernel)) ggX6_makes_X6_numberOf
set_option maxRecDepth 20000 in
theorem ggX6_makes_X6_reach : GoodIn wsX6_makes wsX6_reach := goodIn_r _ [23, 24, 25, 26, 27, 28, 4, 29, 7, 12, 30, 31, 32, 33, 14, 34, 35, 36, 37, 38, 9, 39, 11, 16, 17, 18, 19, 44, 45, 46, 47, 48, 49, 50, 51, 52, 53, 54, 55, 56, 57, 58, 59, 60, 61, 62, 63, 64, 65, 66, 67, 68, 69, 70, 71] (by decide +kernel) (by decide +kernel)
set_option maxRecDepth 20000 in
theorem gX6_makes_X6_reach : GoodIn wsX6_makes (wsV RX6 141 RX6 yX6_reach wsX6_reach) := goodIn_app (goodIn_of _ (by decide +kernel)) ggX6_makes_X6_reach
set_option maxRecDepth 20000 in
theorem ggX6_makes_X6_madeBy : GoodIn wsX6_makes wsX6_madeBy := goodIn_r _ [43, 25, 7, 14, 30, 31, 32, 4, 33, 12, 44, 45, 46, 47, 48, 49, 50, 51, 52, 53, 54, 55, 56, 57, 58, 59, 60, 61, 62, 63, 64, 65, 66, 67, 68, 69, 70, 71] (by decide +kernel) (by decide +kernel)
set_option maxRecDepth 20000 in
theorem gX6_makes_X6_madeBy : GoodIn wsX6_makes (wsV RX6 145 RX6 yX6_madeBy wsX6_madeBy) := goodIn_app (goodIn_of _ (by decide +kernel)) ggX6_makes_X6_madeBy
theorem dX6_makes_0 : decode cX6_makes 0 = .ok (.aload_n 0, 1) := by decide +kernel
theorem dX6_makes_1 : decode cX6_makes 1 = .ok (.invokevirtual 94, 3) := by decide +kernel
theorem dX6_makes_4 : decode cX6_makes 4 = .ok (.aload_n 0, 1) := by decide +kernel
theorem dX6_makes_5 : decode cX6_makes 5 = .ok (.aload_n 0, 1) := by decide +kernel
theorem dX6_makes_6 : decode cX6_makes 6 = .ok (.aload_n 0, 1) := by decide +kernel
theorem dX6_makes_7 : decode cX6_makes 7 = .ok (.invokevirtual 108, 3) := by decide +kernel
theorem dX6_makes_10 : decode cX6_makes 10 = .ok (.invokevirtual 141, 3) := by decide +kernel
theorem dX6_makes_13 : decode cX6_makes 13 = .ok (.invokevirtual 145, 3) := by decide +kernel
theorem dX6_makes_16 : decode cX6_makes 16 = .ok (.ireturn, 1) := by decide +kernel
set_option maxRecDepth 20000 in
theorem ggX6_reaches_X6_tryOwn : GoodIn wsX6_reaches wsX6_tryOwn := goodIn_r _ [5, 6, 7, 8, 9, 10, 11, 12, 13, 14, 15, 40, 41, 42, 43, 44, 45, 46, 47, 48, 49, 50, 51, 52, 53, 54, 55, 56, 57, 58, 59, 60, 61, 62, 63, 64, 65, 66, 67] (by decide +kernel) (by decide +kernel)
set_option maxRecDepth 20000 in
theorem gX6_reaches_X6_tryOwn : GoodIn wsX6_reaches (wsV RX6 94 RX6 yX6_tryOwn wsX6_tryOwn) := goodIn_app (goodIn_of _ (by decide +kernel)) ggX6_reaches_X6_tryOwn
set_option maxRecDepth 20000 in
theorem ggX6_reaches_X6_numberOf : GoodIn wsX6_reaches wsX6_numberOf := goodIn_r _ [19, 7, 12, 14, 40, 41, 42, 43, 44, 45, 46, 47, 48, 49, 50, 51, 52, 53, 54, 55, 56, 57, 58, 59, 60, 61, 62, 63, 64, 65, 66, 67] (by decide +kernel) (by decide +kernel)
set_option maxRecDepth 20000 in
theorem gX6_reaches_X6_numberOf : GoodIn wsX6_reaches (wsV RX6 108 RX6 yX6_numberOf wsX6_numberOf) := goodIn_app (goodIn_of _ (by decide +kernel)) ggX6_reaches_X6_numberOf
set_option maxRecDepth 20000 in
theorem ggX6_reaches_X6_reach : GoodIn wsX6_reaches wsX6_reach := goodIn_r _ [23, 24, 25, 26, 27, 28, 4, 29, 7, 12, 30, 31, 32, 33, 14, 34, 35, 36, 37, 38, 9, 39, 11, 16, 17, 18, 19, 40, 41, 42, 43, 44, 45, 46, 47, 48, 49, 50, 51, 52, 53, 54, 55, 56, 57, 58, 59, 60, 61, 62, 63, 64, 65, 66, 67] (by decide +kernel) (by decide +kernel)
set_option maxRecDepth 20000 in
theorem gX6_reaches_X6_reach : GoodIn wsX6_reaches (wsV RX6 141 RX6 yX6_reach wsX6_reach) := goodIn_app (goodIn_of _ (by decide +kernel)) ggX6_reaches_X6_reach
theorem dX6_reaches_0 : decode cX6_reaches 0 = .ok (.aload_n 0, 1) := by decide +kernel
theorem dX6_reaches_1 : decode cX6_reaches 1 = .ok (.invokevirtual 94, 3) := by decide +kernel
theorem dX6_reaches_4 : decode cX6_reaches 4 = .ok (.aload_n 0, 1) := by decide +kernel
theorem dX6_reaches_5 : decode cX6_reaches 5 = .ok (.aload_n 0, 1) := by decide +kernel
theorem dX6_reaches_6 : decode cX6_reaches 6 = .ok (.invokevirtual 108, 3) := by decide +kernel
theorem dX6_reaches_9 : decode cX6_reaches 9 = .ok (.invokevirtual 141, 3) := by decide +kernel
theorem dX6_reaches_12 : decode cX6_reaches 12 = .ok (.ireturn, 1) := by decide +kernel
set_option maxRecDepth 20000 in
theorem ggX6_road_X6_isJug : GoodIn wsX6_road wsX6_isJug := goodIn_r _ [7, 1, 8, 9, 6, 10, 11, 12, 13, 14, 15, 16, 17, 18, 19, 20, 21, 22, 23, 24, 25, 26, 27, 28, 29, 30, 31, 32, 33, 34, 35, 36, 37, 38] (by decide +kernel) (by decide +kernel)
set_option maxRecDepth 20000 in
theorem gX6_road_X6_isJug : GoodIn wsX6_road (wsV RX6 75 RX6 yX6_isJug wsX6_isJug) := goodIn_app (goodIn_of _ (by decide +kernel)) ggX6_road_X6_isJug
set_option maxRecDepth 20000 in
theorem ggX6_road_X6_in : GoodIn wsX6_road wsX6_in := goodIn_r _ [10] (by decide +kernel) (by decide +kernel)
set_option maxRecDepth 20000 in
theorem gX6_road_X6_in : GoodIn wsX6_road (va_wsS RX6 71 yX6_in wsX6_in) := goodIn_app (goodIn_of _ (by decide +kernel)) ggX6_road_X6_in
theorem dX6_road_0 : decode cX6_road 0 = .ok (.aload_n 0, 1) := by decide +kernel
theorem dX6_road_1 : decode cX6_road 1 = .ok (.iload_n 1, 1) := by decide +kernel
theorem dX6_road_2 : decode cX6_road 2 = .ok (.invokevirtual 75, 3) := by decide +kernel
theorem dX6_road_5 : decode cX6_road 5 = .ok (.ifCond .eq 13, 3) := by decide +kernel
theorem dX6_road_8 : decode cX6_road 8 = .ok (.iload_n 2, 1) := by decide +kernel
theorem dX6_road_9 : decode cX6_road 9 = .ok (.iconst 1, 1) := by decide +kernel
theorem dX6_road_10 : decode cX6_road 10 = .ok (.bipush 10, 2) := by decide +kernel
theorem dX6_road_12 : decode cX6_road 12 = .ok (.invokestatic 71, 3) := by decide +kernel
theorem dX6_road_15 : decode cX6_road 15 = .ok (.ifCond .ne 6, 3) := by decide +kernel
theorem dX6_road_18 : decode cX6_road 18 = .ok (.bipush (-2), 2) := by decide +kernel
theorem dX6_road_20 : decode cX6_road 20 = .ok (.ireturn, 1) := by decide +kernel
theorem dX6_road_21 : decode cX6_road 21 = .ok (.aload_n 0, 1) := by decide +kernel
theorem dX6_road_22 : decode cX6_road 22 = .ok (.getfield 67, 3) := by decide +kernel
theorem dX6_road_25 : decode cX6_road 25 = .ok (.iconst 2, 1) := by decide +kernel
theorem dX6_road_26 : decode cX6_road 26 = .ok (.if_icmp .eq 6, 3) := by decide +kernel
theorem dX6_road_29 : decode cX6_road 29 = .ok (.bipush (-3), 2) := by decide +kernel
theorem dX6_road_31 : decode cX6_road 31 = .ok (.ireturn, 1) := by decide +kernel
theorem dX6_road_32 : decode cX6_road 32 = .ok (.iconst 1, 1) := by decide +kernel
theorem dX6_road_33 : decode cX6_road 33 = .ok (.iload_n 1, 1) := by decide +kernel
theorem dX6_road_34 : decode cX6_road 34 = .ok (.isub, 1) := by decide +kernel
theorem dX6_road_35 : decode cX6_road 35 = .ok (.istore_n 3, 1) := by decide +kernel
theorem dX6_road_36 : decode cX6_road 36 = .ok (.iconst 0, 1) := by decide +kernel
theorem dX6_road_37 : decode cX6_road 37 = .ok (.istore 4, 2) := by decide +kernel
theorem dX6_road_39 : decode cX6_road 39 = .ok (.iconst 0, 1) := by decide +kernel
theorem dX6_road_40 : decode cX6_road 40 = .ok (.istore 5, 2) := by decide +kernel
theorem dX6_road_42 : decode cX6_road 42 = .ok (.iconst 0, 1) := by decide +kernel
theorem dX6_road_43 : decode cX6_road 43 = .ok (.istore 6, 2) := by decide +kernel
theorem dX6_road_45 : decode cX6_road 45 = .ok (.iload 5, 2) := by decide +kernel
theorem dX6_road_47 : decode cX6_road 47 = .ok (.aload_n 0, 1) := by decide +kernel
theorem dX6_road_48 : decode cX6_road 48 = .ok (.getfield 7, 3) := by decide +kernel
theorem dX6_road_51 : decode cX6_road 51 = .ok (.iload_n 3, 1) := by decide +kernel
theorem dX6_road_52 : decode cX6_road 52 = .ok (.iaload, 1) := by decide +kernel
theorem dX6_road_53 : decode cX6_road 53 = .ok (.if_icmp .ne 9, 3) := by decide +kernel
theorem dX6_road_56 : decode cX6_road 56 = .ok (.iconst 0, 1) := by decide +kernel
theorem dX6_road_57 : decode cX6_road 57 = .ok (.istore 5, 2) := by decide +kernel
theorem dX6_road_59 : decode cX6_road 59 = .ok (.goto 63, 3) := by decide +kernel
theorem dX6_road_62 : decode cX6_road 62 = .ok (.iload 4, 2) := by decide +kernel
theorem dX6_road_64 : decode cX6_road 64 = .ok (.ifCond .ne 14, 3) := by decide +kernel
theorem dX6_road_67 : decode cX6_road 67 = .ok (.aload_n 0, 1) := by decide +kernel
theorem dX6_road_68 : decode cX6_road 68 = .ok (.getfield 7, 3) := by decide +kernel
theorem dX6_road_71 : decode cX6_road 71 = .ok (.iload_n 1, 1) := by decide +kernel
theorem dX6_road_72 : decode cX6_road 72 = .ok (.iaload, 1) := by decide +kernel
theorem dX6_road_73 : decode cX6_road 73 = .ok (.istore 4, 2) := by decide +kernel
theorem dX6_road_75 : decode cX6_road 75 = .ok (.goto 47, 3) := by decide +kernel
theorem dX6_road_78 : decode cX6_road 78 = .ok (.iload 4, 2) := by decide +kernel
theorem dX6_road_80 : decode cX6_road 80 = .ok (.aload_n 0, 1) := by decide +kernel
theorem dX6_road_81 : decode cX6_road 81 = .ok (.getfield 7, 3) := by decide +kernel
theorem dX6_road_84 : decode cX6_road 84 = .ok (.iload_n 3, 1) := by decide +kernel
theorem dX6_road_85 : decode cX6_road 85 = .ok (.iaload, 1) := by decide +kernel
theorem dX6_road_86 : decode cX6_road 86 = .ok (.iload 5, 2) := by decide +kernel
theorem dX6_road_88 : decode cX6_road 88 = .ok (.isub, 1) := by decide +kernel
theorem dX6_road_89 : decode cX6_road 89 = .ok (.if_icmp .ge 8, 3) := by decide +kernel
theorem dX6_road_92 : decode cX6_road 92 = .ok (.iload 4, 2) := by decide +kernel
theorem dX6_road_94 : decode cX6_road 94 = .ok (.goto 12, 3) := by decide +kernel
theorem dX6_road_97 : decode cX6_road 97 = .ok (.aload_n 0, 1) := by decide +kernel
theorem dX6_road_98 : decode cX6_road 98 = .ok (.getfield 7, 3) := by decide +kernel
theorem dX6_road_101 : decode cX6_road 101 = .ok (.iload_n 3, 1) := by decide +kernel
theorem dX6_road_102 : decode cX6_road 102 = .ok (.iaload, 1) := by decide +kernel
theorem dX6_road_103 : decode cX6_road 103 = .ok (.iload 5, 2) := by decide +kernel
theorem dX6_road_105 : decode cX6_road 105 = .ok (.isub, 1) := by decide +kernel
theorem dX6_road_106 : decode cX6_road 106 = .ok (.istore 7, 2) := by decide +kernel
theorem dX6_road_108 : decode cX6_road 108 = .ok (.iload 4, 2) := by decide +kernel
theorem dX6_road_110 : decode cX6_road 110 = .ok (.iload 7, 2) := by decide +kernel
theorem dX6_road_112 : decode cX6_road 112 = .ok (.isub, 1) := by decide +kernel
theorem dX6_road_113 : decode cX6_road 113 = .ok (.istore 4, 2) := by decide +kernel
theorem dX6_road_115 : decode cX6_road 115 = .ok (.iload 5, 2) := by decide +kernel
theorem dX6_road_117 : decode cX6_road 117 = .ok (.iload 7, 2) := by decide +kernel
theorem dX6_road_119 : decode cX6_road 119 = .ok (.iadd, 1) := by decide +kernel
theorem dX6_road_120 : decode cX6_road 120 = .ok (.istore 5, 2) := by decide +kernel
theorem dX6_road_122 : decode cX6_road 122 = .ok (.iinc 6 1, 3) := by decide +kernel
theorem dX6_road_125 : decode cX6_road 125 = .ok (.iload 4, 2) := by decide +kernel
theorem dX6_road_127 : decode cX6_road 127 = .ok (.iload_n 2, 1) := by decide +kernel
theorem dX6_road_128 : decode cX6_road 128 = .ok (.if_icmp .eq 9, 3) := by decide +kernel
theorem dX6_road_131 : decode cX6_road 131 = .ok (.iload 5, 2) := by decide +kernel
theorem dX6_road_133 : decode cX6_road 133 = .ok (.iload_n 2, 1) := by decide +kernel
theorem dX6_road_134 : decode cX6_road 134 = .ok (.if_icmp .ne 6, 3) := by decide +kernel
theorem dX6_road_137 : decode cX6_road 137 = .ok (.iload 6, 2) := by decide +kernel
theorem dX6_road_139 : decode cX6_road 139 = .ok (.ireturn, 1) := by decide +kernel
theorem dX6_road_140 : decode cX6_road 140 = .ok (.iload 4, 2) := by decide +kernel
theorem dX6_road_142 : decode cX6_road 142 = .ok (.ifCond .ne (-97), 3) := by decide +kernel
theorem dX6_road_145 : decode cX6_road 145 = .ok (.iload 5, 2) := by decide +kernel
theorem dX6_road_147 : decode cX6_road 147 = .ok (.ifCond .ne (-102), 3) := by decide +kernel
theorem dX6_road_150 : decode cX6_road 150 = .ok (.iconst (-1), 1) := by decide +kernel
theorem dX6_road_151 : decode cX6_road 151 = .ok (.ireturn, 1) := by decide +kernel
set_option maxRecDepth 20000 in
theorem ggX6_makesAll_X6_numberOf : GoodIn wsX6_makesAll wsX6_numberOf := goodIn_r _ [7, 1, 8, 2, 35, 36, 37, 38, 39, 40, 41, 42, 43, 44, 45, 46, 47, 48, 49, 50, 51, 52, 53, 54, 55, 56, 57, 58, 59, 60, 61, 62] (by decide +kernel) (by decide +kernel)
set_option maxRecDepth 20000 in
theorem gX6_makesAll_X6_numberOf : GoodIn wsX6_makesAll (wsV RX6 108 RX6 yX6_numberOf wsX6_numberOf) := goodIn_app (goodIn_of _ (by decide +kernel)) ggX6_makesAll_X6_numberOf
set_option maxRecDepth 20000 in
theorem ggX6_makesAll_X6_reach : GoodIn wsX6_makesAll wsX6_reach := goodIn_r _ [12, 13, 14, 15, 16, 17, 6, 18, 1, 8, 19, 20, 21, 22, 2, 23, 24, 25, 26, 27, 28, 29, 30, 3, 4, 5, 7, 35, 36, 37, 38, 39, 40, 41, 42, 43, 44, 45, 46, 47, 48, 49, 50, 51, 52, 53, 54, 55, 56, 57, 58, 59, 60, 61, 62] (by decide +kernel) (by decide +kernel)
set_option maxRecDepth 20000 in
theorem gX6_makesAll_X6_reach : GoodIn wsX6_makesAll (wsV RX6 141 RX6 yX6_reach wsX6_reach) := goodIn_app (goodIn_of _ (by decide +kernel)) ggX6_makesAll_X6_reach
set_option maxRecDepth 20000 in
theorem ggX6_makesAll_X6_madeBy : GoodIn wsX6_makesAll wsX6_madeBy := goodIn_r _ [34, 14, 1, 2, 19, 20, 21, 6, 22, 8, 35, 36, 37, 38, 39, 40, 41, 42, 43, 44, 45, 46, 47, 48, 49, 50, 51, 52, 53, 54, 55, 56, 57, 58, 59, 60, 61, 62] (by decide +kernel) (by decide +kernel)
set_option maxRecDepth 20000 in
theorem gX6_makesAll_X6_madeBy : GoodIn wsX6_makesAll (wsV RX6 145 RX6 yX6_madeBy wsX6_madeBy) := goodIn_app (goodIn_of _ (by decide +kernel)) ggX6_makesAll_X6_madeBy
theorem dX6_makesAll_0 : decode cX6_makesAll 0 = .ok (.iconst 0, 1) := by decide +kernel
theorem dX6_makesAll_1 : decode cX6_makesAll 1 = .ok (.istore_n 2, 1) := by decide +kernel
theorem dX6_makesAll_2 : decode cX6_makesAll 2 = .ok (.iload_n 2, 1) := by decide +kernel
theorem dX6_makesAll_3 : decode cX6_makesAll 3 = .ok (.aload_n 0, 1) := by decide +kernel
theorem dX6_makesAll_4 : decode cX6_makesAll 4 = .ok (.getfield 79, 3) := by decide +kernel
theorem dX6_makesAll_7 : decode cX6_makesAll 7 = .ok (.if_icmp .ge 16, 3) := by decide +kernel
theorem dX6_makesAll_10 : decode cX6_makesAll 10 = .ok (.aload_n 0, 1) := by decide +kernel
theorem dX6_makesAll_11 : decode cX6_makesAll 11 = .ok (.getfield 29, 3) := by decide +kernel
theorem dX6_makesAll_14 : decode cX6_makesAll 14 = .ok (.iload_n 2, 1) := by decide +kernel
theorem dX6_makesAll_15 : decode cX6_makesAll 15 = .ok (.iconst 0, 1) := by decide +kernel
theorem dX6_makesAll_16 : decode cX6_makesAll 16 = .ok (.iastore, 1) := by decide +kernel
theorem dX6_makesAll_17 : decode cX6_makesAll 17 = .ok (.iinc 2 1, 3) := by decide +kernel
theorem dX6_makesAll_20 : decode cX6_makesAll 20 = .ok (.goto (-18), 3) := by decide +kernel
theorem dX6_makesAll_23 : decode cX6_makesAll 23 = .ok (.aload_n 0, 1) := by decide +kernel
theorem dX6_makesAll_24 : decode cX6_makesAll 24 = .ok (.aload_n 0, 1) := by decide +kernel
theorem dX6_makesAll_25 : decode cX6_makesAll 25 = .ok (.aload_n 0, 1) := by decide +kernel
theorem dX6_makesAll_26 : decode cX6_makesAll 26 = .ok (.invokevirtual 108, 3) := by decide +kernel
theorem dX6_makesAll_29 : decode cX6_makesAll 29 = .ok (.invokevirtual 141, 3) := by decide +kernel
theorem dX6_makesAll_32 : decode cX6_makesAll 32 = .ok (.invokevirtual 145, 3) := by decide +kernel
theorem dX6_makesAll_35 : decode cX6_makesAll 35 = .ok (.istore_n 2, 1) := by decide +kernel
theorem dX6_makesAll_36 : decode cX6_makesAll 36 = .ok (.iconst 1, 1) := by decide +kernel
theorem dX6_makesAll_37 : decode cX6_makesAll 37 = .ok (.iload_n 1, 1) := by decide +kernel
theorem dX6_makesAll_38 : decode cX6_makesAll 38 = .ok (.iconst 1, 1) := by decide +kernel
theorem dX6_makesAll_39 : decode cX6_makesAll 39 = .ok (.iadd, 1) := by decide +kernel
theorem dX6_makesAll_40 : decode cX6_makesAll 40 = .ok (.ishl, 1) := by decide +kernel
theorem dX6_makesAll_41 : decode cX6_makesAll 41 = .ok (.iconst 2, 1) := by decide +kernel
theorem dX6_makesAll_42 : decode cX6_makesAll 42 = .ok (.isub, 1) := by decide +kernel
theorem dX6_makesAll_43 : decode cX6_makesAll 43 = .ok (.istore_n 3, 1) := by decide +kernel
theorem dX6_makesAll_44 : decode cX6_makesAll 44 = .ok (.iload_n 2, 1) := by decide +kernel
theorem dX6_makesAll_45 : decode cX6_makesAll 45 = .ok (.iload_n 3, 1) := by decide +kernel
theorem dX6_makesAll_46 : decode cX6_makesAll 46 = .ok (.iand, 1) := by decide +kernel
theorem dX6_makesAll_47 : decode cX6_makesAll 47 = .ok (.iload_n 3, 1) := by decide +kernel
theorem dX6_makesAll_48 : decode cX6_makesAll 48 = .ok (.if_icmp .ne 7, 3) := by decide +kernel
theorem dX6_makesAll_51 : decode cX6_makesAll 51 = .ok (.iconst 1, 1) := by decide +kernel
theorem dX6_makesAll_52 : decode cX6_makesAll 52 = .ok (.goto 4, 3) := by decide +kernel
theorem dX6_makesAll_55 : decode cX6_makesAll 55 = .ok (.iconst 0, 1) := by decide +kernel
theorem dX6_makesAll_56 : decode cX6_makesAll 56 = .ok (.ireturn, 1) := by decide +kernel
theorem dX6_doRise_0 : decode cX6_doRise 0 = .ok (.iconst 1, 1) := by decide +kernel
theorem dX6_doRise_1 : decode cX6_doRise 1 = .ok (.istore_n 1, 1) := by decide +kernel
theorem dX6_doRise_2 : decode cX6_doRise 2 = .ok (.iconst 1, 1) := by decide +kernel
theorem dX6_doRise_3 : decode cX6_doRise 3 = .ok (.istore_n 2, 1) := by decide +kernel
theorem dX6_doRise_4 : decode cX6_doRise 4 = .ok (.iload_n 2, 1) := by decide +kernel
theorem dX6_doRise_5 : decode cX6_doRise 5 = .ok (.aload_n 0, 1) := by decide +kernel
theorem dX6_doRise_6 : decode cX6_doRise 6 = .ok (.getfield 79, 3) := by decide +kernel
theorem dX6_doRise_9 : decode cX6_doRise 9 = .ok (.if_icmp .ge 36, 3) := by decide +kernel
theorem dX6_doRise_12 : decode cX6_doRise 12 = .ok (.iload_n 1, 1) := by decide +kernel
theorem dX6_doRise_13 : decode cX6_doRise 13 = .ok (.ifCond .eq 24, 3) := by decide +kernel
theorem dX6_doRise_16 : decode cX6_doRise 16 = .ok (.aload_n 0, 1) := by decide +kernel
theorem dX6_doRise_17 : decode cX6_doRise 17 = .ok (.getfield 26, 3) := by decide +kernel
theorem dX6_doRise_20 : decode cX6_doRise 20 = .ok (.iload_n 2, 1) := by decide +kernel
theorem dX6_doRise_21 : decode cX6_doRise 21 = .ok (.iaload, 1) := by decide +kernel
theorem dX6_doRise_22 : decode cX6_doRise 22 = .ok (.aload_n 0, 1) := by decide +kernel
theorem dX6_doRise_23 : decode cX6_doRise 23 = .ok (.getfield 26, 3) := by decide +kernel
theorem dX6_doRise_26 : decode cX6_doRise 26 = .ok (.iload_n 2, 1) := by decide +kernel
theorem dX6_doRise_27 : decode cX6_doRise 27 = .ok (.iconst 1, 1) := by decide +kernel
theorem dX6_doRise_28 : decode cX6_doRise 28 = .ok (.isub, 1) := by decide +kernel
theorem dX6_doRise_29 : decode cX6_doRise 29 = .ok (.iaload, 1) := by decide +kernel
theorem dX6_doRise_30 : decode cX6_doRise 30 = .ok (.if_icmp .lt 7, 3) := by decide +kernel
theorem dX6_doRise_33 : decode cX6_doRise 33 = .ok (.iconst 1, 1) := by decide +kernel
theorem dX6_doRise_34 : decode cX6_doRise 34 = .ok (.goto 4, 3) := by decide +kernel
theorem dX6_doRise_37 : decode cX6_doRise 37 = .ok (.iconst 0, 1) := by decide +kernel
theorem dX6_doRise_38 : decode cX6_doRise 38 = .ok (.istore_n 1, 1) := by decide +kernel
theorem dX6_doRise_39 : decode cX6_doRise 39 = .ok (.iinc 2 1, 3) := by decide +kernel
theorem dX6_doRise_42 : decode cX6_doRise 42 = .ok (.goto (-38), 3) := by decide +kernel
theorem dX6_doRise_45 : decode cX6_doRise 45 = .ok (.iload_n 1, 1) := by decide +kernel
theorem dX6_doRise_46 : decode cX6_doRise 46 = .ok (.ireturn, 1) := by decide +kernel
set_option maxRecDepth 20000 in
theorem ggX6_sizes_X6_in : GoodIn wsX6_sizes wsX6_in := goodIn_r _ [8] (by decide +kernel) (by decide +kernel)
set_option maxRecDepth 20000 in
theorem gX6_sizes_X6_in : GoodIn wsX6_sizes (va_wsS RX6 71 yX6_in wsX6_in) := goodIn_app (goodIn_of _ (by decide +kernel)) ggX6_sizes_X6_in
set_option maxRecDepth 20000 in
theorem ggX6_sizes_X6_doRise : GoodIn wsX6_sizes wsX6_doRise := goodIn_r _ [12, 1, 4, 46, 47, 48, 49, 50, 51, 52, 53, 54, 55, 56, 57, 58, 59, 60, 61, 62, 63, 64, 65, 66, 67, 68, 69, 70, 71, 72, 73] (by decide +kernel) (by decide +kernel)
set_option maxRecDepth 20000 in
theorem gX6_sizes_X6_doRise : GoodIn wsX6_sizes (wsV RX6 148 RX6 yX6_doRise wsX6_doRise) := goodIn_app (goodIn_of _ (by decide +kernel)) ggX6_sizes_X6_doRise
set_option maxRecDepth 20000 in
theorem ggX6_sizes_X6_makesAll : GoodIn wsX6_sizes wsX6_makesAll := goodIn_r _ [16, 1, 17, 18, 19, 20, 7, 21, 4, 22, 23, 24, 25, 26, 27, 28, 29, 30, 31, 32, 33, 34, 35, 36, 37, 38, 39, 40, 2, 41, 3, 42, 43, 44, 45, 46, 47, 48, 49, 50, 51, 52, 53, 54, 55, 56, 57, 58, 59, 60, 61, 62, 63, 64, 65, 66, 67, 68, 69, 70, 71, 72, 73] (by decide +kernel) (by decide +kernel)
set_option maxRecDepth 20000 in
theorem gX6_sizes_X6_makesAll : GoodIn wsX6_sizes (wsV RX6 152 RX6 yX6_makesAll wsX6_makesAll) := goodIn_app (goodIn_of _ (by decide +kernel)) ggX6_sizes_X6_makesAll
theorem dX6_sizes_0 : decode cX6_sizes 0 = .ok (.iload_n 1, 1) := by decide +kernel
theorem dX6_sizes_1 : decode cX6_sizes 1 = .ok (.iconst 1, 1) := by decide +kernel
theorem dX6_sizes_2 : decode cX6_sizes 2 = .ok (.iconst 3, 1) := by decide +kernel
theorem dX6_sizes_3 : decode cX6_sizes 3 = .ok (.invokestatic 71, 3) := by decide +kernel
theorem dX6_sizes_6 : decode cX6_sizes 6 = .ok (.ifCond .eq 24, 3) := by decide +kernel
theorem dX6_sizes_9 : decode cX6_sizes 9 = .ok (.iload_n 2, 1) := by decide +kernel
theorem dX6_sizes_10 : decode cX6_sizes 10 = .ok (.iconst 1, 1) := by decide +kernel
theorem dX6_sizes_11 : decode cX6_sizes 11 = .ok (.bipush 10, 2) := by decide +kernel
theorem dX6_sizes_13 : decode cX6_sizes 13 = .ok (.invokestatic 71, 3) := by decide +kernel
theorem dX6_sizes_16 : decode cX6_sizes 16 = .ok (.ifCond .eq 14, 3) := by decide +kernel
theorem dX6_sizes_19 : decode cX6_sizes 19 = .ok (.iload_n 3, 1) := by decide +kernel
theorem dX6_sizes_20 : decode cX6_sizes 20 = .ok (.iconst 0, 1) := by decide +kernel
theorem dX6_sizes_21 : decode cX6_sizes 21 = .ok (.iload_n 1, 1) := by decide +kernel
theorem dX6_sizes_22 : decode cX6_sizes 22 = .ok (.iconst 1, 1) := by decide +kernel
theorem dX6_sizes_23 : decode cX6_sizes 23 = .ok (.isub, 1) := by decide +kernel
theorem dX6_sizes_24 : decode cX6_sizes 24 = .ok (.invokestatic 71, 3) := by decide +kernel
theorem dX6_sizes_27 : decode cX6_sizes 27 = .ok (.ifCond .ne 6, 3) := by decide +kernel
theorem dX6_sizes_30 : decode cX6_sizes 30 = .ok (.bipush (-2), 2) := by decide +kernel
theorem dX6_sizes_32 : decode cX6_sizes 32 = .ok (.ireturn, 1) := by decide +kernel
theorem dX6_sizes_33 : decode cX6_sizes 33 = .ok (.aload_n 0, 1) := by decide +kernel
theorem dX6_sizes_34 : decode cX6_sizes 34 = .ok (.iload_n 1, 1) := by decide +kernel
theorem dX6_sizes_35 : decode cX6_sizes 35 = .ok (.putfield 79, 3) := by decide +kernel
theorem dX6_sizes_38 : decode cX6_sizes 38 = .ok (.aload_n 0, 1) := by decide +kernel
theorem dX6_sizes_39 : decode cX6_sizes 39 = .ok (.iconst 1, 1) := by decide +kernel
theorem dX6_sizes_40 : decode cX6_sizes 40 = .ok (.putfield 82, 3) := by decide +kernel
theorem dX6_sizes_43 : decode cX6_sizes 43 = .ok (.aload_n 0, 1) := by decide +kernel
theorem dX6_sizes_44 : decode cX6_sizes 44 = .ok (.iconst 1, 1) := by decide +kernel
theorem dX6_sizes_45 : decode cX6_sizes 45 = .ok (.putfield 85, 3) := by decide +kernel
theorem dX6_sizes_48 : decode cX6_sizes 48 = .ok (.iload_n 1, 1) := by decide +kernel
theorem dX6_sizes_49 : decode cX6_sizes 49 = .ok (.iconst 1, 1) := by decide +kernel
theorem dX6_sizes_50 : decode cX6_sizes 50 = .ok (.if_icmp .ne 8, 3) := by decide +kernel
theorem dX6_sizes_53 : decode cX6_sizes 53 = .ok (.bipush 10, 2) := by decide +kernel
theorem dX6_sizes_55 : decode cX6_sizes 55 = .ok (.goto 16, 3) := by decide +kernel
theorem dX6_sizes_58 : decode cX6_sizes 58 = .ok (.iload_n 1, 1) := by decide +kernel
theorem dX6_sizes_59 : decode cX6_sizes 59 = .ok (.iconst 2, 1) := by decide +kernel
theorem dX6_sizes_60 : decode cX6_sizes 60 = .ok (.if_icmp .ne 8, 3) := by decide +kernel
theorem dX6_sizes_63 : decode cX6_sizes 63 = .ok (.bipush 100, 2) := by decide +kernel
theorem dX6_sizes_65 : decode cX6_sizes 65 = .ok (.goto 6, 3) := by decide +kernel
theorem dX6_sizes_68 : decode cX6_sizes 68 = .ok (.sipush 1000, 3) := by decide +kernel
theorem dX6_sizes_71 : decode cX6_sizes 71 = .ok (.istore 4, 2) := by decide +kernel
theorem dX6_sizes_73 : decode cX6_sizes 73 = .ok (.iload_n 1, 1) := by decide +kernel
theorem dX6_sizes_74 : decode cX6_sizes 74 = .ok (.istore 5, 2) := by decide +kernel
theorem dX6_sizes_76 : decode cX6_sizes 76 = .ok (.iload 5, 2) := by decide +kernel
theorem dX6_sizes_78 : decode cX6_sizes 78 = .ok (.bipush 10, 2) := by decide +kernel
theorem dX6_sizes_80 : decode cX6_sizes 80 = .ok (.iload_n 1, 1) := by decide +kernel
theorem dX6_sizes_81 : decode cX6_sizes 81 = .ok (.imul, 1) := by decide +kernel
theorem dX6_sizes_82 : decode cX6_sizes 82 = .ok (.if_icmp .gt 110, 3) := by decide +kernel
theorem dX6_sizes_85 : decode cX6_sizes 85 = .ok (.iconst 0, 1) := by decide +kernel
theorem dX6_sizes_86 : decode cX6_sizes 86 = .ok (.istore 6, 2) := by decide +kernel
theorem dX6_sizes_88 : decode cX6_sizes 88 = .ok (.iload 6, 2) := by decide +kernel
theorem dX6_sizes_90 : decode cX6_sizes 90 = .ok (.iload 4, 2) := by decide +kernel
theorem dX6_sizes_92 : decode cX6_sizes 92 = .ok (.if_icmp .ge 94, 3) := by decide +kernel
theorem dX6_sizes_95 : decode cX6_sizes 95 = .ok (.iload 6, 2) := by decide +kernel
theorem dX6_sizes_97 : decode cX6_sizes 97 = .ok (.istore 7, 2) := by decide +kernel
theorem dX6_sizes_99 : decode cX6_sizes 99 = .ok (.iconst 0, 1) := by decide +kernel
theorem dX6_sizes_100 : decode cX6_sizes 100 = .ok (.istore 8, 2) := by decide +kernel
theorem dX6_sizes_102 : decode cX6_sizes 102 = .ok (.iload_n 1, 1) := by decide +kernel
theorem dX6_sizes_103 : decode cX6_sizes 103 = .ok (.iconst 1, 1) := by decide +kernel
theorem dX6_sizes_104 : decode cX6_sizes 104 = .ok (.isub, 1) := by decide +kernel
theorem dX6_sizes_105 : decode cX6_sizes 105 = .ok (.istore 9, 2) := by decide +kernel
theorem dX6_sizes_107 : decode cX6_sizes 107 = .ok (.iload 9, 2) := by decide +kernel
theorem dX6_sizes_109 : decode cX6_sizes 109 = .ok (.ifCond .lt 42, 3) := by decide +kernel
theorem dX6_sizes_112 : decode cX6_sizes 112 = .ok (.aload_n 0, 1) := by decide +kernel
theorem dX6_sizes_113 : decode cX6_sizes 113 = .ok (.getfield 26, 3) := by decide +kernel
theorem dX6_sizes_116 : decode cX6_sizes 116 = .ok (.iload 9, 2) := by decide +kernel
theorem dX6_sizes_118 : decode cX6_sizes 118 = .ok (.iconst 1, 1) := by decide +kernel
theorem dX6_sizes_119 : decode cX6_sizes 119 = .ok (.iload 7, 2) := by decide +kernel
theorem dX6_sizes_121 : decode cX6_sizes 121 = .ok (.bipush 10, 2) := by decide +kernel
theorem dX6_sizes_123 : decode cX6_sizes 123 = .ok (.irem, 1) := by decide +kernel
theorem dX6_sizes_124 : decode cX6_sizes 124 = .ok (.iadd, 1) := by decide +kernel
theorem dX6_sizes_125 : decode cX6_sizes 125 = .ok (.iastore, 1) := by decide +kernel
theorem dX6_sizes_126 : decode cX6_sizes 126 = .ok (.iload 7, 2) := by decide +kernel
theorem dX6_sizes_128 : decode cX6_sizes 128 = .ok (.bipush 10, 2) := by decide +kernel
theorem dX6_sizes_130 : decode cX6_sizes 130 = .ok (.idiv, 1) := by decide +kernel
theorem dX6_sizes_131 : decode cX6_sizes 131 = .ok (.istore 7, 2) := by decide +kernel
theorem dX6_sizes_133 : decode cX6_sizes 133 = .ok (.iload 8, 2) := by decide +kernel
theorem dX6_sizes_135 : decode cX6_sizes 135 = .ok (.aload_n 0, 1) := by decide +kernel
theorem dX6_sizes_136 : decode cX6_sizes 136 = .ok (.getfield 26, 3) := by decide +kernel
theorem dX6_sizes_139 : decode cX6_sizes 139 = .ok (.iload 9, 2) := by decide +kernel
theorem dX6_sizes_141 : decode cX6_sizes 141 = .ok (.iaload, 1) := by decide +kernel
theorem dX6_sizes_142 : decode cX6_sizes 142 = .ok (.iadd, 1) := by decide +kernel
theorem dX6_sizes_143 : decode cX6_sizes 143 = .ok (.istore 8, 2) := by decide +kernel
theorem dX6_sizes_145 : decode cX6_sizes 145 = .ok (.iinc 9 (-1), 3) := by decide +kernel
theorem dX6_sizes_148 : decode cX6_sizes 148 = .ok (.goto (-41), 3) := by decide +kernel
theorem dX6_sizes_151 : decode cX6_sizes 151 = .ok (.iload 8, 2) := by decide +kernel
theorem dX6_sizes_153 : decode cX6_sizes 153 = .ok (.iload 5, 2) := by decide +kernel
theorem dX6_sizes_155 : decode cX6_sizes 155 = .ok (.if_icmp .ne 25, 3) := by decide +kernel
theorem dX6_sizes_158 : decode cX6_sizes 158 = .ok (.aload_n 0, 1) := by decide +kernel
theorem dX6_sizes_159 : decode cX6_sizes 159 = .ok (.invokevirtual 148, 3) := by decide +kernel
theorem dX6_sizes_162 : decode cX6_sizes 162 = .ok (.ifCond .eq 18, 3) := by decide +kernel
theorem dX6_sizes_165 : decode cX6_sizes 165 = .ok (.aload_n 0, 1) := by decide +kernel
theorem dX6_sizes_166 : decode cX6_sizes 166 = .ok (.iload_n 2, 1) := by decide +kernel
theorem dX6_sizes_167 : decode cX6_sizes 167 = .ok (.invokevirtual 152, 3) := by decide +kernel
theorem dX6_sizes_170 : decode cX6_sizes 170 = .ok (.ifCond .eq 10, 3) := by decide +kernel
theorem dX6_sizes_173 : decode cX6_sizes 173 = .ok (.aload_n 0, 1) := by decide +kernel
theorem dX6_sizes_174 : decode cX6_sizes 174 = .ok (.getfield 26, 3) := by decide +kernel
theorem dX6_sizes_177 : decode cX6_sizes 177 = .ok (.iload_n 3, 1) := by decide +kernel
theorem dX6_sizes_178 : decode cX6_sizes 178 = .ok (.iaload, 1) := by decide +kernel
theorem dX6_sizes_179 : decode cX6_sizes 179 = .ok (.ireturn, 1) := by decide +kernel
theorem dX6_sizes_180 : decode cX6_sizes 180 = .ok (.iinc 6 1, 3) := by decide +kernel
theorem dX6_sizes_183 : decode cX6_sizes 183 = .ok (.goto (-95), 3) := by decide +kernel
theorem dX6_sizes_186 : decode cX6_sizes 186 = .ok (.iinc 5 1, 3) := by decide +kernel
theorem dX6_sizes_189 : decode cX6_sizes 189 = .ok (.goto (-113), 3) := by decide +kernel
theorem dX6_sizes_192 : decode cX6_sizes 192 = .ok (.iconst (-1), 1) := by decide +kernel
theorem dX6_sizes_193 : decode cX6_sizes 193 = .ok (.ireturn, 1) := by decide +kernel
set_option maxRecDepth 20000 in
theorem ggX6_glass_X6_in : GoodIn wsX6_glass wsX6_in := goodIn_r _ [6] (by decide +kernel) (by decide +kernel)
set_option maxRecDepth 20000 in
theorem gX6_glass_X6_in : GoodIn wsX6_glass (va_wsS RX6 71 yX6_in wsX6_in) := goodIn_app (goodIn_of _ (by decide +kernel)) ggX6_glass_X6_in
theorem dX6_glass_0 : decode cX6_glass 0 = .ok (.iload_n 1, 1) := by decide +kernel
theorem dX6_glass_1 : decode cX6_glass 1 = .ok (.iconst 1, 1) := by decide +kernel
theorem dX6_glass_2 : decode cX6_glass 2 = .ok (.bipush 12, 2) := by decide +kernel
theorem dX6_glass_4 : decode cX6_glass 4 = .ok (.invokestatic 71, 3) := by decide +kernel
theorem dX6_glass_7 : decode cX6_glass 7 = .ok (.ifCond .ne 6, 3) := by decide +kernel
theorem dX6_glass_10 : decode cX6_glass 10 = .ok (.bipush (-2), 2) := by decide +kernel
theorem dX6_glass_12 : decode cX6_glass 12 = .ok (.ireturn, 1) := by decide +kernel
theorem dX6_glass_13 : decode cX6_glass 13 = .ok (.aload_n 0, 1) := by decide +kernel
theorem dX6_glass_14 : decode cX6_glass 14 = .ok (.getfield 155, 3) := by decide +kernel
theorem dX6_glass_17 : decode cX6_glass 17 = .ok (.iconst 3, 1) := by decide +kernel
theorem dX6_glass_18 : decode cX6_glass 18 = .ok (.if_icmp .ne 6, 3) := by decide +kernel
theorem dX6_glass_21 : decode cX6_glass 21 = .ok (.bipush (-4), 2) := by decide +kernel
theorem dX6_glass_23 : decode cX6_glass 23 = .ok (.ireturn, 1) := by decide +kernel
theorem dX6_glass_24 : decode cX6_glass 24 = .ok (.aload_n 0, 1) := by decide +kernel
theorem dX6_glass_25 : decode cX6_glass 25 = .ok (.getfield 23, 3) := by decide +kernel
theorem dX6_glass_28 : decode cX6_glass 28 = .ok (.aload_n 0, 1) := by decide +kernel
theorem dX6_glass_29 : decode cX6_glass 29 = .ok (.getfield 155, 3) := by decide +kernel
theorem dX6_glass_32 : decode cX6_glass 32 = .ok (.iload_n 1, 1) := by decide +kernel
theorem dX6_glass_33 : decode cX6_glass 33 = .ok (.iastore, 1) := by decide +kernel
theorem dX6_glass_34 : decode cX6_glass 34 = .ok (.aload_n 0, 1) := by decide +kernel
theorem dX6_glass_35 : decode cX6_glass 35 = .ok (.dup, 1) := by decide +kernel
theorem dX6_glass_36 : decode cX6_glass 36 = .ok (.getfield 155, 3) := by decide +kernel
theorem dX6_glass_39 : decode cX6_glass 39 = .ok (.iconst 1, 1) := by decide +kernel
theorem dX6_glass_40 : decode cX6_glass 40 = .ok (.iadd, 1) := by decide +kernel
theorem dX6_glass_41 : decode cX6_glass 41 = .ok (.putfield 155, 3) := by decide +kernel
theorem dX6_glass_44 : decode cX6_glass 44 = .ok (.aload_n 0, 1) := by decide +kernel
theorem dX6_glass_45 : decode cX6_glass 45 = .ok (.getfield 155, 3) := by decide +kernel
theorem dX6_glass_48 : decode cX6_glass 48 = .ok (.iconst 1, 1) := by decide +kernel
theorem dX6_glass_49 : decode cX6_glass 49 = .ok (.isub, 1) := by decide +kernel
theorem dX6_glass_50 : decode cX6_glass 50 = .ok (.ireturn, 1) := by decide +kernel
theorem dX6_smash_0 : decode cX6_smash 0 = .ok (.aload_n 0, 1) := by decide +kernel
theorem dX6_smash_1 : decode cX6_smash 1 = .ok (.getfield 155, 3) := by decide +kernel
theorem dX6_smash_4 : decode cX6_smash 4 = .ok (.istore_n 1, 1) := by decide +kernel
theorem dX6_smash_5 : decode cX6_smash 5 = .ok (.aload_n 0, 1) := by decide +kernel
theorem dX6_smash_6 : decode cX6_smash 6 = .ok (.iconst 0, 1) := by decide +kernel
theorem dX6_smash_7 : decode cX6_smash 7 = .ok (.putfield 155, 3) := by decide +kernel
theorem dX6_smash_10 : decode cX6_smash 10 = .ok (.iload_n 1, 1) := by decide +kernel
theorem dX6_smash_11 : decode cX6_smash 11 = .ok (.ireturn, 1) := by decide +kernel
theorem dX6_after_0 : decode cX6_after 0 = .ok (.iload_n 1, 1) := by decide +kernel
theorem dX6_after_1 : decode cX6_after 1 = .ok (.istore_n 3, 1) := by decide +kernel
theorem dX6_after_2 : decode cX6_after 2 = .ok (.ldc 111, 2) := by decide +kernel
theorem dX6_after_4 : decode cX6_after 4 = .ok (.istore 4, 2) := by decide +kernel
theorem dX6_after_6 : decode cX6_after 6 = .ok (.aload_n 0, 1) := by decide +kernel
theorem dX6_after_7 : decode cX6_after 7 = .ok (.iconst 0, 1) := by decide +kernel
theorem dX6_after_8 : decode cX6_after 8 = .ok (.putfield 158, 3) := by decide +kernel
theorem dX6_after_11 : decode cX6_after 11 = .ok (.iconst 0, 1) := by decide +kernel
theorem dX6_after_12 : decode cX6_after 12 = .ok (.istore 5, 2) := by decide +kernel
theorem dX6_after_14 : decode cX6_after 14 = .ok (.iload 5, 2) := by decide +kernel
theorem dX6_after_16 : decode cX6_after 16 = .ok (.iconst 3, 1) := by decide +kernel
theorem dX6_after_17 : decode cX6_after 17 = .ok (.if_icmp .ge 108, 3) := by decide +kernel
theorem dX6_after_20 : decode cX6_after 20 = .ok (.iload_n 3, 1) := by decide +kernel
theorem dX6_after_21 : decode cX6_after 21 = .ok (.bipush 13, 2) := by decide +kernel
theorem dX6_after_23 : decode cX6_after 23 = .ok (.irem, 1) := by decide +kernel
theorem dX6_after_24 : decode cX6_after 24 = .ok (.istore 6, 2) := by decide +kernel
theorem dX6_after_26 : decode cX6_after 26 = .ok (.iload_n 3, 1) := by decide +kernel
theorem dX6_after_27 : decode cX6_after 27 = .ok (.bipush 13, 2) := by decide +kernel
theorem dX6_after_29 : decode cX6_after 29 = .ok (.idiv, 1) := by decide +kernel
theorem dX6_after_30 : decode cX6_after 30 = .ok (.istore_n 3, 1) := by decide +kernel
theorem dX6_after_31 : decode cX6_after 31 = .ok (.iload 5, 2) := by decide +kernel
theorem dX6_after_33 : decode cX6_after 33 = .ok (.aload_n 0, 1) := by decide +kernel
theorem dX6_after_34 : decode cX6_after 34 = .ok (.getfield 155, 3) := by decide +kernel
theorem dX6_after_37 : decode cX6_after 37 = .ok (.if_icmp .ge 82, 3) := by decide +kernel
theorem dX6_after_40 : decode cX6_after 40 = .ok (.iload_n 2, 1) := by decide +kernel
theorem dX6_after_41 : decode cX6_after 41 = .ok (.iload 5, 2) := by decide +kernel
theorem dX6_after_43 : decode cX6_after 43 = .ok (.ishr, 1) := by decide +kernel
theorem dX6_after_44 : decode cX6_after 44 = .ok (.iconst 1, 1) := by decide +kernel
theorem dX6_after_45 : decode cX6_after 45 = .ok (.iand, 1) := by decide +kernel
theorem dX6_after_46 : decode cX6_after 46 = .ok (.iconst 1, 1) := by decide +kernel
theorem dX6_after_47 : decode cX6_after 47 = .ok (.if_icmp .ne 7, 3) := by decide +kernel
theorem dX6_after_50 : decode cX6_after 50 = .ok (.iconst 1, 1) := by decide +kernel
theorem dX6_after_51 : decode cX6_after 51 = .ok (.goto 4, 3) := by decide +kernel
theorem dX6_after_54 : decode cX6_after 54 = .ok (.iconst 0, 1) := by decide +kernel
theorem dX6_after_55 : decode cX6_after 55 = .ok (.istore 7, 2) := by decide +kernel
theorem dX6_after_57 : decode cX6_after 57 = .ok (.iload 7, 2) := by decide +kernel
theorem dX6_after_59 : decode cX6_after 59 = .ok (.ifCond .eq 16, 3) := by decide +kernel
theorem dX6_after_62 : decode cX6_after 62 = .ok (.aload_n 0, 1) := by decide +kernel
theorem dX6_after_63 : decode cX6_after 63 = .ok (.getfield 23, 3) := by decide +kernel
theorem dX6_after_66 : decode cX6_after 66 = .ok (.iload 5, 2) := by decide +kernel
theorem dX6_after_68 : decode cX6_after 68 = .ok (.iaload, 1) := by decide +kernel
theorem dX6_after_69 : decode cX6_after 69 = .ok (.iload 6, 2) := by decide +kernel
theorem dX6_after_71 : decode cX6_after 71 = .ok (.isub, 1) := by decide +kernel
theorem dX6_after_72 : decode cX6_after 72 = .ok (.goto 5, 3) := by decide +kernel
theorem dX6_after_75 : decode cX6_after 75 = .ok (.iload 6, 2) := by decide +kernel
theorem dX6_after_77 : decode cX6_after 77 = .ok (.istore 6, 2) := by decide +kernel
theorem dX6_after_79 : decode cX6_after 79 = .ok (.aload_n 0, 1) := by decide +kernel
theorem dX6_after_80 : decode cX6_after 80 = .ok (.dup, 1) := by decide +kernel
theorem dX6_after_81 : decode cX6_after 81 = .ok (.getfield 158, 3) := by decide +kernel
theorem dX6_after_84 : decode cX6_after 84 = .ok (.iload 7, 2) := by decide +kernel
theorem dX6_after_86 : decode cX6_after 86 = .ok (.ifCond .eq 7, 3) := by decide +kernel
theorem dX6_after_89 : decode cX6_after 89 = .ok (.iconst 1, 1) := by decide +kernel
theorem dX6_after_90 : decode cX6_after 90 = .ok (.goto 4, 3) := by decide +kernel
theorem dX6_after_93 : decode cX6_after 93 = .ok (.iconst 0, 1) := by decide +kernel
theorem dX6_after_94 : decode cX6_after 94 = .ok (.iadd, 1) := by decide +kernel
theorem dX6_after_95 : decode cX6_after 95 = .ok (.putfield 158, 3) := by decide +kernel
theorem dX6_after_98 : decode cX6_after 98 = .ok (.iload 6, 2) := by decide +kernel
theorem dX6_after_100 : decode cX6_after 100 = .ok (.ifCond .le 15, 3) := by decide +kernel
theorem dX6_after_103 : decode cX6_after 103 = .ok (.iload 6, 2) := by decide +kernel
theorem dX6_after_105 : decode cX6_after 105 = .ok (.iload 4, 2) := by decide +kernel
theorem dX6_after_107 : decode cX6_after 107 = .ok (.if_icmp .ge 8, 3) := by decide +kernel
theorem dX6_after_110 : decode cX6_after 110 = .ok (.iload 6, 2) := by decide +kernel
theorem dX6_after_112 : decode cX6_after 112 = .ok (.goto 5, 3) := by decide +kernel
theorem dX6_after_115 : decode cX6_after 115 = .ok (.iload 4, 2) := by decide +kernel
theorem dX6_after_117 : decode cX6_after 117 = .ok (.istore 4, 2) := by decide +kernel
theorem dX6_after_119 : decode cX6_after 119 = .ok (.iinc 5 1, 3) := by decide +kernel
theorem dX6_after_122 : decode cX6_after 122 = .ok (.goto (-108), 3) := by decide +kernel
theorem dX6_after_125 : decode cX6_after 125 = .ok (.iload 4, 2) := by decide +kernel
theorem dX6_after_127 : decode cX6_after 127 = .ok (.ldc 111, 2) := by decide +kernel
theorem dX6_after_129 : decode cX6_after 129 = .ok (.if_icmp .ne 5, 3) := by decide +kernel
theorem dX6_after_132 : decode cX6_after 132 = .ok (.iconst (-1), 1) := by decide +kernel
theorem dX6_after_133 : decode cX6_after 133 = .ok (.ireturn, 1) := by decide +kernel
theorem dX6_after_134 : decode cX6_after 134 = .ok (.aload_n 0, 1) := by decide +kernel
theorem dX6_after_135 : decode cX6_after 135 = .ok (.iload 4, 2) := by decide +kernel
theorem dX6_after_137 : decode cX6_after 137 = .ok (.putfield 161, 3) := by decide +kernel
theorem dX6_after_140 : decode cX6_after 140 = .ok (.iload_n 1, 1) := by decide +kernel
theorem dX6_after_141 : decode cX6_after 141 = .ok (.istore_n 3, 1) := by decide +kernel
theorem dX6_after_142 : decode cX6_after 142 = .ok (.iconst 0, 1) := by decide +kernel
theorem dX6_after_143 : decode cX6_after 143 = .ok (.istore 5, 2) := by decide +kernel
theorem dX6_after_145 : decode cX6_after 145 = .ok (.iconst 1, 1) := by decide +kernel
theorem dX6_after_146 : decode cX6_after 146 = .ok (.istore 6, 2) := by decide +kernel
theorem dX6_after_148 : decode cX6_after 148 = .ok (.iconst 0, 1) := by decide +kernel
theorem dX6_after_149 : decode cX6_after 149 = .ok (.istore 7, 2) := by decide +kernel
theorem dX6_after_151 : decode cX6_after 151 = .ok (.iload 7, 2) := by decide +kernel
theorem dX6_after_153 : decode cX6_after 153 = .ok (.aload_n 0, 1) := by decide +kernel
theorem dX6_after_154 : decode cX6_after 154 = .ok (.getfield 155, 3) := by decide +kernel
theorem dX6_after_157 : decode cX6_after 157 = .ok (.if_icmp .ge 78, 3) := by decide +kernel
theorem dX6_after_160 : decode cX6_after 160 = .ok (.iload_n 3, 1) := by decide +kernel
theorem dX6_after_161 : decode cX6_after 161 = .ok (.bipush 13, 2) := by decide +kernel
theorem dX6_after_163 : decode cX6_after 163 = .ok (.irem, 1) := by decide +kernel
theorem dX6_after_164 : decode cX6_after 164 = .ok (.istore 8, 2) := by decide +kernel
theorem dX6_after_166 : decode cX6_after 166 = .ok (.iload_n 3, 1) := by decide +kernel
theorem dX6_after_167 : decode cX6_after 167 = .ok (.bipush 13, 2) := by decide +kernel
theorem dX6_after_169 : decode cX6_after 169 = .ok (.idiv, 1) := by decide +kernel
theorem dX6_after_170 : decode cX6_after 170 = .ok (.istore_n 3, 1) := by decide +kernel
theorem dX6_after_171 : decode cX6_after 171 = .ok (.iload_n 2, 1) := by decide +kernel
theorem dX6_after_172 : decode cX6_after 172 = .ok (.iload 7, 2) := by decide +kernel
theorem dX6_after_174 : decode cX6_after 174 = .ok (.ishr, 1) := by decide +kernel
theorem dX6_after_175 : decode cX6_after 175 = .ok (.iconst 1, 1) := by decide +kernel
theorem dX6_after_176 : decode cX6_after 176 = .ok (.iand, 1) := by decide +kernel
theorem dX6_after_177 : decode cX6_after 177 = .ok (.iconst 1, 1) := by decide +kernel
theorem dX6_after_178 : decode cX6_after 178 = .ok (.if_icmp .ne 16, 3) := by decide +kernel
theorem dX6_after_181 : decode cX6_after 181 = .ok (.aload_n 0, 1) := by decide +kernel
theorem dX6_after_182 : decode cX6_after 182 = .ok (.getfield 23, 3) := by decide +kernel
theorem dX6_after_185 : decode cX6_after 185 = .ok (.iload 7, 2) := by decide +kernel
theorem dX6_after_187 : decode cX6_after 187 = .ok (.iaload, 1) := by decide +kernel
theorem dX6_after_188 : decode cX6_after 188 = .ok (.iload 8, 2) := by decide +kernel
theorem dX6_after_190 : decode cX6_after 190 = .ok (.isub, 1) := by decide +kernel
theorem dX6_after_191 : decode cX6_after 191 = .ok (.goto 5, 3) := by decide +kernel
theorem dX6_after_194 : decode cX6_after 194 = .ok (.iload 8, 2) := by decide +kernel
theorem dX6_after_196 : decode cX6_after 196 = .ok (.istore 8, 2) := by decide +kernel
theorem dX6_after_198 : decode cX6_after 198 = .ok (.iload 5, 2) := by decide +kernel
theorem dX6_after_200 : decode cX6_after 200 = .ok (.iload 6, 2) := by decide +kernel
theorem dX6_after_202 : decode cX6_after 202 = .ok (.iload 8, 2) := by decide +kernel
theorem dX6_after_204 : decode cX6_after 204 = .ok (.iload 4, 2) := by decide +kernel
theorem dX6_after_206 : decode cX6_after 206 = .ok (.if_icmp .le 11, 3) := by decide +kernel
theorem dX6_after_209 : decode cX6_after 209 = .ok (.iload 8, 2) := by decide +kernel
theorem dX6_after_211 : decode cX6_after 211 = .ok (.iload 4, 2) := by decide +kernel
theorem dX6_after_213 : decode cX6_after 213 = .ok (.isub, 1) := by decide +kernel
theorem dX6_after_214 : decode cX6_after 214 = .ok (.goto 4, 3) := by decide +kernel
theorem dX6_after_217 : decode cX6_after 217 = .ok (.iconst 0, 1) := by decide +kernel
theorem dX6_after_218 : decode cX6_after 218 = .ok (.imul, 1) := by decide +kernel
theorem dX6_after_219 : decode cX6_after 219 = .ok (.iadd, 1) := by decide +kernel
theorem dX6_after_220 : decode cX6_after 220 = .ok (.istore 5, 2) := by decide +kernel
theorem dX6_after_222 : decode cX6_after 222 = .ok (.iload 6, 2) := by decide +kernel
theorem dX6_after_224 : decode cX6_after 224 = .ok (.bipush 13, 2) := by decide +kernel
theorem dX6_after_226 : decode cX6_after 226 = .ok (.imul, 1) := by decide +kernel
theorem dX6_after_227 : decode cX6_after 227 = .ok (.istore 6, 2) := by decide +kernel
theorem dX6_after_229 : decode cX6_after 229 = .ok (.iinc 7 1, 3) := by decide +kernel
theorem dX6_after_232 : decode cX6_after 232 = .ok (.goto (-81), 3) := by decide +kernel
theorem dX6_after_235 : decode cX6_after 235 = .ok (.iload 5, 2) := by decide +kernel
theorem dX6_after_237 : decode cX6_after 237 = .ok (.ireturn, 1) := by decide +kernel
theorem dX6_isState_0 : decode cX6_isState 0 = .ok (.iload_n 1, 1) := by decide +kernel
theorem dX6_isState_1 : decode cX6_isState 1 = .ok (.istore_n 2, 1) := by decide +kernel
theorem dX6_isState_2 : decode cX6_isState 2 = .ok (.iconst 1, 1) := by decide +kernel
theorem dX6_isState_3 : decode cX6_isState 3 = .ok (.istore_n 3, 1) := by decide +kernel
theorem dX6_isState_4 : decode cX6_isState 4 = .ok (.iconst 0, 1) := by decide +kernel
theorem dX6_isState_5 : decode cX6_isState 5 = .ok (.istore 4, 2) := by decide +kernel
theorem dX6_isState_7 : decode cX6_isState 7 = .ok (.iload 4, 2) := by decide +kernel
theorem dX6_isState_9 : decode cX6_isState 9 = .ok (.iconst 3, 1) := by decide +kernel
theorem dX6_isState_10 : decode cX6_isState 10 = .ok (.if_icmp .ge 51, 3) := by decide +kernel
theorem dX6_isState_13 : decode cX6_isState 13 = .ok (.iload_n 3, 1) := by decide +kernel
theorem dX6_isState_14 : decode cX6_isState 14 = .ok (.ifCond .eq 34, 3) := by decide +kernel
theorem dX6_isState_17 : decode cX6_isState 17 = .ok (.iload_n 2, 1) := by decide +kernel
theorem dX6_isState_18 : decode cX6_isState 18 = .ok (.bipush 13, 2) := by decide +kernel
theorem dX6_isState_20 : decode cX6_isState 20 = .ok (.irem, 1) := by decide +kernel
theorem dX6_isState_21 : decode cX6_isState 21 = .ok (.iload 4, 2) := by decide +kernel
theorem dX6_isState_23 : decode cX6_isState 23 = .ok (.aload_n 0, 1) := by decide +kernel
theorem dX6_isState_24 : decode cX6_isState 24 = .ok (.getfield 155, 3) := by decide +kernel
theorem dX6_isState_27 : decode cX6_isState 27 = .ok (.if_icmp .ge 13, 3) := by decide +kernel
theorem dX6_isState_30 : decode cX6_isState 30 = .ok (.aload_n 0, 1) := by decide +kernel
theorem dX6_isState_31 : decode cX6_isState 31 = .ok (.getfield 23, 3) := by decide +kernel
theorem dX6_isState_34 : decode cX6_isState 34 = .ok (.iload 4, 2) := by decide +kernel
theorem dX6_isState_36 : decode cX6_isState 36 = .ok (.iaload, 1) := by decide +kernel
theorem dX6_isState_37 : decode cX6_isState 37 = .ok (.goto 4, 3) := by decide +kernel
theorem dX6_isState_40 : decode cX6_isState 40 = .ok (.iconst 0, 1) := by decide +kernel
theorem dX6_isState_41 : decode cX6_isState 41 = .ok (.if_icmp .gt 7, 3) := by decide +kernel
theorem dX6_isState_44 : decode cX6_isState 44 = .ok (.iconst 1, 1) := by decide +kernel
theorem dX6_isState_45 : decode cX6_isState 45 = .ok (.goto 4, 3) := by decide +kernel
theorem dX6_isState_48 : decode cX6_isState 48 = .ok (.iconst 0, 1) := by decide +kernel
theorem dX6_isState_49 : decode cX6_isState 49 = .ok (.istore_n 3, 1) := by decide +kernel
theorem dX6_isState_50 : decode cX6_isState 50 = .ok (.iload_n 2, 1) := by decide +kernel
theorem dX6_isState_51 : decode cX6_isState 51 = .ok (.bipush 13, 2) := by decide +kernel
theorem dX6_isState_53 : decode cX6_isState 53 = .ok (.idiv, 1) := by decide +kernel
theorem dX6_isState_54 : decode cX6_isState 54 = .ok (.istore_n 2, 1) := by decide +kernel
theorem dX6_isState_55 : decode cX6_isState 55 = .ok (.iinc 4 1, 3) := by decide +kernel
theorem dX6_isState_58 : decode cX6_isState 58 = .ok (.goto (-51), 3) := by decide +kernel
theorem dX6_isState_61 : decode cX6_isState 61 = .ok (.iload_n 3, 1) := by decide +kernel
theorem dX6_isState_62 : decode cX6_isState 62 = .ok (.ireturn, 1) := by decide +kernel
theorem dX6_ones_0 : decode cX6_ones 0 = .ok (.iload_n 0, 1) := by decide +kernel
theorem dX6_ones_1 : decode cX6_ones 1 = .ok (.iconst 1, 1) := by decide +kernel
theorem dX6_ones_2 : decode cX6_ones 2 = .ok (.iand, 1) := by decide +kernel
theorem dX6_ones_3 : decode cX6_ones 3 = .ok (.iload_n 0, 1) := by decide +kernel
theorem dX6_ones_4 : decode cX6_ones 4 = .ok (.iconst 1, 1) := by decide +kernel
theorem dX6_ones_5 : decode cX6_ones 5 = .ok (.ishr, 1) := by decide +kernel
theorem dX6_ones_6 : decode cX6_ones 6 = .ok (.iconst 1, 1) := by decide +kernel
theorem dX6_ones_7 : decode cX6_ones 7 = .ok (.iand, 1) := by decide +kernel
theorem dX6_ones_8 : decode cX6_ones 8 = .ok (.iadd, 1) := by decide +kernel
theorem dX6_ones_9 : decode cX6_ones 9 = .ok (.iload_n 0, 1) := by decide +kernel
theorem dX6_ones_10 : decode cX6_ones 10 = .ok (.iconst 2, 1) := by decide +kernel
theorem dX6_ones_11 : decode cX6_ones 11 = .ok (.ishr, 1) := by decide +kernel
theorem dX6_ones_12 : decode cX6_ones 12 = .ok (.iconst 1, 1) := by decide +kernel
theorem dX6_ones_13 : decode cX6_ones 13 = .ok (.iand, 1) := by decide +kernel
theorem dX6_ones_14 : decode cX6_ones 14 = .ok (.iadd, 1) := by decide +kernel
theorem dX6_ones_15 : decode cX6_ones 15 = .ok (.ireturn, 1) := by decide +kernel
set_option maxRecDepth 20000 in
theorem ggX6_layGlasses_X6_isState : GoodIn wsX6_layGlasses wsX6_isState := goodIn_r _ [13, 1, 14, 23, 24, 25, 26, 27, 28, 29, 30, 31, 32, 33, 34, 35, 36, 37, 38, 39, 40, 41, 42, 43, 44, 45, 46, 47, 48, 49, 50] (by decide +kernel) (by decide +kernel)
set_option maxRecDepth 20000 in
theorem gX6_layGlasses_X6_isState : GoodIn wsX6_layGlasses (wsV RX6 164 RX6 yX6_isState wsX6_isState) := goodIn_app (goodIn_of _ (by decide +kernel)) ggX6_layGlasses_X6_isState
set_option maxRecDepth 20000 in
theorem ggX6_layGlasses_X6_after : GoodIn wsX6_layGlasses wsX6_after := goodIn_r _ [18, 7, 19, 1, 14, 4, 23, 24, 25, 26, 27, 28, 29, 30, 31, 32, 33, 34, 35, 36, 37, 38, 39, 40, 41, 42, 43, 44, 45, 46, 47, 48, 49, 50] (by decide +kernel) (by decide +kernel)
set_option maxRecDepth 20000 in
theorem gX6_layGlasses_X6_after : GoodIn wsX6_layGlasses (wsV RX6 167 RX6 yX6_after wsX6_after) := goodIn_app (goodIn_of _ (by decide +kernel)) ggX6_layGlasses_X6_after
set_option maxRecDepth 20000 in
theorem ggX6_layGlasses_X6_ones : GoodIn wsX6_layGlasses wsX6_ones := goodIn_r _ [22] (by decide +kernel) (by decide +kernel)
set_option maxRecDepth 20000 in
theorem gX6_layGlasses_X6_ones : GoodIn wsX6_layGlasses (va_wsS RX6 170 yX6_ones wsX6_ones) := goodIn_app (goodIn_of _ (by decide +kernel)) ggX6_layGlasses_X6_ones
theorem dX6_layGlasses_0 : decode cX6_layGlasses 0 = .ok (.iconst 0, 1) := by decide +kernel
theorem dX6_layGlasses_1 : decode cX6_layGlasses 1 = .ok (.istore_n 1, 1) := by decide +kernel
theorem dX6_layGlasses_2 : decode cX6_layGlasses 2 = .ok (.iload_n 1, 1) := by decide +kernel
theorem dX6_layGlasses_3 : decode cX6_layGlasses 3 = .ok (.sipush 2197, 3) := by decide +kernel
theorem dX6_layGlasses_6 : decode cX6_layGlasses 6 = .ok (.if_icmp .ge 110, 3) := by decide +kernel
theorem dX6_layGlasses_9 : decode cX6_layGlasses 9 = .ok (.iconst 0, 1) := by decide +kernel
theorem dX6_layGlasses_10 : decode cX6_layGlasses 10 = .ok (.istore_n 2, 1) := by decide +kernel
theorem dX6_layGlasses_11 : decode cX6_layGlasses 11 = .ok (.iload_n 2, 1) := by decide +kernel
theorem dX6_layGlasses_12 : decode cX6_layGlasses 12 = .ok (.bipush 8, 2) := by decide +kernel
theorem dX6_layGlasses_14 : decode cX6_layGlasses 14 = .ok (.if_icmp .ge 96, 3) := by decide +kernel
theorem dX6_layGlasses_17 : decode cX6_layGlasses 17 = .ok (.aload_n 0, 1) := by decide +kernel
theorem dX6_layGlasses_18 : decode cX6_layGlasses 18 = .ok (.iload_n 1, 1) := by decide +kernel
theorem dX6_layGlasses_19 : decode cX6_layGlasses 19 = .ok (.invokevirtual 164, 3) := by decide +kernel
theorem dX6_layGlasses_22 : decode cX6_layGlasses 22 = .ok (.ifCond .eq 17, 3) := by decide +kernel
theorem dX6_layGlasses_25 : decode cX6_layGlasses 25 = .ok (.iload_n 2, 1) := by decide +kernel
theorem dX6_layGlasses_26 : decode cX6_layGlasses 26 = .ok (.iconst 1, 1) := by decide +kernel
theorem dX6_layGlasses_27 : decode cX6_layGlasses 27 = .ok (.aload_n 0, 1) := by decide +kernel
theorem dX6_layGlasses_28 : decode cX6_layGlasses 28 = .ok (.getfield 155, 3) := by decide +kernel
theorem dX6_layGlasses_31 : decode cX6_layGlasses 31 = .ok (.ishl, 1) := by decide +kernel
theorem dX6_layGlasses_32 : decode cX6_layGlasses 32 = .ok (.if_icmp .ge 7, 3) := by decide +kernel
theorem dX6_layGlasses_35 : decode cX6_layGlasses 35 = .ok (.iconst 1, 1) := by decide +kernel
theorem dX6_layGlasses_36 : decode cX6_layGlasses 36 = .ok (.goto 4, 3) := by decide +kernel
theorem dX6_layGlasses_39 : decode cX6_layGlasses 39 = .ok (.iconst 0, 1) := by decide +kernel
theorem dX6_layGlasses_40 : decode cX6_layGlasses 40 = .ok (.istore_n 3, 1) := by decide +kernel
theorem dX6_layGlasses_41 : decode cX6_layGlasses 41 = .ok (.aload_n 0, 1) := by decide +kernel
theorem dX6_layGlasses_42 : decode cX6_layGlasses 42 = .ok (.getfield 53, 3) := by decide +kernel
theorem dX6_layGlasses_45 : decode cX6_layGlasses 45 = .ok (.bipush 8, 2) := by decide +kernel
theorem dX6_layGlasses_47 : decode cX6_layGlasses 47 = .ok (.iload_n 1, 1) := by decide +kernel
theorem dX6_layGlasses_48 : decode cX6_layGlasses 48 = .ok (.imul, 1) := by decide +kernel
theorem dX6_layGlasses_49 : decode cX6_layGlasses 49 = .ok (.iload_n 2, 1) := by decide +kernel
theorem dX6_layGlasses_50 : decode cX6_layGlasses 50 = .ok (.iadd, 1) := by decide +kernel
theorem dX6_layGlasses_51 : decode cX6_layGlasses 51 = .ok (.iload_n 3, 1) := by decide +kernel
theorem dX6_layGlasses_52 : decode cX6_layGlasses 52 = .ok (.ifCond .eq 12, 3) := by decide +kernel
theorem dX6_layGlasses_55 : decode cX6_layGlasses 55 = .ok (.aload_n 0, 1) := by decide +kernel
theorem dX6_layGlasses_56 : decode cX6_layGlasses 56 = .ok (.iload_n 1, 1) := by decide +kernel
theorem dX6_layGlasses_57 : decode cX6_layGlasses 57 = .ok (.iload_n 2, 1) := by decide +kernel
theorem dX6_layGlasses_58 : decode cX6_layGlasses 58 = .ok (.invokevirtual 167, 3) := by decide +kernel
theorem dX6_layGlasses_61 : decode cX6_layGlasses 61 = .ok (.goto 4, 3) := by decide +kernel
theorem dX6_layGlasses_64 : decode cX6_layGlasses 64 = .ok (.iconst (-1), 1) := by decide +kernel
theorem dX6_layGlasses_65 : decode cX6_layGlasses 65 = .ok (.iastore, 1) := by decide +kernel
theorem dX6_layGlasses_66 : decode cX6_layGlasses 66 = .ok (.aload_n 0, 1) := by decide +kernel
theorem dX6_layGlasses_67 : decode cX6_layGlasses 67 = .ok (.getfield 56, 3) := by decide +kernel
theorem dX6_layGlasses_70 : decode cX6_layGlasses 70 = .ok (.bipush 8, 2) := by decide +kernel
theorem dX6_layGlasses_72 : decode cX6_layGlasses 72 = .ok (.iload_n 1, 1) := by decide +kernel
theorem dX6_layGlasses_73 : decode cX6_layGlasses 73 = .ok (.imul, 1) := by decide +kernel
theorem dX6_layGlasses_74 : decode cX6_layGlasses 74 = .ok (.iload_n 2, 1) := by decide +kernel
theorem dX6_layGlasses_75 : decode cX6_layGlasses 75 = .ok (.iadd, 1) := by decide +kernel
theorem dX6_layGlasses_76 : decode cX6_layGlasses 76 = .ok (.iload_n 3, 1) := by decide +kernel
theorem dX6_layGlasses_77 : decode cX6_layGlasses 77 = .ok (.ifCond .eq 25, 3) := by decide +kernel
theorem dX6_layGlasses_80 : decode cX6_layGlasses 80 = .ok (.aload_n 0, 1) := by decide +kernel
theorem dX6_layGlasses_81 : decode cX6_layGlasses 81 = .ok (.getfield 53, 3) := by decide +kernel
theorem dX6_layGlasses_84 : decode cX6_layGlasses 84 = .ok (.bipush 8, 2) := by decide +kernel
theorem dX6_layGlasses_86 : decode cX6_layGlasses 86 = .ok (.iload_n 1, 1) := by decide +kernel
theorem dX6_layGlasses_87 : decode cX6_layGlasses 87 = .ok (.imul, 1) := by decide +kernel
theorem dX6_layGlasses_88 : decode cX6_layGlasses 88 = .ok (.iload_n 2, 1) := by decide +kernel
theorem dX6_layGlasses_89 : decode cX6_layGlasses 89 = .ok (.iadd, 1) := by decide +kernel
theorem dX6_layGlasses_90 : decode cX6_layGlasses 90 = .ok (.iaload, 1) := by decide +kernel
theorem dX6_layGlasses_91 : decode cX6_layGlasses 91 = .ok (.iconst (-1), 1) := by decide +kernel
theorem dX6_layGlasses_92 : decode cX6_layGlasses 92 = .ok (.if_icmp .eq 10, 3) := by decide +kernel
theorem dX6_layGlasses_95 : decode cX6_layGlasses 95 = .ok (.aload_n 0, 1) := by decide +kernel
theorem dX6_layGlasses_96 : decode cX6_layGlasses 96 = .ok (.getfield 161, 3) := by decide +kernel
theorem dX6_layGlasses_99 : decode cX6_layGlasses 99 = .ok (.goto 4, 3) := by decide +kernel
theorem dX6_layGlasses_102 : decode cX6_layGlasses 102 = .ok (.iconst 0, 1) := by decide +kernel
theorem dX6_layGlasses_103 : decode cX6_layGlasses 103 = .ok (.iastore, 1) := by decide +kernel
theorem dX6_layGlasses_104 : decode cX6_layGlasses 104 = .ok (.iinc 2 1, 3) := by decide +kernel
theorem dX6_layGlasses_107 : decode cX6_layGlasses 107 = .ok (.goto (-96), 3) := by decide +kernel
theorem dX6_layGlasses_110 : decode cX6_layGlasses 110 = .ok (.iinc 1 1, 3) := by decide +kernel
theorem dX6_layGlasses_113 : decode cX6_layGlasses 113 = .ok (.goto (-111), 3) := by decide +kernel
theorem dX6_layGlasses_116 : decode cX6_layGlasses 116 = .ok (.iconst 0, 1) := by decide +kernel
theorem dX6_layGlasses_117 : decode cX6_layGlasses 117 = .ok (.istore_n 1, 1) := by decide +kernel
theorem dX6_layGlasses_118 : decode cX6_layGlasses 118 = .ok (.iload_n 1, 1) := by decide +kernel
theorem dX6_layGlasses_119 : decode cX6_layGlasses 119 = .ok (.ldc 59, 2) := by decide +kernel
theorem dX6_layGlasses_121 : decode cX6_layGlasses 121 = .ok (.if_icmp .ge 17, 3) := by decide +kernel
theorem dX6_layGlasses_124 : decode cX6_layGlasses 124 = .ok (.aload_n 0, 1) := by decide +kernel
theorem dX6_layGlasses_125 : decode cX6_layGlasses 125 = .ok (.getfield 60, 3) := by decide +kernel
theorem dX6_layGlasses_128 : decode cX6_layGlasses 128 = .ok (.iload_n 1, 1) := by decide +kernel
theorem dX6_layGlasses_129 : decode cX6_layGlasses 129 = .ok (.ldc 111, 2) := by decide +kernel
theorem dX6_layGlasses_131 : decode cX6_layGlasses 131 = .ok (.iastore, 1) := by decide +kernel
theorem dX6_layGlasses_132 : decode cX6_layGlasses 132 = .ok (.iinc 1 1, 3) := by decide +kernel
theorem dX6_layGlasses_135 : decode cX6_layGlasses 135 = .ok (.goto (-17), 3) := by decide +kernel
theorem dX6_layGlasses_138 : decode cX6_layGlasses 138 = .ok (.aload_n 0, 1) := by decide +kernel
theorem dX6_layGlasses_139 : decode cX6_layGlasses 139 = .ok (.getfield 60, 3) := by decide +kernel
theorem dX6_layGlasses_142 : decode cX6_layGlasses 142 = .ok (.iconst 0, 1) := by decide +kernel
theorem dX6_layGlasses_143 : decode cX6_layGlasses 143 = .ok (.iconst 0, 1) := by decide +kernel
theorem dX6_layGlasses_144 : decode cX6_layGlasses 144 = .ok (.iastore, 1) := by decide +kernel
theorem dX6_layGlasses_145 : decode cX6_layGlasses 145 = .ok (.iconst 0, 1) := by decide +kernel
theorem dX6_layGlasses_146 : decode cX6_layGlasses 146 = .ok (.istore_n 1, 1) := by decide +kernel
theorem dX6_layGlasses_147 : decode cX6_layGlasses 147 = .ok (.iload_n 1, 1) := by decide +kernel
theorem dX6_layGlasses_148 : decode cX6_layGlasses 148 = .ok (.bipush 60, 2) := by decide +kernel
theorem dX6_layGlasses_150 : decode cX6_layGlasses 150 = .ok (.if_icmp .gt 154, 3) := by decide +kernel
theorem dX6_layGlasses_153 : decode cX6_layGlasses 153 = .ok (.iconst 0, 1) := by decide +kernel
theorem dX6_layGlasses_154 : decode cX6_layGlasses 154 = .ok (.istore_n 2, 1) := by decide +kernel
theorem dX6_layGlasses_155 : decode cX6_layGlasses 155 = .ok (.iload_n 2, 1) := by decide +kernel
theorem dX6_layGlasses_156 : decode cX6_layGlasses 156 = .ok (.sipush 2197, 3) := by decide +kernel
theorem dX6_layGlasses_159 : decode cX6_layGlasses 159 = .ok (.if_icmp .ge 139, 3) := by decide +kernel
theorem dX6_layGlasses_162 : decode cX6_layGlasses 162 = .ok (.aload_n 0, 1) := by decide +kernel
theorem dX6_layGlasses_163 : decode cX6_layGlasses 163 = .ok (.getfield 60, 3) := by decide +kernel
theorem dX6_layGlasses_166 : decode cX6_layGlasses 166 = .ok (.sipush 2197, 3) := by decide +kernel
theorem dX6_layGlasses_169 : decode cX6_layGlasses 169 = .ok (.iload_n 1, 1) := by decide +kernel
theorem dX6_layGlasses_170 : decode cX6_layGlasses 170 = .ok (.imul, 1) := by decide +kernel
theorem dX6_layGlasses_171 : decode cX6_layGlasses 171 = .ok (.iload_n 2, 1) := by decide +kernel
theorem dX6_layGlasses_172 : decode cX6_layGlasses 172 = .ok (.iadd, 1) := by decide +kernel
theorem dX6_layGlasses_173 : decode cX6_layGlasses 173 = .ok (.iaload, 1) := by decide +kernel
theorem dX6_layGlasses_174 : decode cX6_layGlasses 174 = .ok (.istore_n 3, 1) := by decide +kernel
theorem dX6_layGlasses_175 : decode cX6_layGlasses 175 = .ok (.iconst 0, 1) := by decide +kernel
theorem dX6_layGlasses_176 : decode cX6_layGlasses 176 = .ok (.istore 4, 2) := by decide +kernel
theorem dX6_layGlasses_178 : decode cX6_layGlasses 178 = .ok (.iload 4, 2) := by decide +kernel
theorem dX6_layGlasses_180 : decode cX6_layGlasses 180 = .ok (.bipush 8, 2) := by decide +kernel
theorem dX6_layGlasses_182 : decode cX6_layGlasses 182 = .ok (.if_icmp .ge 110, 3) := by decide +kernel
theorem dX6_layGlasses_185 : decode cX6_layGlasses 185 = .ok (.iload_n 3, 1) := by decide +kernel
theorem dX6_layGlasses_186 : decode cX6_layGlasses 186 = .ok (.ldc 111, 2) := by decide +kernel
theorem dX6_layGlasses_188 : decode cX6_layGlasses 188 = .ok (.if_icmp .ge 104, 3) := by decide +kernel
theorem dX6_layGlasses_191 : decode cX6_layGlasses 191 = .ok (.aload_n 0, 1) := by decide +kernel
theorem dX6_layGlasses_192 : decode cX6_layGlasses 192 = .ok (.getfield 53, 3) := by decide +kernel
theorem dX6_layGlasses_195 : decode cX6_layGlasses 195 = .ok (.bipush 8, 2) := by decide +kernel
theorem dX6_layGlasses_197 : decode cX6_layGlasses 197 = .ok (.iload_n 2, 1) := by decide +kernel
theorem dX6_layGlasses_198 : decode cX6_layGlasses 198 = .ok (.imul, 1) := by decide +kernel
theorem dX6_layGlasses_199 : decode cX6_layGlasses 199 = .ok (.iload 4, 2) := by decide +kernel
theorem dX6_layGlasses_201 : decode cX6_layGlasses 201 = .ok (.iadd, 1) := by decide +kernel
theorem dX6_layGlasses_202 : decode cX6_layGlasses 202 = .ok (.iaload, 1) := by decide +kernel
theorem dX6_layGlasses_203 : decode cX6_layGlasses 203 = .ok (.istore 5, 2) := by decide +kernel
theorem dX6_layGlasses_205 : decode cX6_layGlasses 205 = .ok (.iload_n 1, 1) := by decide +kernel
theorem dX6_layGlasses_206 : decode cX6_layGlasses 206 = .ok (.aload_n 0, 1) := by decide +kernel
theorem dX6_layGlasses_207 : decode cX6_layGlasses 207 = .ok (.getfield 56, 3) := by decide +kernel
theorem dX6_layGlasses_210 : decode cX6_layGlasses 210 = .ok (.bipush 8, 2) := by decide +kernel
theorem dX6_layGlasses_212 : decode cX6_layGlasses 212 = .ok (.iload_n 2, 1) := by decide +kernel
theorem dX6_layGlasses_213 : decode cX6_layGlasses 213 = .ok (.imul, 1) := by decide +kernel
theorem dX6_layGlasses_214 : decode cX6_layGlasses 214 = .ok (.iload 4, 2) := by decide +kernel
theorem dX6_layGlasses_216 : decode cX6_layGlasses 216 = .ok (.iadd, 1) := by decide +kernel
theorem dX6_layGlasses_217 : decode cX6_layGlasses 217 = .ok (.iaload, 1) := by decide +kernel
theorem dX6_layGlasses_218 : decode cX6_layGlasses 218 = .ok (.iadd, 1) := by decide +kernel
theorem dX6_layGlasses_219 : decode cX6_layGlasses 219 = .ok (.istore 6, 2) := by decide +kernel
theorem dX6_layGlasses_221 : decode cX6_layGlasses 221 = .ok (.iload 5, 2) := by decide +kernel
theorem dX6_layGlasses_223 : decode cX6_layGlasses 223 = .ok (.iconst (-1), 1) := by decide +kernel
theorem dX6_layGlasses_224 : decode cX6_layGlasses 224 = .ok (.if_icmp .eq 62, 3) := by decide +kernel
theorem dX6_layGlasses_227 : decode cX6_layGlasses 227 = .ok (.iload 6, 2) := by decide +kernel
theorem dX6_layGlasses_229 : decode cX6_layGlasses 229 = .ok (.bipush 60, 2) := by decide +kernel
theorem dX6_layGlasses_231 : decode cX6_layGlasses 231 = .ok (.if_icmp .gt 55, 3) := by decide +kernel
theorem dX6_layGlasses_234 : decode cX6_layGlasses 234 = .ok (.sipush 2197, 3) := by decide +kernel
theorem dX6_layGlasses_237 : decode cX6_layGlasses 237 = .ok (.iload 6, 2) := by decide +kernel
theorem dX6_layGlasses_239 : decode cX6_layGlasses 239 = .ok (.imul, 1) := by decide +kernel
theorem dX6_layGlasses_240 : decode cX6_layGlasses 240 = .ok (.iload 5, 2) := by decide +kernel
theorem dX6_layGlasses_242 : decode cX6_layGlasses 242 = .ok (.iadd, 1) := by decide +kernel
theorem dX6_layGlasses_243 : decode cX6_layGlasses 243 = .ok (.istore 7, 2) := by decide +kernel
theorem dX6_layGlasses_245 : decode cX6_layGlasses 245 = .ok (.aload_n 0, 1) := by decide +kernel
theorem dX6_layGlasses_246 : decode cX6_layGlasses 246 = .ok (.getfield 60, 3) := by decide +kernel
theorem dX6_layGlasses_249 : decode cX6_layGlasses 249 = .ok (.iload 7, 2) := by decide +kernel
theorem dX6_layGlasses_251 : decode cX6_layGlasses 251 = .ok (.iload_n 3, 1) := by decide +kernel
theorem dX6_layGlasses_252 : decode cX6_layGlasses 252 = .ok (.iload 4, 2) := by decide +kernel
theorem dX6_layGlasses_254 : decode cX6_layGlasses 254 = .ok (.invokestatic 170, 3) := by decide +kernel
theorem dX6_layGlasses_257 : decode cX6_layGlasses 257 = .ok (.iadd, 1) := by decide +kernel
theorem dX6_layGlasses_258 : decode cX6_layGlasses 258 = .ok (.aload_n 0, 1) := by decide +kernel
theorem dX6_layGlasses_259 : decode cX6_layGlasses 259 = .ok (.getfield 60, 3) := by decide +kernel
theorem dX6_layGlasses_262 : decode cX6_layGlasses 262 = .ok (.iload 7, 2) := by decide +kernel
theorem dX6_layGlasses_264 : decode cX6_layGlasses 264 = .ok (.iaload, 1) := by decide +kernel
theorem dX6_layGlasses_265 : decode cX6_layGlasses 265 = .ok (.if_icmp .ge 13, 3) := by decide +kernel
theorem dX6_layGlasses_268 : decode cX6_layGlasses 268 = .ok (.iload_n 3, 1) := by decide +kernel
theorem dX6_layGlasses_269 : decode cX6_layGlasses 269 = .ok (.iload 4, 2) := by decide +kernel
theorem dX6_layGlasses_271 : decode cX6_layGlasses 271 = .ok (.invokestatic 170, 3) := by decide +kernel
theorem dX6_layGlasses_274 : decode cX6_layGlasses 274 = .ok (.iadd, 1) := by decide +kernel
theorem dX6_layGlasses_275 : decode cX6_layGlasses 275 = .ok (.goto 10, 3) := by decide +kernel
theorem dX6_layGlasses_278 : decode cX6_layGlasses 278 = .ok (.aload_n 0, 1) := by decide +kernel
theorem dX6_layGlasses_279 : decode cX6_layGlasses 279 = .ok (.getfield 60, 3) := by decide +kernel
theorem dX6_layGlasses_282 : decode cX6_layGlasses 282 = .ok (.iload 7, 2) := by decide +kernel
theorem dX6_layGlasses_284 : decode cX6_layGlasses 284 = .ok (.iaload, 1) := by decide +kernel
theorem dX6_layGlasses_285 : decode cX6_layGlasses 285 = .ok (.iastore, 1) := by decide +kernel
theorem dX6_layGlasses_286 : decode cX6_layGlasses 286 = .ok (.iinc 4 1, 3) := by decide +kernel
theorem dX6_layGlasses_289 : decode cX6_layGlasses 289 = .ok (.goto (-111), 3) := by decide +kernel
theorem dX6_layGlasses_292 : decode cX6_layGlasses 292 = .ok (.iinc 2 1, 3) := by decide +kernel
theorem dX6_layGlasses_295 : decode cX6_layGlasses 295 = .ok (.goto (-140), 3) := by decide +kernel
theorem dX6_layGlasses_298 : decode cX6_layGlasses 298 = .ok (.iinc 1 1, 3) := by decide +kernel
theorem dX6_layGlasses_301 : decode cX6_layGlasses 301 = .ok (.goto (-154), 3) := by decide +kernel
theorem dX6_layGlasses_304 : decode cX6_layGlasses 304 = .ok (.iconst 0, 1) := by decide +kernel
theorem dX6_layGlasses_305 : decode cX6_layGlasses 305 = .ok (.istore_n 1, 1) := by decide +kernel
theorem dX6_layGlasses_306 : decode cX6_layGlasses 306 = .ok (.iload_n 1, 1) := by decide +kernel
theorem dX6_layGlasses_307 : decode cX6_layGlasses 307 = .ok (.bipush 40, 2) := by decide +kernel
theorem dX6_layGlasses_309 : decode cX6_layGlasses 309 = .ok (.if_icmp .gt 163, 3) := by decide +kernel
theorem dX6_layGlasses_312 : decode cX6_layGlasses 312 = .ok (.iconst 0, 1) := by decide +kernel
theorem dX6_layGlasses_313 : decode cX6_layGlasses 313 = .ok (.istore_n 2, 1) := by decide +kernel
theorem dX6_layGlasses_314 : decode cX6_layGlasses 314 = .ok (.iload_n 2, 1) := by decide +kernel
theorem dX6_layGlasses_315 : decode cX6_layGlasses 315 = .ok (.sipush 2197, 3) := by decide +kernel
theorem dX6_layGlasses_318 : decode cX6_layGlasses 318 = .ok (.if_icmp .ge 148, 3) := by decide +kernel
theorem dX6_layGlasses_321 : decode cX6_layGlasses 321 = .ok (.iload_n 1, 1) := by decide +kernel
theorem dX6_layGlasses_322 : decode cX6_layGlasses 322 = .ok (.ifCond .ne 7, 3) := by decide +kernel
theorem dX6_layGlasses_325 : decode cX6_layGlasses 325 = .ok (.iconst 0, 1) := by decide +kernel
theorem dX6_layGlasses_326 : decode cX6_layGlasses 326 = .ok (.goto 5, 3) := by decide +kernel
theorem dX6_layGlasses_329 : decode cX6_layGlasses 329 = .ok (.ldc 111, 2) := by decide +kernel
theorem dX6_layGlasses_331 : decode cX6_layGlasses 331 = .ok (.istore_n 3, 1) := by decide +kernel
theorem dX6_layGlasses_332 : decode cX6_layGlasses 332 = .ok (.iconst 0, 1) := by decide +kernel
theorem dX6_layGlasses_333 : decode cX6_layGlasses 333 = .ok (.istore 4, 2) := by decide +kernel
theorem dX6_layGlasses_335 : decode cX6_layGlasses 335 = .ok (.iload 4, 2) := by decide +kernel
theorem dX6_layGlasses_337 : decode cX6_layGlasses 337 = .ok (.bipush 8, 2) := by decide +kernel
theorem dX6_layGlasses_339 : decode cX6_layGlasses 339 = .ok (.if_icmp .ge 108, 3) := by decide +kernel
theorem dX6_layGlasses_342 : decode cX6_layGlasses 342 = .ok (.iload_n 1, 1) := by decide +kernel
theorem dX6_layGlasses_343 : decode cX6_layGlasses 343 = .ok (.ifCond .le 104, 3) := by decide +kernel
theorem dX6_layGlasses_346 : decode cX6_layGlasses 346 = .ok (.aload_n 0, 1) := by decide +kernel
