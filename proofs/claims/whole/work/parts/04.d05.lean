theorem dX10_look_60 : decode cX10_look 60 = .ok (.aload_n 0, 1) := by decide +kernel
theorem dX10_look_61 : decode cX10_look 61 = .ok (.getfield 10, 3) := by decide +kernel
theorem dX10_look_64 : decode cX10_look 64 = .ok (.getfield 113, 3) := by decide +kernel
theorem dX10_look_67 : decode cX10_look 67 = .ok (.ireturn, 1) := by decide +kernel
theorem dX10_look_68 : decode cX10_look 68 = .ok (.aload_n 0, 1) := by decide +kernel
theorem dX10_look_69 : decode cX10_look 69 = .ok (.getfield 10, 3) := by decide +kernel
theorem dX10_look_72 : decode cX10_look 72 = .ok (.aload_n 0, 1) := by decide +kernel
theorem dX10_look_73 : decode cX10_look 73 = .ok (.getfield 30, 3) := by decide +kernel
theorem dX10_look_76 : decode cX10_look 76 = .ok (.invokevirtual 130, 3) := by decide +kernel
theorem dX10_look_79 : decode cX10_look 79 = .ok (.ireturn, 1) := by decide +kernel
theorem dX10_look_80 : decode cX10_look 80 = .ok (.aload_n 0, 1) := by decide +kernel
theorem dX10_look_81 : decode cX10_look 81 = .ok (.getfield 10, 3) := by decide +kernel
theorem dX10_look_84 : decode cX10_look 84 = .ok (.invokevirtual 134, 3) := by decide +kernel
theorem dX10_look_87 : decode cX10_look 87 = .ok (.ireturn, 1) := by decide +kernel
theorem dX10_look_88 : decode cX10_look 88 = .ok (.aload_n 0, 1) := by decide +kernel
theorem dX10_look_89 : decode cX10_look 89 = .ok (.getfield 38, 3) := by decide +kernel
theorem dX10_look_92 : decode cX10_look 92 = .ok (.ireturn, 1) := by decide +kernel
theorem dX10_look_93 : decode cX10_look 93 = .ok (.aload_n 0, 1) := by decide +kernel
theorem dX10_look_94 : decode cX10_look 94 = .ok (.getfield 41, 3) := by decide +kernel
theorem dX10_look_97 : decode cX10_look 97 = .ok (.ireturn, 1) := by decide +kernel
theorem dX10_look_98 : decode cX10_look 98 = .ok (.iconst (-1), 1) := by decide +kernel
theorem dX10_look_99 : decode cX10_look 99 = .ok (.ireturn, 1) := by decide +kernel
set_option maxRecDepth 20000 in
theorem ggX10_plan_X10_isToCome : GoodIn wsX10_plan wsX10_isToCome := goodIn_r _ [8, 9, 124, 125, 126, 127, 128, 129, 130] (by decide +kernel) (by decide +kernel)
set_option maxRecDepth 20000 in
theorem gX10_plan_X10_isToCome : GoodIn wsX10_plan (wsV RX10 138 RX10 yX10_isToCome wsX10_isToCome) := goodIn_app (goodIn_of _ (by decide +kernel)) ggX10_plan_X10_isToCome
set_option maxRecDepth 20000 in
theorem ggX10_plan_X9_isThere : GoodIn wsX10_plan wsX9_isThere := goodIn_r _ [14, 15, 16, 17, 18, 19, 7, 20, 134, 135, 136, 137, 138, 139, 140, 141, 142, 143, 144, 145, 146, 147, 148] (by decide +kernel) (by decide +kernel)
set_option maxRecDepth 20000 in
theorem gX10_plan_X9_isThere : GoodIn wsX10_plan (wsV RX10 142 RX9 yX9_isThere wsX9_isThere) := goodIn_app (goodIn_of _ (by decide +kernel)) ggX10_plan_X9_isThere
set_option maxRecDepth 20000 in
theorem ggX10_plan_X3_layOutByRank : GoodIn wsX10_plan wsX3_layOutByRank := goodIn_r _ [25, 26, 27, 28, 29, 30, 31, 24, 32, 33, 34, 35, 36, 37, 38, 39, 40, 41, 42, 11, 12, 13, 14, 15, 16, 17, 18, 19, 7, 20, 43, 44, 45, 46, 47, 48, 49, 50, 51, 52, 53, 54, 55, 56, 57, 58, 59, 60, 61, 62, 63, 64, 65, 66, 67, 68, 69, 70, 71, 72, 73, 74, 75, 76, 77, 78, 79, 80, 81, 82, 83, 84, 85, 86, 87, 88, 89, 90, 91, 92, 93, 94, 95, 96, 97, 98, 99, 100, 101, 102, 103, 104, 105, 106, 107, 108, 109, 110, 111, 112, 113, 114, 115, 134, 135, 136, 137, 138, 139, 140, 141, 142, 143, 144, 145, 146, 147, 148, 131, 132, 133, 149, 150, 151, 152, 153, 154, 155, 156, 157, 158, 159, 160, 161, 162, 163, 164, 165, 166, 167, 168, 169, 170, 171, 172, 173, 174, 175, 176, 177, 178, 179, 180, 181, 182, 183, 184] (by decide +kernel) (by decide +kernel)
set_option maxRecDepth 20000 in
theorem gX10_plan_X3_layOutByRank : GoodIn wsX10_plan (wsV RX10 145 RX3 yX3_layOutByRank wsX3_layOutByRank) := goodIn_app (goodIn_of _ (by decide +kernel)) ggX10_plan_X3_layOutByRank
set_option maxRecDepth 20000 in
theorem ggX10_plan_X5_tell : GoodIn wsX10_plan wsX5_tell := goodIn_r _ [119, 64, 65, 66, 67, 120, 121, 122, 60, 123, 96, 99, 97, 164, 165, 166, 167, 168, 169, 170, 171, 172, 173] (by decide +kernel) (by decide +kernel)
set_option maxRecDepth 20000 in
theorem gX10_plan_X5_tell : GoodIn wsX10_plan (wsV RX10 153 RX5 yX5_tell wsX5_tell) := goodIn_app (goodIn_of _ (by decide +kernel)) ggX10_plan_X5_tell
theorem dX10_plan_0 : decode cX10_plan 0 = .ok (.aload_n 0, 1) := by decide +kernel
theorem dX10_plan_1 : decode cX10_plan 1 = .ok (.iload_n 1, 1) := by decide +kernel
theorem dX10_plan_2 : decode cX10_plan 2 = .ok (.invokevirtual 138, 3) := by decide +kernel
theorem dX10_plan_5 : decode cX10_plan 5 = .ok (.ifCond .eq 15, 3) := by decide +kernel
theorem dX10_plan_8 : decode cX10_plan 8 = .ok (.aload_n 0, 1) := by decide +kernel
theorem dX10_plan_9 : decode cX10_plan 9 = .ok (.getfield 10, 3) := by decide +kernel
theorem dX10_plan_12 : decode cX10_plan 12 = .ok (.iload_n 2, 1) := by decide +kernel
theorem dX10_plan_13 : decode cX10_plan 13 = .ok (.iload_n 1, 1) := by decide +kernel
theorem dX10_plan_14 : decode cX10_plan 14 = .ok (.invokevirtual 142, 3) := by decide +kernel
theorem dX10_plan_17 : decode cX10_plan 17 = .ok (.ifCond .ne 5, 3) := by decide +kernel
theorem dX10_plan_20 : decode cX10_plan 20 = .ok (.iconst (-1), 1) := by decide +kernel
theorem dX10_plan_21 : decode cX10_plan 21 = .ok (.ireturn, 1) := by decide +kernel
theorem dX10_plan_22 : decode cX10_plan 22 = .ok (.aload_n 0, 1) := by decide +kernel
theorem dX10_plan_23 : decode cX10_plan 23 = .ok (.getfield 19, 3) := by decide +kernel
theorem dX10_plan_26 : decode cX10_plan 26 = .ok (.aload_n 0, 1) := by decide +kernel
theorem dX10_plan_27 : decode cX10_plan 27 = .ok (.getfield 10, 3) := by decide +kernel
theorem dX10_plan_30 : decode cX10_plan 30 = .ok (.iload_n 1, 1) := by decide +kernel
theorem dX10_plan_31 : decode cX10_plan 31 = .ok (.invokevirtual 145, 3) := by decide +kernel
theorem dX10_plan_34 : decode cX10_plan 34 = .ok (.aload_n 0, 1) := by decide +kernel
theorem dX10_plan_35 : decode cX10_plan 35 = .ok (.getfield 19, 3) := by decide +kernel
theorem dX10_plan_38 : decode cX10_plan 38 = .ok (.getfield 149, 3) := by decide +kernel
theorem dX10_plan_41 : decode cX10_plan 41 = .ok (.iload_n 2, 1) := by decide +kernel
theorem dX10_plan_42 : decode cX10_plan 42 = .ok (.aaload, 1) := by decide +kernel
theorem dX10_plan_43 : decode cX10_plan 43 = .ok (.iload_n 3, 1) := by decide +kernel
theorem dX10_plan_44 : decode cX10_plan 44 = .ok (.invokevirtual 153, 3) := by decide +kernel
theorem dX10_plan_47 : decode cX10_plan 47 = .ok (.ireturn, 1) := by decide +kernel
set_option maxRecDepth 20000 in
theorem ggX10_taken_X10_isToCome : GoodIn wsX10_taken wsX10_isToCome := goodIn_r _ [8, 9, 116, 117, 118, 119, 120, 121, 122] (by decide +kernel) (by decide +kernel)
set_option maxRecDepth 20000 in
theorem gX10_taken_X10_isToCome : GoodIn wsX10_taken (wsV RX10 138 RX10 yX10_isToCome wsX10_isToCome) := goodIn_app (goodIn_of _ (by decide +kernel)) ggX10_taken_X10_isToCome
set_option maxRecDepth 20000 in
theorem ggX10_taken_X10_isBelow : GoodIn wsX10_taken wsX10_isBelow := goodIn_r _ [12] (by decide +kernel) (by decide +kernel)
set_option maxRecDepth 20000 in
theorem gX10_taken_X10_isBelow : GoodIn wsX10_taken (va_wsS RX10 44 yX10_isBelow wsX10_isBelow) := goodIn_app (goodIn_of _ (by decide +kernel)) ggX10_taken_X10_isBelow
set_option maxRecDepth 20000 in
theorem ggX10_taken_X3_layOutByRank : GoodIn wsX10_taken wsX3_layOutByRank := goodIn_r _ [17, 18, 19, 20, 21, 22, 23, 16, 24, 25, 26, 27, 28, 29, 30, 31, 32, 33, 34, 35, 36, 37, 38, 39, 40, 41, 42, 11, 7, 12, 43, 44, 45, 46, 47, 48, 49, 50, 51, 52, 53, 54, 55, 56, 57, 58, 59, 60, 61, 62, 63, 64, 65, 66, 67, 68, 69, 70, 71, 72, 73, 74, 75, 76, 77, 78, 79, 80, 81, 82, 83, 84, 85, 86, 87, 88, 89, 90, 91, 92, 93, 94, 95, 96, 97, 98, 99, 100, 101, 102, 103, 104, 105, 106, 107, 108, 109, 110, 111, 112, 113, 114, 115, 126, 127, 128, 129, 130, 131, 132, 133, 134, 135, 136, 137, 138, 139, 140, 123, 124, 125, 141, 142, 143, 144, 145, 146, 147, 148, 149, 150, 151, 152, 153, 154, 155, 156, 157, 158, 159, 160, 161, 162, 163, 164, 165, 166, 167, 168, 169, 170, 171, 172, 173, 174, 175, 176] (by decide +kernel) (by decide +kernel)
set_option maxRecDepth 20000 in
theorem gX10_taken_X3_layOutByRank : GoodIn wsX10_taken (wsV RX10 145 RX3 yX3_layOutByRank wsX3_layOutByRank) := goodIn_app (goodIn_of _ (by decide +kernel)) ggX10_taken_X3_layOutByRank
theorem dX10_taken_0 : decode cX10_taken 0 = .ok (.aload_n 0, 1) := by decide +kernel
theorem dX10_taken_1 : decode cX10_taken 1 = .ok (.iload_n 1, 1) := by decide +kernel
theorem dX10_taken_2 : decode cX10_taken 2 = .ok (.invokevirtual 138, 3) := by decide +kernel
theorem dX10_taken_5 : decode cX10_taken 5 = .ok (.ifCond .eq 20, 3) := by decide +kernel
theorem dX10_taken_8 : decode cX10_taken 8 = .ok (.iload_n 2, 1) := by decide +kernel
theorem dX10_taken_9 : decode cX10_taken 9 = .ok (.iconst 4, 1) := by decide +kernel
theorem dX10_taken_10 : decode cX10_taken 10 = .ok (.invokestatic 44, 3) := by decide +kernel
theorem dX10_taken_13 : decode cX10_taken 13 = .ok (.ifCond .eq 12, 3) := by decide +kernel
theorem dX10_taken_16 : decode cX10_taken 16 = .ok (.iload_n 3, 1) := by decide +kernel
theorem dX10_taken_17 : decode cX10_taken 17 = .ok (.bipush 48, 2) := by decide +kernel
theorem dX10_taken_19 : decode cX10_taken 19 = .ok (.invokestatic 44, 3) := by decide +kernel
theorem dX10_taken_22 : decode cX10_taken 22 = .ok (.ifCond .ne 5, 3) := by decide +kernel
theorem dX10_taken_25 : decode cX10_taken 25 = .ok (.iconst (-1), 1) := by decide +kernel
theorem dX10_taken_26 : decode cX10_taken 26 = .ok (.ireturn, 1) := by decide +kernel
theorem dX10_taken_27 : decode cX10_taken 27 = .ok (.aload_n 0, 1) := by decide +kernel
theorem dX10_taken_28 : decode cX10_taken 28 = .ok (.getfield 19, 3) := by decide +kernel
theorem dX10_taken_31 : decode cX10_taken 31 = .ok (.aload_n 0, 1) := by decide +kernel
theorem dX10_taken_32 : decode cX10_taken 32 = .ok (.getfield 10, 3) := by decide +kernel
theorem dX10_taken_35 : decode cX10_taken 35 = .ok (.iload_n 1, 1) := by decide +kernel
theorem dX10_taken_36 : decode cX10_taken 36 = .ok (.invokevirtual 145, 3) := by decide +kernel
theorem dX10_taken_39 : decode cX10_taken 39 = .ok (.aload_n 0, 1) := by decide +kernel
theorem dX10_taken_40 : decode cX10_taken 40 = .ok (.getfield 19, 3) := by decide +kernel
theorem dX10_taken_43 : decode cX10_taken 43 = .ok (.getfield 158, 3) := by decide +kernel
theorem dX10_taken_46 : decode cX10_taken 46 = .ok (.iload_n 2, 1) := by decide +kernel
theorem dX10_taken_47 : decode cX10_taken 47 = .ok (.aaload, 1) := by decide +kernel
theorem dX10_taken_48 : decode cX10_taken 48 = .ok (.iload_n 3, 1) := by decide +kernel
theorem dX10_taken_49 : decode cX10_taken 49 = .ok (.iaload, 1) := by decide +kernel
theorem dX10_taken_50 : decode cX10_taken 50 = .ok (.ireturn, 1) := by decide +kernel
set_option maxRecDepth 20000 in
theorem ggX10_best_X10_isToCome : GoodIn wsX10_best wsX10_isToCome := goodIn_r _ [8, 9, 175, 176, 177, 178, 179, 180, 181] (by decide +kernel) (by decide +kernel)
set_option maxRecDepth 20000 in
theorem gX10_best_X10_isToCome : GoodIn wsX10_best (wsV RX10 138 RX10 yX10_isToCome wsX10_isToCome) := goodIn_app (goodIn_of _ (by decide +kernel)) ggX10_best_X10_isToCome
set_option maxRecDepth 20000 in
theorem ggX10_best_X9_countThere : GoodIn wsX10_best wsX9_countThere := goodIn_r _ [14, 15, 16, 17, 18, 13, 19, 20, 21, 22, 23, 7, 24, 182, 183, 184, 185, 186, 187, 188, 189, 190, 191, 192, 193, 194, 195, 196] (by decide +kernel) (by decide +kernel)
set_option maxRecDepth 20000 in
theorem gX10_best_X9_countThere : GoodIn wsX10_best (wsV RX10 130 RX9 yX9_countThere wsX9_countThere) := goodIn_app (goodIn_of _ (by decide +kernel)) ggX10_best_X9_countThere
set_option maxRecDepth 20000 in
theorem ggX10_best_X1_run : GoodIn wsX10_best wsX1_run := goodIn_r _ [29, 30, 31, 32, 33, 34, 35, 36, 37, 38, 39, 40, 41, 42, 43, 44, 45, 46, 47, 48, 49, 50, 28, 51, 52, 53, 54, 55, 56, 57, 58, 59, 60, 61, 17, 18, 13, 19, 15, 20, 21, 22, 23, 7, 24, 62, 63, 64, 65, 66, 67, 68, 69, 70, 71, 72, 73, 74, 75, 76, 77, 78, 79, 80, 81, 82, 83, 84, 85, 86, 87, 88, 89, 90, 91, 92, 93, 94, 95, 96, 97, 98, 99, 100, 101, 102, 103, 104, 105, 106, 107, 108, 109, 110, 111, 112, 113, 114, 115, 116, 117, 118, 119, 120, 121, 122, 123, 124, 125, 126, 127, 128, 129, 130, 131, 132, 133, 134, 135, 136, 137, 138, 139, 140, 141, 142, 143, 144, 145, 146, 147, 148, 149, 150, 151, 152, 153, 154, 155, 156, 157, 158, 159, 160, 161, 162, 163, 164, 165, 166, 167, 168, 169, 170, 197, 198, 199, 200, 201, 202, 203, 204, 205, 206, 207, 208, 209, 210, 182, 183, 184, 185, 186, 187, 211, 212, 213, 214, 215, 216, 217, 218, 219, 220, 188, 189, 190, 191, 192, 193, 194, 195, 196, 221, 222, 223, 224, 225, 226, 227, 228, 229, 230, 231, 232, 233, 234, 235, 236, 237, 238, 239, 240, 241, 242, 243, 244, 245, 246] (by decide +kernel) (by decide +kernel)
set_option maxRecDepth 20000 in
theorem gX10_best_X1_run : GoodIn wsX10_best (wsV RX10 162 RX1 yX1_run wsX1_run) := goodIn_app (goodIn_of _ (by decide +kernel)) ggX10_best_X1_run
set_option maxRecDepth 20000 in
theorem ggX10_best_X1_tell : GoodIn wsX10_best wsX1_tell := goodIn_r _ [174, 30, 31, 52, 158, 197, 198, 199, 200, 201, 202, 203, 204, 205, 206, 207] (by decide +kernel) (by decide +kernel)
set_option maxRecDepth 20000 in
theorem gX10_best_X1_tell : GoodIn wsX10_best (wsV RX10 166 RX1 yX1_tell wsX1_tell) := goodIn_app (goodIn_of _ (by decide +kernel)) ggX10_best_X1_tell
theorem dX10_best_0 : decode cX10_best 0 = .ok (.aload_n 0, 1) := by decide +kernel
theorem dX10_best_1 : decode cX10_best 1 = .ok (.iload_n 1, 1) := by decide +kernel
theorem dX10_best_2 : decode cX10_best 2 = .ok (.invokevirtual 138, 3) := by decide +kernel
theorem dX10_best_5 : decode cX10_best 5 = .ok (.ifCond .eq 16, 3) := by decide +kernel
theorem dX10_best_8 : decode cX10_best 8 = .ok (.aload_n 0, 1) := by decide +kernel
theorem dX10_best_9 : decode cX10_best 9 = .ok (.getfield 10, 3) := by decide +kernel
theorem dX10_best_12 : decode cX10_best 12 = .ok (.iload_n 1, 1) := by decide +kernel
theorem dX10_best_13 : decode cX10_best 13 = .ok (.invokevirtual 130, 3) := by decide +kernel
theorem dX10_best_16 : decode cX10_best 16 = .ok (.bipush 6, 2) := by decide +kernel
theorem dX10_best_18 : decode cX10_best 18 = .ok (.if_icmp .le 5, 3) := by decide +kernel
theorem dX10_best_21 : decode cX10_best 21 = .ok (.iconst (-1), 1) := by decide +kernel
theorem dX10_best_22 : decode cX10_best 22 = .ok (.ireturn, 1) := by decide +kernel
theorem dX10_best_23 : decode cX10_best 23 = .ok (.aload_n 0, 1) := by decide +kernel
theorem dX10_best_24 : decode cX10_best 24 = .ok (.getfield 26, 3) := by decide +kernel
theorem dX10_best_27 : decode cX10_best 27 = .ok (.aload_n 0, 1) := by decide +kernel
theorem dX10_best_28 : decode cX10_best 28 = .ok (.getfield 10, 3) := by decide +kernel
theorem dX10_best_31 : decode cX10_best 31 = .ok (.aload_n 0, 1) := by decide +kernel
theorem dX10_best_32 : decode cX10_best 32 = .ok (.getfield 19, 3) := by decide +kernel
theorem dX10_best_35 : decode cX10_best 35 = .ok (.iload_n 1, 1) := by decide +kernel
theorem dX10_best_36 : decode cX10_best 36 = .ok (.invokevirtual 162, 3) := by decide +kernel
theorem dX10_best_39 : decode cX10_best 39 = .ok (.aload_n 0, 1) := by decide +kernel
theorem dX10_best_40 : decode cX10_best 40 = .ok (.getfield 26, 3) := by decide +kernel
theorem dX10_best_43 : decode cX10_best 43 = .ok (.iload_n 2, 1) := by decide +kernel
theorem dX10_best_44 : decode cX10_best 44 = .ok (.invokevirtual 166, 3) := by decide +kernel
theorem dX10_best_47 : decode cX10_best 47 = .ok (.ireturn, 1) := by decide +kernel
set_option maxRecDepth 20000 in
theorem ggX10_keep_X9_countThere : GoodIn wsX10_keep wsX9_countThere := goodIn_r _ [8, 9, 10, 11, 12, 7, 13, 14, 15, 16, 17, 18, 19, 27, 28, 29, 30, 31, 32, 33, 34, 35, 36, 37, 38, 39, 40, 41] (by decide +kernel) (by decide +kernel)
set_option maxRecDepth 20000 in
theorem gX10_keep_X9_countThere : GoodIn wsX10_keep (wsV RX10 130 RX9 yX9_countThere wsX9_countThere) := goodIn_app (goodIn_of _ (by decide +kernel)) ggX10_keep_X9_countThere
theorem dX10_keep_0 : decode cX10_keep 0 = .ok (.aload_n 0, 1) := by decide +kernel
theorem dX10_keep_1 : decode cX10_keep 1 = .ok (.getfield 10, 3) := by decide +kernel
theorem dX10_keep_4 : decode cX10_keep 4 = .ok (.aload_n 0, 1) := by decide +kernel
theorem dX10_keep_5 : decode cX10_keep 5 = .ok (.getfield 30, 3) := by decide +kernel
theorem dX10_keep_8 : decode cX10_keep 8 = .ok (.invokevirtual 130, 3) := by decide +kernel
theorem dX10_keep_11 : decode cX10_keep 11 = .ok (.bipush 6, 2) := by decide +kernel
theorem dX10_keep_13 : decode cX10_keep 13 = .ok (.if_icmp .le 5, 3) := by decide +kernel
theorem dX10_keep_16 : decode cX10_keep 16 = .ok (.iconst 0, 1) := by decide +kernel
theorem dX10_keep_17 : decode cX10_keep 17 = .ok (.ireturn, 1) := by decide +kernel
theorem dX10_keep_18 : decode cX10_keep 18 = .ok (.aload_n 0, 1) := by decide +kernel
theorem dX10_keep_19 : decode cX10_keep 19 = .ok (.iload_n 1, 1) := by decide +kernel
theorem dX10_keep_20 : decode cX10_keep 20 = .ok (.putfield 34, 3) := by decide +kernel
theorem dX10_keep_23 : decode cX10_keep 23 = .ok (.iconst 1, 1) := by decide +kernel
theorem dX10_keep_24 : decode cX10_keep 24 = .ok (.ireturn, 1) := by decide +kernel
set_option maxRecDepth 20000 in
theorem ggX10_next_X9_countThere : GoodIn wsX10_next wsX9_countThere := goodIn_r _ [10, 11, 12, 13, 14, 9, 15, 16, 17, 18, 19, 20, 21, 232, 233, 234, 235, 236, 237, 238, 239, 240, 241, 242, 243, 244, 245, 246] (by decide +kernel) (by decide +kernel)
set_option maxRecDepth 20000 in
theorem gX10_next_X9_countThere : GoodIn wsX10_next (wsV RX10 130 RX9 yX9_countThere wsX9_countThere) := goodIn_app (goodIn_of _ (by decide +kernel)) ggX10_next_X9_countThere
set_option maxRecDepth 20000 in
theorem ggX10_next_X1_run : GoodIn wsX10_next wsX1_run := goodIn_r _ [26, 27, 28, 29, 30, 31, 32, 33, 34, 35, 36, 37, 38, 39, 40, 41, 42, 43, 44, 45, 46, 47, 25, 48, 49, 50, 51, 52, 53, 54, 55, 56, 57, 58, 13, 14, 9, 15, 11, 16, 17, 18, 19, 20, 21, 59, 60, 61, 62, 63, 64, 65, 66, 67, 68, 69, 70, 71, 72, 73, 74, 75, 76, 77, 78, 79, 80, 81, 82, 83, 84, 85, 86, 87, 88, 89, 90, 91, 92, 93, 94, 95, 96, 97, 98, 99, 100, 101, 102, 103, 104, 105, 106, 107, 108, 109, 110, 111, 112, 113, 114, 115, 116, 117, 118, 119, 120, 121, 122, 123, 124, 125, 126, 127, 128, 129, 130, 131, 132, 133, 134, 135, 136, 137, 138, 139, 140, 141, 142, 143, 144, 145, 146, 147, 148, 149, 150, 151, 152, 153, 154, 155, 156, 157, 158, 159, 160, 161, 162, 163, 164, 165, 166, 167, 247, 248, 249, 250, 251, 252, 253, 254, 255, 256, 257, 258, 259, 260, 232, 233, 234, 235, 236, 237, 261, 262, 263, 264, 265, 266, 267, 268, 269, 270, 238, 239, 240, 241, 242, 243, 244, 245, 246, 271, 272, 273, 274, 275, 276, 277, 278, 279, 280, 281, 282, 283, 284, 285, 286, 287, 288, 289, 290, 291, 292, 293, 294, 295, 296] (by decide +kernel) (by decide +kernel)
set_option maxRecDepth 20000 in
theorem gX10_next_X1_run : GoodIn wsX10_next (wsV RX10 162 RX1 yX1_run wsX1_run) := goodIn_app (goodIn_of _ (by decide +kernel)) ggX10_next_X1_run
set_option maxRecDepth 20000 in
theorem ggX10_next_X1_layOutBest : GoodIn wsX10_next wsX1_layOutBest := goodIn_r _ [171, 49, 155, 31, 32, 33, 34, 35, 36, 37, 38, 39, 40, 41, 42, 43, 44, 59, 60, 61, 62, 63, 64, 65, 66, 67, 68, 69, 70, 71, 72, 73, 74, 75, 76, 77, 78, 79, 80, 81, 82, 83, 84, 85, 86, 87, 88, 89, 90, 91, 92, 93, 94, 95, 96, 97, 98, 99, 100, 101, 102, 103, 104, 105, 106, 107, 108, 109, 110, 111, 112, 113, 114, 115, 116, 117, 118, 119, 120, 121, 122, 123, 124, 125, 126, 127, 128, 129, 130, 131, 132, 247, 248, 249, 250, 251, 252, 253, 254, 255, 256, 257, 258, 259, 260, 232, 233, 234, 235, 236, 237, 271, 272, 273, 274, 275, 276, 277, 278, 279, 280, 238, 239, 240, 241, 242, 243, 244, 245, 246, 281, 282, 283, 284, 285, 261, 262, 263, 264, 265, 266, 267, 268, 269, 270, 286, 287, 288, 289, 290, 291, 292, 293, 294, 295, 296] (by decide +kernel) (by decide +kernel)
set_option maxRecDepth 20000 in
theorem gX10_next_X1_layOutBest : GoodIn wsX10_next (wsV RX10 167 RX1 yX1_layOutBest wsX1_layOutBest) := goodIn_app (goodIn_of _ (by decide +kernel)) ggX10_next_X1_layOutBest
set_option maxRecDepth 20000 in
theorem ggX10_next_X3_layOutByRank : GoodIn wsX10_next wsX3_layOutByRank := goodIn_r _ [175, 176, 63, 177, 178, 32, 33, 34, 35, 36, 37, 38, 39, 40, 41, 42, 43, 44, 179, 13, 14, 9, 15, 11, 16, 17, 18, 19, 20, 21, 180, 60, 61, 62, 64, 65, 66, 67, 68, 69, 70, 71, 72, 73, 74, 75, 76, 77, 78, 79, 80, 81, 82, 83, 84, 85, 86, 87, 88, 89, 90, 91, 92, 93, 94, 95, 96, 97, 98, 99, 100, 101, 102, 103, 104, 105, 106, 107, 108, 109, 110, 111, 112, 113, 114, 115, 116, 117, 118, 119, 120, 121, 122, 123, 124, 125, 126, 127, 128, 129, 130, 131, 132, 232, 233, 234, 235, 236, 237, 238, 239, 240, 241, 242, 243, 244, 245, 246, 258, 259, 260, 271, 272, 273, 274, 275, 276, 277, 278, 279, 280, 281, 282, 283, 284, 285, 261, 262, 263, 264, 265, 266, 267, 268, 269, 270, 286, 287, 288, 289, 290, 291, 292, 293, 294, 295, 296] (by decide +kernel) (by decide +kernel)
set_option maxRecDepth 20000 in
theorem gX10_next_X3_layOutByRank : GoodIn wsX10_next (wsV RX10 145 RX3 yX3_layOutByRank wsX3_layOutByRank) := goodIn_app (goodIn_of _ (by decide +kernel)) ggX10_next_X3_layOutByRank
set_option maxRecDepth 20000 in
theorem ggX10_next_X10_countGuests : GoodIn wsX10_next wsX10_countGuests := goodIn_r _ [184, 3, 185, 1, 186, 187, 188, 189, 190, 191, 5, 192, 193, 194, 195, 196, 13, 14, 9, 15, 11, 16, 17, 18, 19, 20, 21, 225, 226, 227, 228, 229, 230, 231, 232, 233, 234, 235, 236, 237, 238, 239, 240, 241, 242, 243, 244, 245, 246, 258, 259, 260, 261, 262, 263, 264, 265, 266, 267, 268, 269, 270] (by decide +kernel) (by decide +kernel)
set_option maxRecDepth 20000 in
theorem gX10_next_X10_countGuests : GoodIn wsX10_next (wsV RX10 170 RX10 yX10_countGuests wsX10_countGuests) := goodIn_app (goodIn_of _ (by decide +kernel)) ggX10_next_X10_countGuests
set_option maxRecDepth 20000 in
theorem ggX10_next_X10_countWater : GoodIn wsX10_next wsX10_countWater := goodIn_r _ [200, 3, 201, 1, 5, 202, 203, 204, 34, 205, 36, 206, 207, 208, 209, 210, 211, 212, 213, 214, 215, 216, 217, 218, 225, 226, 227, 228, 229, 230, 231, 232, 233, 234, 235, 236, 237, 258, 259, 260, 286, 287, 288, 289, 290, 291, 292, 293, 294] (by decide +kernel) (by decide +kernel)
set_option maxRecDepth 20000 in
theorem gX10_next_X10_countWater : GoodIn wsX10_next (wsV RX10 173 RX10 yX10_countWater wsX10_countWater) := goodIn_app (goodIn_of _ (by decide +kernel)) ggX10_next_X10_countWater
set_option maxRecDepth 20000 in
theorem ggX10_next_X10_pourOut : GoodIn wsX10_next wsX10_pourOut := goodIn_r _ [222, 1, 223, 3, 201, 224, 225, 226, 227, 228, 229, 230, 231, 232, 233, 234, 235, 236, 237, 286, 287, 288, 289, 290, 291, 292, 293, 294] (by decide +kernel) (by decide +kernel)
set_option maxRecDepth 20000 in
theorem gX10_next_X10_pourOut : GoodIn wsX10_next (wsV RX10 176 RX10 yX10_pourOut wsX10_pourOut) := goodIn_app (goodIn_of _ (by decide +kernel)) ggX10_next_X10_pourOut
theorem dX10_next_0 : decode cX10_next 0 = .ok (.aload_n 0, 1) := by decide +kernel
theorem dX10_next_1 : decode cX10_next 1 = .ok (.getfield 30, 3) := by decide +kernel
theorem dX10_next_4 : decode cX10_next 4 = .ok (.bipush 99, 2) := by decide +kernel
theorem dX10_next_6 : decode cX10_next 6 = .ok (.if_icmp .lt 5, 3) := by decide +kernel
theorem dX10_next_9 : decode cX10_next 9 = .ok (.iconst (-1), 1) := by decide +kernel
theorem dX10_next_10 : decode cX10_next 10 = .ok (.ireturn, 1) := by decide +kernel
theorem dX10_next_11 : decode cX10_next 11 = .ok (.aload_n 0, 1) := by decide +kernel
theorem dX10_next_12 : decode cX10_next 12 = .ok (.getfield 34, 3) := by decide +kernel
theorem dX10_next_15 : decode cX10_next 15 = .ok (.ifCond .eq 60, 3) := by decide +kernel
theorem dX10_next_18 : decode cX10_next 18 = .ok (.aload_n 0, 1) := by decide +kernel
theorem dX10_next_19 : decode cX10_next 19 = .ok (.getfield 10, 3) := by decide +kernel
theorem dX10_next_22 : decode cX10_next 22 = .ok (.aload_n 0, 1) := by decide +kernel
theorem dX10_next_23 : decode cX10_next 23 = .ok (.getfield 30, 3) := by decide +kernel
theorem dX10_next_26 : decode cX10_next 26 = .ok (.invokevirtual 130, 3) := by decide +kernel
theorem dX10_next_29 : decode cX10_next 29 = .ok (.bipush 6, 2) := by decide +kernel
theorem dX10_next_31 : decode cX10_next 31 = .ok (.if_icmp .gt 44, 3) := by decide +kernel
theorem dX10_next_34 : decode cX10_next 34 = .ok (.aload_n 0, 1) := by decide +kernel
theorem dX10_next_35 : decode cX10_next 35 = .ok (.getfield 26, 3) := by decide +kernel
theorem dX10_next_38 : decode cX10_next 38 = .ok (.aload_n 0, 1) := by decide +kernel
theorem dX10_next_39 : decode cX10_next 39 = .ok (.getfield 10, 3) := by decide +kernel
theorem dX10_next_42 : decode cX10_next 42 = .ok (.aload_n 0, 1) := by decide +kernel
theorem dX10_next_43 : decode cX10_next 43 = .ok (.getfield 19, 3) := by decide +kernel
theorem dX10_next_46 : decode cX10_next 46 = .ok (.aload_n 0, 1) := by decide +kernel
theorem dX10_next_47 : decode cX10_next 47 = .ok (.getfield 30, 3) := by decide +kernel
theorem dX10_next_50 : decode cX10_next 50 = .ok (.invokevirtual 162, 3) := by decide +kernel
theorem dX10_next_53 : decode cX10_next 53 = .ok (.aload_n 0, 1) := by decide +kernel
theorem dX10_next_54 : decode cX10_next 54 = .ok (.getfield 26, 3) := by decide +kernel
theorem dX10_next_57 : decode cX10_next 57 = .ok (.aload_n 0, 1) := by decide +kernel
theorem dX10_next_58 : decode cX10_next 58 = .ok (.getfield 10, 3) := by decide +kernel
theorem dX10_next_61 : decode cX10_next 61 = .ok (.aload_n 0, 1) := by decide +kernel
theorem dX10_next_62 : decode cX10_next 62 = .ok (.getfield 19, 3) := by decide +kernel
theorem dX10_next_65 : decode cX10_next 65 = .ok (.aload_n 0, 1) := by decide +kernel
theorem dX10_next_66 : decode cX10_next 66 = .ok (.getfield 30, 3) := by decide +kernel
theorem dX10_next_69 : decode cX10_next 69 = .ok (.invokevirtual 167, 3) := by decide +kernel
theorem dX10_next_72 : decode cX10_next 72 = .ok (.goto 18, 3) := by decide +kernel
theorem dX10_next_75 : decode cX10_next 75 = .ok (.aload_n 0, 1) := by decide +kernel
theorem dX10_next_76 : decode cX10_next 76 = .ok (.getfield 19, 3) := by decide +kernel
theorem dX10_next_79 : decode cX10_next 79 = .ok (.aload_n 0, 1) := by decide +kernel
theorem dX10_next_80 : decode cX10_next 80 = .ok (.getfield 10, 3) := by decide +kernel
theorem dX10_next_83 : decode cX10_next 83 = .ok (.aload_n 0, 1) := by decide +kernel
theorem dX10_next_84 : decode cX10_next 84 = .ok (.getfield 30, 3) := by decide +kernel
theorem dX10_next_87 : decode cX10_next 87 = .ok (.invokevirtual 145, 3) := by decide +kernel
theorem dX10_next_90 : decode cX10_next 90 = .ok (.aload_n 0, 1) := by decide +kernel
theorem dX10_next_91 : decode cX10_next 91 = .ok (.invokevirtual 170, 3) := by decide +kernel
theorem dX10_next_94 : decode cX10_next 94 = .ok (.aload_n 0, 1) := by decide +kernel
theorem dX10_next_95 : decode cX10_next 95 = .ok (.invokevirtual 173, 3) := by decide +kernel
theorem dX10_next_98 : decode cX10_next 98 = .ok (.aload_n 0, 1) := by decide +kernel
theorem dX10_next_99 : decode cX10_next 99 = .ok (.dup, 1) := by decide +kernel
theorem dX10_next_100 : decode cX10_next 100 = .ok (.getfield 30, 3) := by decide +kernel
theorem dX10_next_103 : decode cX10_next 103 = .ok (.iconst 1, 1) := by decide +kernel
theorem dX10_next_104 : decode cX10_next 104 = .ok (.iadd, 1) := by decide +kernel
theorem dX10_next_105 : decode cX10_next 105 = .ok (.putfield 30, 3) := by decide +kernel
theorem dX10_next_108 : decode cX10_next 108 = .ok (.aload_n 0, 1) := by decide +kernel
theorem dX10_next_109 : decode cX10_next 109 = .ok (.iconst 0, 1) := by decide +kernel
theorem dX10_next_110 : decode cX10_next 110 = .ok (.putfield 34, 3) := by decide +kernel
theorem dX10_next_113 : decode cX10_next 113 = .ok (.aload_n 0, 1) := by decide +kernel
theorem dX10_next_114 : decode cX10_next 114 = .ok (.invokevirtual 176, 3) := by decide +kernel
theorem dX10_next_117 : decode cX10_next 117 = .ok (.aload_n 0, 1) := by decide +kernel
theorem dX10_next_118 : decode cX10_next 118 = .ok (.getfield 30, 3) := by decide +kernel
theorem dX10_next_121 : decode cX10_next 121 = .ok (.ireturn, 1) := by decide +kernel
set_option maxRecDepth 20000 in
theorem ggX10_water_X10_isBelow : GoodIn wsX10_water wsX10_isBelow := goodIn_r _ [10] (by decide +kernel) (by decide +kernel)
set_option maxRecDepth 20000 in
theorem gX10_water_X10_isBelow : GoodIn wsX10_water (va_wsS RX10 44 yX10_isBelow wsX10_isBelow) := goodIn_app (goodIn_of _ (by decide +kernel)) ggX10_water_X10_isBelow
theorem dX10_water_0 : decode cX10_water 0 = .ok (.iload_n 1, 1) := by decide +kernel
theorem dX10_water_1 : decode cX10_water 1 = .ok (.iconst 4, 1) := by decide +kernel
theorem dX10_water_2 : decode cX10_water 2 = .ok (.invokestatic 44, 3) := by decide +kernel
theorem dX10_water_5 : decode cX10_water 5 = .ok (.ifCond .ne 5, 3) := by decide +kernel
theorem dX10_water_8 : decode cX10_water 8 = .ok (.iconst (-1), 1) := by decide +kernel
theorem dX10_water_9 : decode cX10_water 9 = .ok (.ireturn, 1) := by decide +kernel
theorem dX10_water_10 : decode cX10_water 10 = .ok (.aload_n 0, 1) := by decide +kernel
theorem dX10_water_11 : decode cX10_water 11 = .ok (.getfield 10, 3) := by decide +kernel
theorem dX10_water_14 : decode cX10_water 14 = .ok (.getfield 48, 3) := by decide +kernel
theorem dX10_water_17 : decode cX10_water 17 = .ok (.iload_n 1, 1) := by decide +kernel
theorem dX10_water_18 : decode cX10_water 18 = .ok (.aaload, 1) := by decide +kernel
theorem dX10_water_19 : decode cX10_water 19 = .ok (.astore_n 3, 1) := by decide +kernel
theorem dX10_water_20 : decode cX10_water 20 = .ok (.iload_n 2, 1) := by decide +kernel
theorem dX10_water_21 : decode cX10_water 21 = .ok (.tableswitch 51 0 3 #[31, 36, 41, 46], 31) := by decide +kernel
theorem dX10_water_52 : decode cX10_water 52 = .ok (.aload_n 3, 1) := by decide +kernel
theorem dX10_water_53 : decode cX10_water 53 = .ok (.getfield 179, 3) := by decide +kernel
theorem dX10_water_56 : decode cX10_water 56 = .ok (.ireturn, 1) := by decide +kernel
theorem dX10_water_57 : decode cX10_water 57 = .ok (.aload_n 3, 1) := by decide +kernel
theorem dX10_water_58 : decode cX10_water 58 = .ok (.getfield 182, 3) := by decide +kernel
theorem dX10_water_61 : decode cX10_water 61 = .ok (.ireturn, 1) := by decide +kernel
theorem dX10_water_62 : decode cX10_water 62 = .ok (.aload_n 3, 1) := by decide +kernel
theorem dX10_water_63 : decode cX10_water 63 = .ok (.getfield 185, 3) := by decide +kernel
theorem dX10_water_66 : decode cX10_water 66 = .ok (.ireturn, 1) := by decide +kernel
theorem dX10_water_67 : decode cX10_water 67 = .ok (.aload_n 3, 1) := by decide +kernel
theorem dX10_water_68 : decode cX10_water 68 = .ok (.getfield 188, 3) := by decide +kernel
theorem dX10_water_71 : decode cX10_water 71 = .ok (.ireturn, 1) := by decide +kernel
theorem dX10_water_72 : decode cX10_water 72 = .ok (.iconst (-1), 1) := by decide +kernel
theorem dX10_water_73 : decode cX10_water 73 = .ok (.ireturn, 1) := by decide +kernel
set_option maxRecDepth 20000 in
theorem ggX10_bottles_X10_isBelow : GoodIn wsX10_bottles wsX10_isBelow := goodIn_r _ [7] (by decide +kernel) (by decide +kernel)
set_option maxRecDepth 20000 in
theorem gX10_bottles_X10_isBelow : GoodIn wsX10_bottles (va_wsS RX10 44 yX10_isBelow wsX10_isBelow) := goodIn_app (goodIn_of _ (by decide +kernel)) ggX10_bottles_X10_isBelow
theorem dX10_bottles_0 : decode cX10_bottles 0 = .ok (.iload_n 1, 1) := by decide +kernel
theorem dX10_bottles_1 : decode cX10_bottles 1 = .ok (.iconst 4, 1) := by decide +kernel
theorem dX10_bottles_2 : decode cX10_bottles 2 = .ok (.invokestatic 44, 3) := by decide +kernel
theorem dX10_bottles_5 : decode cX10_bottles 5 = .ok (.ifCond .eq 12, 3) := by decide +kernel
theorem dX10_bottles_8 : decode cX10_bottles 8 = .ok (.iload_n 2, 1) := by decide +kernel
theorem dX10_bottles_9 : decode cX10_bottles 9 = .ok (.bipush 100, 2) := by decide +kernel
theorem dX10_bottles_11 : decode cX10_bottles 11 = .ok (.invokestatic 44, 3) := by decide +kernel
theorem dX10_bottles_14 : decode cX10_bottles 14 = .ok (.ifCond .ne 5, 3) := by decide +kernel
theorem dX10_bottles_17 : decode cX10_bottles 17 = .ok (.iconst (-1), 1) := by decide +kernel
theorem dX10_bottles_18 : decode cX10_bottles 18 = .ok (.ireturn, 1) := by decide +kernel
theorem dX10_bottles_19 : decode cX10_bottles 19 = .ok (.aload_n 0, 1) := by decide +kernel
theorem dX10_bottles_20 : decode cX10_bottles 20 = .ok (.getfield 10, 3) := by decide +kernel
theorem dX10_bottles_23 : decode cX10_bottles 23 = .ok (.getfield 48, 3) := by decide +kernel
theorem dX10_bottles_26 : decode cX10_bottles 26 = .ok (.iload_n 1, 1) := by decide +kernel
theorem dX10_bottles_27 : decode cX10_bottles 27 = .ok (.aaload, 1) := by decide +kernel
theorem dX10_bottles_28 : decode cX10_bottles 28 = .ok (.getfield 191, 3) := by decide +kernel
theorem dX10_bottles_31 : decode cX10_bottles 31 = .ok (.iload_n 2, 1) := by decide +kernel
theorem dX10_bottles_32 : decode cX10_bottles 32 = .ok (.iaload, 1) := by decide +kernel
theorem dX10_bottles_33 : decode cX10_bottles 33 = .ok (.ireturn, 1) := by decide +kernel
theorem dX10_sell_0 : decode cX10_sell 0 = .ok (.iload_n 1, 1) := by decide +kernel
theorem dX10_sell_1 : decode cX10_sell 1 = .ok (.iconst 1, 1) := by decide +kernel
theorem dX10_sell_2 : decode cX10_sell 2 = .ok (.if_icmp .lt 10, 3) := by decide +kernel
theorem dX10_sell_5 : decode cX10_sell 5 = .ok (.iload_n 1, 1) := by decide +kernel
theorem dX10_sell_6 : decode cX10_sell 6 = .ok (.sipush 999, 3) := by decide +kernel
theorem dX10_sell_9 : decode cX10_sell 9 = .ok (.if_icmp .le 5, 3) := by decide +kernel
theorem dX10_sell_12 : decode cX10_sell 12 = .ok (.iconst (-1), 1) := by decide +kernel
theorem dX10_sell_13 : decode cX10_sell 13 = .ok (.ireturn, 1) := by decide +kernel
theorem dX10_sell_14 : decode cX10_sell 14 = .ok (.iload_n 1, 1) := by decide +kernel
theorem dX10_sell_15 : decode cX10_sell 15 = .ok (.istore_n 2, 1) := by decide +kernel
theorem dX10_sell_16 : decode cX10_sell 16 = .ok (.iconst 0, 1) := by decide +kernel
theorem dX10_sell_17 : decode cX10_sell 17 = .ok (.istore_n 3, 1) := by decide +kernel
theorem dX10_sell_18 : decode cX10_sell 18 = .ok (.iload_n 3, 1) := by decide +kernel
theorem dX10_sell_19 : decode cX10_sell 19 = .ok (.bipush 100, 2) := by decide +kernel
theorem dX10_sell_21 : decode cX10_sell 21 = .ok (.if_icmp .ge 63, 3) := by decide +kernel
theorem dX10_sell_24 : decode cX10_sell 24 = .ok (.iconst 0, 1) := by decide +kernel
theorem dX10_sell_25 : decode cX10_sell 25 = .ok (.istore 4, 2) := by decide +kernel
theorem dX10_sell_27 : decode cX10_sell 27 = .ok (.iload 4, 2) := by decide +kernel
theorem dX10_sell_29 : decode cX10_sell 29 = .ok (.iconst 4, 1) := by decide +kernel
theorem dX10_sell_30 : decode cX10_sell 30 = .ok (.if_icmp .ge 48, 3) := by decide +kernel
theorem dX10_sell_33 : decode cX10_sell 33 = .ok (.aload_n 0, 1) := by decide +kernel
theorem dX10_sell_34 : decode cX10_sell 34 = .ok (.getfield 10, 3) := by decide +kernel
theorem dX10_sell_37 : decode cX10_sell 37 = .ok (.getfield 48, 3) := by decide +kernel
theorem dX10_sell_40 : decode cX10_sell 40 = .ok (.iload 4, 2) := by decide +kernel
theorem dX10_sell_42 : decode cX10_sell 42 = .ok (.aaload, 1) := by decide +kernel
theorem dX10_sell_43 : decode cX10_sell 43 = .ok (.getfield 191, 3) := by decide +kernel
theorem dX10_sell_46 : decode cX10_sell 46 = .ok (.astore 5, 2) := by decide +kernel
theorem dX10_sell_48 : decode cX10_sell 48 = .ok (.iload_n 2, 1) := by decide +kernel
theorem dX10_sell_49 : decode cX10_sell 49 = .ok (.aload 5, 2) := by decide +kernel
theorem dX10_sell_51 : decode cX10_sell 51 = .ok (.iload_n 3, 1) := by decide +kernel
theorem dX10_sell_52 : decode cX10_sell 52 = .ok (.iaload, 1) := by decide +kernel
theorem dX10_sell_53 : decode cX10_sell 53 = .ok (.invokestatic 194, 3) := by decide +kernel
theorem dX10_sell_56 : decode cX10_sell 56 = .ok (.istore 6, 2) := by decide +kernel
theorem dX10_sell_58 : decode cX10_sell 58 = .ok (.aload 5, 2) := by decide +kernel
theorem dX10_sell_60 : decode cX10_sell 60 = .ok (.iload_n 3, 1) := by decide +kernel
theorem dX10_sell_61 : decode cX10_sell 61 = .ok (.dup2, 1) := by decide +kernel
theorem dX10_sell_62 : decode cX10_sell 62 = .ok (.iaload, 1) := by decide +kernel
theorem dX10_sell_63 : decode cX10_sell 63 = .ok (.iload 6, 2) := by decide +kernel
theorem dX10_sell_65 : decode cX10_sell 65 = .ok (.isub, 1) := by decide +kernel
theorem dX10_sell_66 : decode cX10_sell 66 = .ok (.iastore, 1) := by decide +kernel
theorem dX10_sell_67 : decode cX10_sell 67 = .ok (.iload_n 2, 1) := by decide +kernel
theorem dX10_sell_68 : decode cX10_sell 68 = .ok (.iload 6, 2) := by decide +kernel
theorem dX10_sell_70 : decode cX10_sell 70 = .ok (.isub, 1) := by decide +kernel
theorem dX10_sell_71 : decode cX10_sell 71 = .ok (.istore_n 2, 1) := by decide +kernel
theorem dX10_sell_72 : decode cX10_sell 72 = .ok (.iinc 4 1, 3) := by decide +kernel
theorem dX10_sell_75 : decode cX10_sell 75 = .ok (.goto (-48), 3) := by decide +kernel
theorem dX10_sell_78 : decode cX10_sell 78 = .ok (.iinc 3 1, 3) := by decide +kernel
theorem dX10_sell_81 : decode cX10_sell 81 = .ok (.goto (-63), 3) := by decide +kernel
theorem dX10_sell_84 : decode cX10_sell 84 = .ok (.aload_n 0, 1) := by decide +kernel
theorem dX10_sell_85 : decode cX10_sell 85 = .ok (.dup, 1) := by decide +kernel
theorem dX10_sell_86 : decode cX10_sell 86 = .ok (.getfield 38, 3) := by decide +kernel
theorem dX10_sell_89 : decode cX10_sell 89 = .ok (.iload_n 1, 1) := by decide +kernel
theorem dX10_sell_90 : decode cX10_sell 90 = .ok (.iload_n 2, 1) := by decide +kernel
theorem dX10_sell_91 : decode cX10_sell 91 = .ok (.isub, 1) := by decide +kernel
theorem dX10_sell_92 : decode cX10_sell 92 = .ok (.iadd, 1) := by decide +kernel
theorem dX10_sell_93 : decode cX10_sell 93 = .ok (.putfield 38, 3) := by decide +kernel
theorem dX10_sell_96 : decode cX10_sell 96 = .ok (.iload_n 1, 1) := by decide +kernel
theorem dX10_sell_97 : decode cX10_sell 97 = .ok (.iload_n 2, 1) := by decide +kernel
theorem dX10_sell_98 : decode cX10_sell 98 = .ok (.isub, 1) := by decide +kernel
theorem dX10_sell_99 : decode cX10_sell 99 = .ok (.ireturn, 1) := by decide +kernel
set_option maxRecDepth 20000 in
theorem ggX10_bill_X10_isBelow : GoodIn wsX10_bill wsX10_isBelow := goodIn_r _ [11] (by decide +kernel) (by decide +kernel)
set_option maxRecDepth 20000 in
theorem gX10_bill_X10_isBelow : GoodIn wsX10_bill (va_wsS RX10 44 yX10_isBelow wsX10_isBelow) := goodIn_app (goodIn_of _ (by decide +kernel)) ggX10_bill_X10_isBelow
theorem dX10_bill_0 : decode cX10_bill 0 = .ok (.iload_n 1, 1) := by decide +kernel
theorem dX10_bill_1 : decode cX10_bill 1 = .ok (.aload_n 0, 1) := by decide +kernel
theorem dX10_bill_2 : decode cX10_bill 2 = .ok (.getfield 10, 3) := by decide +kernel
theorem dX10_bill_5 : decode cX10_bill 5 = .ok (.getfield 113, 3) := by decide +kernel
theorem dX10_bill_8 : decode cX10_bill 8 = .ok (.invokestatic 44, 3) := by decide +kernel
theorem dX10_bill_11 : decode cX10_bill 11 = .ok (.ifCond .ne 5, 3) := by decide +kernel
theorem dX10_bill_14 : decode cX10_bill 14 = .ok (.iconst (-1), 1) := by decide +kernel
theorem dX10_bill_15 : decode cX10_bill 15 = .ok (.ireturn, 1) := by decide +kernel
theorem dX10_bill_16 : decode cX10_bill 16 = .ok (.aload_n 0, 1) := by decide +kernel
theorem dX10_bill_17 : decode cX10_bill 17 = .ok (.getfield 10, 3) := by decide +kernel
theorem dX10_bill_20 : decode cX10_bill 20 = .ok (.getfield 116, 3) := by decide +kernel
theorem dX10_bill_23 : decode cX10_bill 23 = .ok (.iload_n 1, 1) := by decide +kernel
theorem dX10_bill_24 : decode cX10_bill 24 = .ok (.aaload, 1) := by decide +kernel
theorem dX10_bill_25 : decode cX10_bill 25 = .ok (.astore_n 3, 1) := by decide +kernel
theorem dX10_bill_26 : decode cX10_bill 26 = .ok (.iload_n 2, 1) := by decide +kernel
theorem dX10_bill_27 : decode cX10_bill 27 = .ok (.tableswitch 49 0 3 #[29, 34, 39, 44], 29) := by decide +kernel
theorem dX10_bill_56 : decode cX10_bill 56 = .ok (.aload_n 3, 1) := by decide +kernel
theorem dX10_bill_57 : decode cX10_bill 57 = .ok (.getfield 200, 3) := by decide +kernel
theorem dX10_bill_60 : decode cX10_bill 60 = .ok (.ireturn, 1) := by decide +kernel
theorem dX10_bill_61 : decode cX10_bill 61 = .ok (.aload_n 3, 1) := by decide +kernel
theorem dX10_bill_62 : decode cX10_bill 62 = .ok (.getfield 203, 3) := by decide +kernel
theorem dX10_bill_65 : decode cX10_bill 65 = .ok (.ireturn, 1) := by decide +kernel
theorem dX10_bill_66 : decode cX10_bill 66 = .ok (.aload_n 3, 1) := by decide +kernel
theorem dX10_bill_67 : decode cX10_bill 67 = .ok (.getfield 206, 3) := by decide +kernel
theorem dX10_bill_70 : decode cX10_bill 70 = .ok (.ireturn, 1) := by decide +kernel
theorem dX10_bill_71 : decode cX10_bill 71 = .ok (.aload_n 3, 1) := by decide +kernel
theorem dX10_bill_72 : decode cX10_bill 72 = .ok (.getfield 207, 3) := by decide +kernel
theorem dX10_bill_75 : decode cX10_bill 75 = .ok (.ireturn, 1) := by decide +kernel
theorem dX10_bill_76 : decode cX10_bill 76 = .ok (.iconst (-1), 1) := by decide +kernel
theorem dX10_bill_77 : decode cX10_bill 77 = .ok (.ireturn, 1) := by decide +kernel
theorem dX10_isBelow_0 : decode cX10_isBelow 0 = .ok (.iload_n 0, 1) := by decide +kernel
theorem dX10_isBelow_1 : decode cX10_isBelow 1 = .ok (.ifCond .lt 12, 3) := by decide +kernel
theorem dX10_isBelow_4 : decode cX10_isBelow 4 = .ok (.iload_n 0, 1) := by decide +kernel
theorem dX10_isBelow_5 : decode cX10_isBelow 5 = .ok (.iload_n 1, 1) := by decide +kernel
theorem dX10_isBelow_6 : decode cX10_isBelow 6 = .ok (.if_icmp .ge 7, 3) := by decide +kernel
theorem dX10_isBelow_9 : decode cX10_isBelow 9 = .ok (.iconst 1, 1) := by decide +kernel
theorem dX10_isBelow_10 : decode cX10_isBelow 10 = .ok (.goto 4, 3) := by decide +kernel
theorem dX10_isBelow_13 : decode cX10_isBelow 13 = .ok (.iconst 0, 1) := by decide +kernel
theorem dX10_isBelow_14 : decode cX10_isBelow 14 = .ok (.ireturn, 1) := by decide +kernel
theorem dX10_isToCome_0 : decode cX10_isToCome 0 = .ok (.iload_n 1, 1) := by decide +kernel
theorem dX10_isToCome_1 : decode cX10_isToCome 1 = .ok (.aload_n 0, 1) := by decide +kernel
theorem dX10_isToCome_2 : decode cX10_isToCome 2 = .ok (.getfield 30, 3) := by decide +kernel
theorem dX10_isToCome_5 : decode cX10_isToCome 5 = .ok (.if_icmp .lt 13, 3) := by decide +kernel
theorem dX10_isToCome_8 : decode cX10_isToCome 8 = .ok (.iload_n 1, 1) := by decide +kernel
theorem dX10_isToCome_9 : decode cX10_isToCome 9 = .ok (.bipush 100, 2) := by decide +kernel
theorem dX10_isToCome_11 : decode cX10_isToCome 11 = .ok (.if_icmp .ge 7, 3) := by decide +kernel
theorem dX10_isToCome_14 : decode cX10_isToCome 14 = .ok (.iconst 1, 1) := by decide +kernel
theorem dX10_isToCome_15 : decode cX10_isToCome 15 = .ok (.goto 4, 3) := by decide +kernel
theorem dX10_isToCome_18 : decode cX10_isToCome 18 = .ok (.iconst 0, 1) := by decide +kernel
theorem dX10_isToCome_19 : decode cX10_isToCome 19 = .ok (.ireturn, 1) := by decide +kernel
set_option maxRecDepth 20000 in
theorem ggX10_countGuests_X9_isThere : GoodIn wsX10_countGuests wsX9_isThere := goodIn_r _ [19, 20, 21, 22, 23, 24, 25, 26, 34, 35, 36, 37, 38, 39, 40, 41, 42, 43, 44, 45, 46, 47, 48] (by decide +kernel) (by decide +kernel)
set_option maxRecDepth 20000 in
theorem gX10_countGuests_X9_isThere : GoodIn wsX10_countGuests (wsV RX10 142 RX9 yX9_isThere wsX9_isThere) := goodIn_app (goodIn_of _ (by decide +kernel)) ggX10_countGuests_X9_isThere
theorem dX10_countGuests_0 : decode cX10_countGuests 0 = .ok (.iconst 0, 1) := by decide +kernel
theorem dX10_countGuests_1 : decode cX10_countGuests 1 = .ok (.istore_n 1, 1) := by decide +kernel
theorem dX10_countGuests_2 : decode cX10_countGuests 2 = .ok (.iload_n 1, 1) := by decide +kernel
theorem dX10_countGuests_3 : decode cX10_countGuests 3 = .ok (.aload_n 0, 1) := by decide +kernel
theorem dX10_countGuests_4 : decode cX10_countGuests 4 = .ok (.getfield 10, 3) := by decide +kernel
theorem dX10_countGuests_7 : decode cX10_countGuests 7 = .ok (.getfield 113, 3) := by decide +kernel
theorem dX10_countGuests_10 : decode cX10_countGuests 10 = .ok (.if_icmp .ge 107, 3) := by decide +kernel
theorem dX10_countGuests_13 : decode cX10_countGuests 13 = .ok (.aload_n 0, 1) := by decide +kernel
theorem dX10_countGuests_14 : decode cX10_countGuests 14 = .ok (.getfield 10, 3) := by decide +kernel
theorem dX10_countGuests_17 : decode cX10_countGuests 17 = .ok (.iload_n 1, 1) := by decide +kernel
theorem dX10_countGuests_18 : decode cX10_countGuests 18 = .ok (.aload_n 0, 1) := by decide +kernel
theorem dX10_countGuests_19 : decode cX10_countGuests 19 = .ok (.getfield 30, 3) := by decide +kernel
theorem dX10_countGuests_22 : decode cX10_countGuests 22 = .ok (.invokevirtual 142, 3) := by decide +kernel
theorem dX10_countGuests_25 : decode cX10_countGuests 25 = .ok (.ifCond .eq 86, 3) := by decide +kernel
theorem dX10_countGuests_28 : decode cX10_countGuests 28 = .ok (.aload_n 0, 1) := by decide +kernel
theorem dX10_countGuests_29 : decode cX10_countGuests 29 = .ok (.getfield 10, 3) := by decide +kernel
theorem dX10_countGuests_32 : decode cX10_countGuests 32 = .ok (.getfield 116, 3) := by decide +kernel
theorem dX10_countGuests_35 : decode cX10_countGuests 35 = .ok (.iload_n 1, 1) := by decide +kernel
theorem dX10_countGuests_36 : decode cX10_countGuests 36 = .ok (.aaload, 1) := by decide +kernel
theorem dX10_countGuests_37 : decode cX10_countGuests 37 = .ok (.astore_n 2, 1) := by decide +kernel
theorem dX10_countGuests_38 : decode cX10_countGuests 38 = .ok (.aload_n 2, 1) := by decide +kernel
theorem dX10_countGuests_39 : decode cX10_countGuests 39 = .ok (.dup, 1) := by decide +kernel
theorem dX10_countGuests_40 : decode cX10_countGuests 40 = .ok (.getfield 200, 3) := by decide +kernel
theorem dX10_countGuests_43 : decode cX10_countGuests 43 = .ok (.iconst 1, 1) := by decide +kernel
theorem dX10_countGuests_44 : decode cX10_countGuests 44 = .ok (.iadd, 1) := by decide +kernel
theorem dX10_countGuests_45 : decode cX10_countGuests 45 = .ok (.putfield 200, 3) := by decide +kernel
theorem dX10_countGuests_48 : decode cX10_countGuests 48 = .ok (.aload_n 2, 1) := by decide +kernel
theorem dX10_countGuests_49 : decode cX10_countGuests 49 = .ok (.dup, 1) := by decide +kernel
theorem dX10_countGuests_50 : decode cX10_countGuests 50 = .ok (.getfield 203, 3) := by decide +kernel
theorem dX10_countGuests_53 : decode cX10_countGuests 53 = .ok (.aload_n 0, 1) := by decide +kernel
theorem dX10_countGuests_54 : decode cX10_countGuests 54 = .ok (.getfield 10, 3) := by decide +kernel
theorem dX10_countGuests_57 : decode cX10_countGuests 57 = .ok (.getfield 78, 3) := by decide +kernel
theorem dX10_countGuests_60 : decode cX10_countGuests 60 = .ok (.aload_n 2, 1) := by decide +kernel
theorem dX10_countGuests_61 : decode cX10_countGuests 61 = .ok (.getfield 210, 3) := by decide +kernel
theorem dX10_countGuests_64 : decode cX10_countGuests 64 = .ok (.iaload, 1) := by decide +kernel
theorem dX10_countGuests_65 : decode cX10_countGuests 65 = .ok (.iadd, 1) := by decide +kernel
theorem dX10_countGuests_66 : decode cX10_countGuests 66 = .ok (.putfield 203, 3) := by decide +kernel
theorem dX10_countGuests_69 : decode cX10_countGuests 69 = .ok (.aload_n 2, 1) := by decide +kernel
theorem dX10_countGuests_70 : decode cX10_countGuests 70 = .ok (.dup, 1) := by decide +kernel
theorem dX10_countGuests_71 : decode cX10_countGuests 71 = .ok (.getfield 206, 3) := by decide +kernel
theorem dX10_countGuests_74 : decode cX10_countGuests 74 = .ok (.aload_n 0, 1) := by decide +kernel
theorem dX10_countGuests_75 : decode cX10_countGuests 75 = .ok (.getfield 19, 3) := by decide +kernel
theorem dX10_countGuests_78 : decode cX10_countGuests 78 = .ok (.getfield 149, 3) := by decide +kernel
theorem dX10_countGuests_81 : decode cX10_countGuests 81 = .ok (.iload_n 1, 1) := by decide +kernel
theorem dX10_countGuests_82 : decode cX10_countGuests 82 = .ok (.aaload, 1) := by decide +kernel
theorem dX10_countGuests_83 : decode cX10_countGuests 83 = .ok (.getfield 213, 3) := by decide +kernel
theorem dX10_countGuests_86 : decode cX10_countGuests 86 = .ok (.iadd, 1) := by decide +kernel
theorem dX10_countGuests_87 : decode cX10_countGuests 87 = .ok (.putfield 206, 3) := by decide +kernel
theorem dX10_countGuests_90 : decode cX10_countGuests 90 = .ok (.aload_n 2, 1) := by decide +kernel
theorem dX10_countGuests_91 : decode cX10_countGuests 91 = .ok (.dup, 1) := by decide +kernel
theorem dX10_countGuests_92 : decode cX10_countGuests 92 = .ok (.getfield 207, 3) := by decide +kernel
theorem dX10_countGuests_95 : decode cX10_countGuests 95 = .ok (.aload_n 0, 1) := by decide +kernel
theorem dX10_countGuests_96 : decode cX10_countGuests 96 = .ok (.getfield 19, 3) := by decide +kernel
theorem dX10_countGuests_99 : decode cX10_countGuests 99 = .ok (.getfield 149, 3) := by decide +kernel
theorem dX10_countGuests_102 : decode cX10_countGuests 102 = .ok (.iload_n 1, 1) := by decide +kernel
theorem dX10_countGuests_103 : decode cX10_countGuests 103 = .ok (.aaload, 1) := by decide +kernel
theorem dX10_countGuests_104 : decode cX10_countGuests 104 = .ok (.getfield 214, 3) := by decide +kernel
theorem dX10_countGuests_107 : decode cX10_countGuests 107 = .ok (.iadd, 1) := by decide +kernel
theorem dX10_countGuests_108 : decode cX10_countGuests 108 = .ok (.putfield 207, 3) := by decide +kernel
theorem dX10_countGuests_111 : decode cX10_countGuests 111 = .ok (.iinc 1 1, 3) := by decide +kernel
theorem dX10_countGuests_114 : decode cX10_countGuests 114 = .ok (.goto (-112), 3) := by decide +kernel
theorem dX10_countGuests_117 : decode cX10_countGuests 117 = .ok (.return_, 1) := by decide +kernel
set_option maxRecDepth 20000 in
theorem ggX10_countWater_X3_countTaken : GoodIn wsX10_countWater wsX3_countTaken := goodIn_r _ [9, 10, 37, 38, 39] (by decide +kernel) (by decide +kernel)
set_option maxRecDepth 20000 in
theorem gX10_countWater_X3_countTaken : GoodIn wsX10_countWater (wsV RX10 215 RX3 yX3_countTaken wsX3_countTaken) := goodIn_app (goodIn_of _ (by decide +kernel)) ggX10_countWater_X3_countTaken
set_option maxRecDepth 20000 in
theorem ggX10_countWater_X7_closeDay : GoodIn wsX10_countWater wsX7_closeDay := goodIn_r _ [15, 16, 17, 18, 19, 20, 21, 22, 23, 40, 41, 42, 43, 44, 45, 46, 47, 48] (by decide +kernel) (by decide +kernel)
set_option maxRecDepth 20000 in
theorem gX10_countWater_X7_closeDay : GoodIn wsX10_countWater (wsV RX10 218 RX7 yX7_closeDay wsX7_closeDay) := goodIn_app (goodIn_of _ (by decide +kernel)) ggX10_countWater_X7_closeDay
theorem dX10_countWater_0 : decode cX10_countWater 0 = .ok (.iconst 0, 1) := by decide +kernel
theorem dX10_countWater_1 : decode cX10_countWater 1 = .ok (.istore_n 1, 1) := by decide +kernel
theorem dX10_countWater_2 : decode cX10_countWater 2 = .ok (.iload_n 1, 1) := by decide +kernel
theorem dX10_countWater_3 : decode cX10_countWater 3 = .ok (.iconst 4, 1) := by decide +kernel
theorem dX10_countWater_4 : decode cX10_countWater 4 = .ok (.if_icmp .ge 33, 3) := by decide +kernel
theorem dX10_countWater_7 : decode cX10_countWater 7 = .ok (.aload_n 0, 1) := by decide +kernel
theorem dX10_countWater_8 : decode cX10_countWater 8 = .ok (.getfield 10, 3) := by decide +kernel
theorem dX10_countWater_11 : decode cX10_countWater 11 = .ok (.getfield 48, 3) := by decide +kernel
theorem dX10_countWater_14 : decode cX10_countWater 14 = .ok (.iload_n 1, 1) := by decide +kernel
theorem dX10_countWater_15 : decode cX10_countWater 15 = .ok (.aaload, 1) := by decide +kernel
theorem dX10_countWater_16 : decode cX10_countWater 16 = .ok (.aload_n 0, 1) := by decide +kernel
theorem dX10_countWater_17 : decode cX10_countWater 17 = .ok (.getfield 30, 3) := by decide +kernel
theorem dX10_countWater_20 : decode cX10_countWater 20 = .ok (.aload_n 0, 1) := by decide +kernel
theorem dX10_countWater_21 : decode cX10_countWater 21 = .ok (.getfield 19, 3) := by decide +kernel
theorem dX10_countWater_24 : decode cX10_countWater 24 = .ok (.iload_n 1, 1) := by decide +kernel
theorem dX10_countWater_25 : decode cX10_countWater 25 = .ok (.invokevirtual 215, 3) := by decide +kernel
theorem dX10_countWater_28 : decode cX10_countWater 28 = .ok (.invokevirtual 218, 3) := by decide +kernel
theorem dX10_countWater_31 : decode cX10_countWater 31 = .ok (.iinc 1 1, 3) := by decide +kernel
theorem dX10_countWater_34 : decode cX10_countWater 34 = .ok (.goto (-32), 3) := by decide +kernel
theorem dX10_countWater_37 : decode cX10_countWater 37 = .ok (.return_, 1) := by decide +kernel
theorem dX10_pourOut_0 : decode cX10_pourOut 0 = .ok (.aload_n 0, 1) := by decide +kernel
theorem dX10_pourOut_1 : decode cX10_pourOut 1 = .ok (.getfield 30, 3) := by decide +kernel
theorem dX10_pourOut_4 : decode cX10_pourOut 4 = .ok (.bipush 20, 2) := by decide +kernel
theorem dX10_pourOut_6 : decode cX10_pourOut 6 = .ok (.isub, 1) := by decide +kernel
theorem dX10_pourOut_7 : decode cX10_pourOut 7 = .ok (.istore_n 1, 1) := by decide +kernel
theorem dX10_pourOut_8 : decode cX10_pourOut 8 = .ok (.iload_n 1, 1) := by decide +kernel
theorem dX10_pourOut_9 : decode cX10_pourOut 9 = .ok (.ifCond .ge 4, 3) := by decide +kernel
theorem dX10_pourOut_12 : decode cX10_pourOut 12 = .ok (.return_, 1) := by decide +kernel
theorem dX10_pourOut_13 : decode cX10_pourOut 13 = .ok (.iconst 0, 1) := by decide +kernel
theorem dX10_pourOut_14 : decode cX10_pourOut 14 = .ok (.istore_n 2, 1) := by decide +kernel
theorem dX10_pourOut_15 : decode cX10_pourOut 15 = .ok (.iload_n 2, 1) := by decide +kernel
theorem dX10_pourOut_16 : decode cX10_pourOut 16 = .ok (.iconst 4, 1) := by decide +kernel
theorem dX10_pourOut_17 : decode cX10_pourOut 17 = .ok (.if_icmp .ge 47, 3) := by decide +kernel
theorem dX10_pourOut_20 : decode cX10_pourOut 20 = .ok (.aload_n 0, 1) := by decide +kernel
theorem dX10_pourOut_21 : decode cX10_pourOut 21 = .ok (.dup, 1) := by decide +kernel
theorem dX10_pourOut_22 : decode cX10_pourOut 22 = .ok (.getfield 41, 3) := by decide +kernel
theorem dX10_pourOut_25 : decode cX10_pourOut 25 = .ok (.aload_n 0, 1) := by decide +kernel
theorem dX10_pourOut_26 : decode cX10_pourOut 26 = .ok (.getfield 10, 3) := by decide +kernel
theorem dX10_pourOut_29 : decode cX10_pourOut 29 = .ok (.getfield 48, 3) := by decide +kernel
theorem dX10_pourOut_32 : decode cX10_pourOut 32 = .ok (.iload_n 2, 1) := by decide +kernel
theorem dX10_pourOut_33 : decode cX10_pourOut 33 = .ok (.aaload, 1) := by decide +kernel
theorem dX10_pourOut_34 : decode cX10_pourOut 34 = .ok (.getfield 191, 3) := by decide +kernel
theorem dX10_pourOut_37 : decode cX10_pourOut 37 = .ok (.iload_n 1, 1) := by decide +kernel
theorem dX10_pourOut_38 : decode cX10_pourOut 38 = .ok (.iaload, 1) := by decide +kernel
theorem dX10_pourOut_39 : decode cX10_pourOut 39 = .ok (.iadd, 1) := by decide +kernel
theorem dX10_pourOut_40 : decode cX10_pourOut 40 = .ok (.putfield 41, 3) := by decide +kernel
theorem dX10_pourOut_43 : decode cX10_pourOut 43 = .ok (.aload_n 0, 1) := by decide +kernel
theorem dX10_pourOut_44 : decode cX10_pourOut 44 = .ok (.getfield 10, 3) := by decide +kernel
theorem dX10_pourOut_47 : decode cX10_pourOut 47 = .ok (.getfield 48, 3) := by decide +kernel
theorem dX10_pourOut_50 : decode cX10_pourOut 50 = .ok (.iload_n 2, 1) := by decide +kernel
theorem dX10_pourOut_51 : decode cX10_pourOut 51 = .ok (.aaload, 1) := by decide +kernel
theorem dX10_pourOut_52 : decode cX10_pourOut 52 = .ok (.getfield 191, 3) := by decide +kernel
theorem dX10_pourOut_55 : decode cX10_pourOut 55 = .ok (.iload_n 1, 1) := by decide +kernel
theorem dX10_pourOut_56 : decode cX10_pourOut 56 = .ok (.iconst 0, 1) := by decide +kernel
theorem dX10_pourOut_57 : decode cX10_pourOut 57 = .ok (.iastore, 1) := by decide +kernel
theorem dX10_pourOut_58 : decode cX10_pourOut 58 = .ok (.iinc 2 1, 3) := by decide +kernel
theorem dX10_pourOut_61 : decode cX10_pourOut 61 = .ok (.goto (-46), 3) := by decide +kernel
theorem dX10_pourOut_64 : decode cX10_pourOut 64 = .ok (.return_, 1) := by decide +kernel
theorem dX11_init_0 : decode cX11_init 0 = .ok (.aload_n 0, 1) := by decide +kernel
theorem dX11_init_1 : decode cX11_init 1 = .ok (.invokespecial 1, 3) := by decide +kernel
theorem dX11_init_4 : decode cX11_init 4 = .ok (.aload_n 0, 1) := by decide +kernel
theorem dX11_init_5 : decode cX11_init 5 = .ok (.iconst 4, 1) := by decide +kernel
theorem dX11_init_6 : decode cX11_init 6 = .ok (.newarray .int, 2) := by decide +kernel
theorem dX11_init_8 : decode cX11_init 8 = .ok (.putfield 7, 3) := by decide +kernel
theorem dX11_init_11 : decode cX11_init 11 = .ok (.aload_n 0, 1) := by decide +kernel
theorem dX11_init_12 : decode cX11_init 12 = .ok (.iconst 4, 1) := by decide +kernel
theorem dX11_init_13 : decode cX11_init 13 = .ok (.newarray .int, 2) := by decide +kernel
theorem dX11_init_15 : decode cX11_init 15 = .ok (.putfield 13, 3) := by decide +kernel
theorem dX11_init_18 : decode cX11_init 18 = .ok (.aload_n 0, 1) := by decide +kernel
theorem dX11_init_19 : decode cX11_init 19 = .ok (.iconst 4, 1) := by decide +kernel
theorem dX11_init_20 : decode cX11_init 20 = .ok (.newarray .int, 2) := by decide +kernel
theorem dX11_init_22 : decode cX11_init 22 = .ok (.putfield 16, 3) := by decide +kernel
theorem dX11_init_25 : decode cX11_init 25 = .ok (.aload_n 0, 1) := by decide +kernel
theorem dX11_init_26 : decode cX11_init 26 = .ok (.iconst 4, 1) := by decide +kernel
theorem dX11_init_27 : decode cX11_init 27 = .ok (.newarray .int, 2) := by decide +kernel
theorem dX11_init_29 : decode cX11_init 29 = .ok (.putfield 19, 3) := by decide +kernel
theorem dX11_init_32 : decode cX11_init 32 = .ok (.aload_n 0, 1) := by decide +kernel
theorem dX11_init_33 : decode cX11_init 33 = .ok (.bipush 6, 2) := by decide +kernel
theorem dX11_init_35 : decode cX11_init 35 = .ok (.newarray .int, 2) := by decide +kernel
theorem dX11_init_37 : decode cX11_init 37 = .ok (.putfield 22, 3) := by decide +kernel
theorem dX11_init_40 : decode cX11_init 40 = .ok (.aload_n 0, 1) := by decide +kernel
theorem dX11_init_41 : decode cX11_init 41 = .ok (.iconst 4, 1) := by decide +kernel
theorem dX11_init_42 : decode cX11_init 42 = .ok (.newarray .int, 2) := by decide +kernel
theorem dX11_init_44 : decode cX11_init 44 = .ok (.putfield 25, 3) := by decide +kernel
theorem dX11_init_47 : decode cX11_init 47 = .ok (.aload_n 0, 1) := by decide +kernel
theorem dX11_init_48 : decode cX11_init 48 = .ok (.bipush 6, 2) := by decide +kernel
theorem dX11_init_50 : decode cX11_init 50 = .ok (.newarray .boolean, 2) := by decide +kernel
theorem dX11_init_52 : decode cX11_init 52 = .ok (.putfield 28, 3) := by decide +kernel
theorem dX11_init_55 : decode cX11_init 55 = .ok (.aload_n 0, 1) := by decide +kernel
theorem dX11_init_56 : decode cX11_init 56 = .ok (.bipush 8, 2) := by decide +kernel
theorem dX11_init_58 : decode cX11_init 58 = .ok (.newarray .long, 2) := by decide +kernel
theorem dX11_init_60 : decode cX11_init 60 = .ok (.putfield 32, 3) := by decide +kernel
theorem dX11_init_63 : decode cX11_init 63 = .ok (.aload_n 0, 1) := by decide +kernel
theorem dX11_init_64 : decode cX11_init 64 = .ok (.bipush 8, 2) := by decide +kernel
theorem dX11_init_66 : decode cX11_init 66 = .ok (.newarray .long, 2) := by decide +kernel
theorem dX11_init_68 : decode cX11_init 68 = .ok (.putfield 36, 3) := by decide +kernel
theorem dX11_init_71 : decode cX11_init 71 = .ok (.aload_n 0, 1) := by decide +kernel
theorem dX11_init_72 : decode cX11_init 72 = .ok (.bipush 8, 2) := by decide +kernel
theorem dX11_init_74 : decode cX11_init 74 = .ok (.newarray .int, 2) := by decide +kernel
theorem dX11_init_76 : decode cX11_init 76 = .ok (.putfield 39, 3) := by decide +kernel
theorem dX11_init_79 : decode cX11_init 79 = .ok (.aload_n 0, 1) := by decide +kernel
theorem dX11_init_80 : decode cX11_init 80 = .ok (.sipush 720, 3) := by decide +kernel
theorem dX11_init_83 : decode cX11_init 83 = .ok (.newarray .int, 2) := by decide +kernel
theorem dX11_init_85 : decode cX11_init 85 = .ok (.putfield 42, 3) := by decide +kernel
theorem dX11_init_88 : decode cX11_init 88 = .ok (.aload_n 0, 1) := by decide +kernel
theorem dX11_init_89 : decode cX11_init 89 = .ok (.bipush 8, 2) := by decide +kernel
theorem dX11_init_91 : decode cX11_init 91 = .ok (.newarray .int, 2) := by decide +kernel
theorem dX11_init_93 : decode cX11_init 93 = .ok (.putfield 45, 3) := by decide +kernel
theorem dX11_init_96 : decode cX11_init 96 = .ok (.aload_n 0, 1) := by decide +kernel
theorem dX11_init_97 : decode cX11_init 97 = .ok (.sipush 720, 3) := by decide +kernel
theorem dX11_init_100 : decode cX11_init 100 = .ok (.newarray .int, 2) := by decide +kernel
theorem dX11_init_102 : decode cX11_init 102 = .ok (.putfield 48, 3) := by decide +kernel
theorem dX11_init_105 : decode cX11_init 105 = .ok (.aload_n 0, 1) := by decide +kernel
theorem dX11_init_106 : decode cX11_init 106 = .ok (.sipush 600, 3) := by decide +kernel
theorem dX11_init_109 : decode cX11_init 109 = .ok (.newarray .int, 2) := by decide +kernel
theorem dX11_init_111 : decode cX11_init 111 = .ok (.putfield 51, 3) := by decide +kernel
theorem dX11_init_114 : decode cX11_init 114 = .ok (.aload_n 0, 1) := by decide +kernel
theorem dX11_init_115 : decode cX11_init 115 = .ok (.iconst (-1), 1) := by decide +kernel
theorem dX11_init_116 : decode cX11_init 116 = .ok (.putfield 54, 3) := by decide +kernel
theorem dX11_init_119 : decode cX11_init 119 = .ok (.aload_n 0, 1) := by decide +kernel
theorem dX11_init_120 : decode cX11_init 120 = .ok (.iconst 5, 1) := by decide +kernel
theorem dX11_init_121 : decode cX11_init 121 = .ok (.newarray .int, 2) := by decide +kernel
theorem dX11_init_123 : decode cX11_init 123 = .ok (.putfield 58, 3) := by decide +kernel
theorem dX11_init_126 : decode cX11_init 126 = .ok (.aload_n 0, 1) := by decide +kernel
theorem dX11_init_127 : decode cX11_init 127 = .ok (.bipush 8, 2) := by decide +kernel
theorem dX11_init_129 : decode cX11_init 129 = .ok (.newarray .int, 2) := by decide +kernel
theorem dX11_init_131 : decode cX11_init 131 = .ok (.putfield 61, 3) := by decide +kernel
theorem dX11_init_134 : decode cX11_init 134 = .ok (.aload_n 0, 1) := by decide +kernel
theorem dX11_init_135 : decode cX11_init 135 = .ok (.bipush 8, 2) := by decide +kernel
theorem dX11_init_137 : decode cX11_init 137 = .ok (.newarray .int, 2) := by decide +kernel
theorem dX11_init_139 : decode cX11_init 139 = .ok (.putfield 64, 3) := by decide +kernel
theorem dX11_init_142 : decode cX11_init 142 = .ok (.aload_n 0, 1) := by decide +kernel
theorem dX11_init_143 : decode cX11_init 143 = .ok (.bipush 8, 2) := by decide +kernel
theorem dX11_init_145 : decode cX11_init 145 = .ok (.newarray .int, 2) := by decide +kernel
theorem dX11_init_147 : decode cX11_init 147 = .ok (.putfield 67, 3) := by decide +kernel
theorem dX11_init_150 : decode cX11_init 150 = .ok (.aload_n 0, 1) := by decide +kernel
theorem dX11_init_151 : decode cX11_init 151 = .ok (.bipush 8, 2) := by decide +kernel
theorem dX11_init_153 : decode cX11_init 153 = .ok (.newarray .int, 2) := by decide +kernel
theorem dX11_init_155 : decode cX11_init 155 = .ok (.putfield 70, 3) := by decide +kernel
theorem dX11_init_158 : decode cX11_init 158 = .ok (.aload_n 0, 1) := by decide +kernel
theorem dX11_init_159 : decode cX11_init 159 = .ok (.bipush 8, 2) := by decide +kernel
theorem dX11_init_161 : decode cX11_init 161 = .ok (.newarray .int, 2) := by decide +kernel
theorem dX11_init_163 : decode cX11_init 163 = .ok (.putfield 73, 3) := by decide +kernel
theorem dX11_init_166 : decode cX11_init 166 = .ok (.aload_n 0, 1) := by decide +kernel
theorem dX11_init_167 : decode cX11_init 167 = .ok (.bipush 8, 2) := by decide +kernel
theorem dX11_init_169 : decode cX11_init 169 = .ok (.newarray .int, 2) := by decide +kernel
theorem dX11_init_171 : decode cX11_init 171 = .ok (.putfield 76, 3) := by decide +kernel
theorem dX11_init_174 : decode cX11_init 174 = .ok (.aload_n 0, 1) := by decide +kernel
theorem dX11_init_175 : decode cX11_init 175 = .ok (.bipush 8, 2) := by decide +kernel
theorem dX11_init_177 : decode cX11_init 177 = .ok (.newarray .int, 2) := by decide +kernel
theorem dX11_init_179 : decode cX11_init 179 = .ok (.putfield 79, 3) := by decide +kernel
theorem dX11_init_182 : decode cX11_init 182 = .ok (.aload_n 0, 1) := by decide +kernel
theorem dX11_init_183 : decode cX11_init 183 = .ok (.bipush 8, 2) := by decide +kernel
theorem dX11_init_185 : decode cX11_init 185 = .ok (.newarray .int, 2) := by decide +kernel
theorem dX11_init_187 : decode cX11_init 187 = .ok (.putfield 82, 3) := by decide +kernel
theorem dX11_init_190 : decode cX11_init 190 = .ok (.aload_n 0, 1) := by decide +kernel
theorem dX11_init_191 : decode cX11_init 191 = .ok (.bipush 8, 2) := by decide +kernel
theorem dX11_init_193 : decode cX11_init 193 = .ok (.newarray .int, 2) := by decide +kernel
theorem dX11_init_195 : decode cX11_init 195 = .ok (.putfield 85, 3) := by decide +kernel
theorem dX11_init_198 : decode cX11_init 198 = .ok (.aload_n 0, 1) := by decide +kernel
theorem dX11_init_199 : decode cX11_init 199 = .ok (.sipush 192, 3) := by decide +kernel
theorem dX11_init_202 : decode cX11_init 202 = .ok (.newarray .int, 2) := by decide +kernel
theorem dX11_init_204 : decode cX11_init 204 = .ok (.putfield 88, 3) := by decide +kernel
theorem dX11_init_207 : decode cX11_init 207 = .ok (.aload_n 0, 1) := by decide +kernel
theorem dX11_init_208 : decode cX11_init 208 = .ok (.bipush 8, 2) := by decide +kernel
theorem dX11_init_210 : decode cX11_init 210 = .ok (.newarray .int, 2) := by decide +kernel
theorem dX11_init_212 : decode cX11_init 212 = .ok (.putfield 91, 3) := by decide +kernel
theorem dX11_init_215 : decode cX11_init 215 = .ok (.aload_n 0, 1) := by decide +kernel
theorem dX11_init_216 : decode cX11_init 216 = .ok (.bipush 8, 2) := by decide +kernel
theorem dX11_init_218 : decode cX11_init 218 = .ok (.newarray .int, 2) := by decide +kernel
theorem dX11_init_220 : decode cX11_init 220 = .ok (.putfield 94, 3) := by decide +kernel
theorem dX11_init_223 : decode cX11_init 223 = .ok (.aload_n 0, 1) := by decide +kernel
theorem dX11_init_224 : decode cX11_init 224 = .ok (.bipush 8, 2) := by decide +kernel
theorem dX11_init_226 : decode cX11_init 226 = .ok (.newarray .int, 2) := by decide +kernel
theorem dX11_init_228 : decode cX11_init 228 = .ok (.putfield 97, 3) := by decide +kernel
theorem dX11_init_231 : decode cX11_init 231 = .ok (.aload_n 0, 1) := by decide +kernel
theorem dX11_init_232 : decode cX11_init 232 = .ok (.bipush 8, 2) := by decide +kernel
theorem dX11_init_234 : decode cX11_init 234 = .ok (.newarray .int, 2) := by decide +kernel
theorem dX11_init_236 : decode cX11_init 236 = .ok (.putfield 100, 3) := by decide +kernel
theorem dX11_init_239 : decode cX11_init 239 = .ok (.aload_n 0, 1) := by decide +kernel
theorem dX11_init_240 : decode cX11_init 240 = .ok (.bipush 8, 2) := by decide +kernel
theorem dX11_init_242 : decode cX11_init 242 = .ok (.newarray .int, 2) := by decide +kernel
theorem dX11_init_244 : decode cX11_init 244 = .ok (.putfield 103, 3) := by decide +kernel
theorem dX11_init_247 : decode cX11_init 247 = .ok (.aload_n 0, 1) := by decide +kernel
theorem dX11_init_248 : decode cX11_init 248 = .ok (.sipush 288, 3) := by decide +kernel
theorem dX11_init_251 : decode cX11_init 251 = .ok (.newarray .boolean, 2) := by decide +kernel
theorem dX11_init_253 : decode cX11_init 253 = .ok (.putfield 106, 3) := by decide +kernel
theorem dX11_init_256 : decode cX11_init 256 = .ok (.aload_n 0, 1) := by decide +kernel
theorem dX11_init_257 : decode cX11_init 257 = .ok (.sipush 240, 3) := by decide +kernel
theorem dX11_init_260 : decode cX11_init 260 = .ok (.newarray .int, 2) := by decide +kernel
theorem dX11_init_262 : decode cX11_init 262 = .ok (.putfield 109, 3) := by decide +kernel
theorem dX11_init_265 : decode cX11_init 265 = .ok (.aload_n 0, 1) := by decide +kernel
theorem dX11_init_266 : decode cX11_init 266 = .ok (.sipush 240, 3) := by decide +kernel
theorem dX11_init_269 : decode cX11_init 269 = .ok (.newarray .int, 2) := by decide +kernel
theorem dX11_init_271 : decode cX11_init 271 = .ok (.putfield 112, 3) := by decide +kernel
theorem dX11_init_274 : decode cX11_init 274 = .ok (.aload_n 0, 1) := by decide +kernel
theorem dX11_init_275 : decode cX11_init 275 = .ok (.sipush 240, 3) := by decide +kernel
theorem dX11_init_278 : decode cX11_init 278 = .ok (.newarray .int, 2) := by decide +kernel
theorem dX11_init_280 : decode cX11_init 280 = .ok (.putfield 115, 3) := by decide +kernel
theorem dX11_init_283 : decode cX11_init 283 = .ok (.aload_n 0, 1) := by decide +kernel
theorem dX11_init_284 : decode cX11_init 284 = .ok (.bipush 8, 2) := by decide +kernel
theorem dX11_init_286 : decode cX11_init 286 = .ok (.newarray .int, 2) := by decide +kernel
theorem dX11_init_288 : decode cX11_init 288 = .ok (.putfield 118, 3) := by decide +kernel
theorem dX11_init_291 : decode cX11_init 291 = .ok (.aload_n 0, 1) := by decide +kernel
theorem dX11_init_292 : decode cX11_init 292 = .ok (.sipush 400, 3) := by decide +kernel
theorem dX11_init_295 : decode cX11_init 295 = .ok (.newarray .int, 2) := by decide +kernel
