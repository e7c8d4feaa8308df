theorem dX0_init_0 : decode cX0_init 0 = .ok (.aload_n 0, 1) := by decide +kernel
theorem dX0_init_1 : decode cX0_init 1 = .ok (.invokespecial 1, 3) := by decide +kernel
theorem dX0_init_4 : decode cX0_init 4 = .ok (.aload_n 0, 1) := by decide +kernel
theorem dX0_init_5 : decode cX0_init 5 = .ok (.iconst 0, 1) := by decide +kernel
theorem dX0_init_6 : decode cX0_init 6 = .ok (.putfield 7, 3) := by decide +kernel
theorem dX0_init_9 : decode cX0_init 9 = .ok (.aload_n 0, 1) := by decide +kernel
theorem dX0_init_10 : decode cX0_init 10 = .ok (.iconst 0, 1) := by decide +kernel
theorem dX0_init_11 : decode cX0_init 11 = .ok (.putfield 13, 3) := by decide +kernel
theorem dX0_init_14 : decode cX0_init 14 = .ok (.return_, 1) := by decide +kernel
theorem dX1_init_0 : decode cX1_init 0 = .ok (.aload_n 0, 1) := by decide +kernel
theorem dX1_init_1 : decode cX1_init 1 = .ok (.invokespecial 3, 3) := by decide +kernel
theorem dX1_init_4 : decode cX1_init 4 = .ok (.aload_n 0, 1) := by decide +kernel
theorem dX1_init_5 : decode cX1_init 5 = .ok (.bipush 6, 2) := by decide +kernel
theorem dX1_init_7 : decode cX1_init 7 = .ok (.newarray .int, 2) := by decide +kernel
theorem dX1_init_9 : decode cX1_init 9 = .ok (.putfield 9, 3) := by decide +kernel
theorem dX1_init_12 : decode cX1_init 12 = .ok (.aload_n 0, 1) := by decide +kernel
theorem dX1_init_13 : decode cX1_init 13 = .ok (.bipush 6, 2) := by decide +kernel
theorem dX1_init_15 : decode cX1_init 15 = .ok (.newarray .int, 2) := by decide +kernel
theorem dX1_init_17 : decode cX1_init 17 = .ok (.putfield 15, 3) := by decide +kernel
theorem dX1_init_20 : decode cX1_init 20 = .ok (.aload_n 0, 1) := by decide +kernel
theorem dX1_init_21 : decode cX1_init 21 = .ok (.bipush 6, 2) := by decide +kernel
theorem dX1_init_23 : decode cX1_init 23 = .ok (.newarray .int, 2) := by decide +kernel
theorem dX1_init_25 : decode cX1_init 25 = .ok (.putfield 18, 3) := by decide +kernel
theorem dX1_init_28 : decode cX1_init 28 = .ok (.aload_n 0, 1) := by decide +kernel
theorem dX1_init_29 : decode cX1_init 29 = .ok (.bipush 6, 2) := by decide +kernel
theorem dX1_init_31 : decode cX1_init 31 = .ok (.newarray .boolean, 2) := by decide +kernel
theorem dX1_init_33 : decode cX1_init 33 = .ok (.putfield 21, 3) := by decide +kernel
theorem dX1_init_36 : decode cX1_init 36 = .ok (.aload_n 0, 1) := by decide +kernel
theorem dX1_init_37 : decode cX1_init 37 = .ok (.bipush 6, 2) := by decide +kernel
theorem dX1_init_39 : decode cX1_init 39 = .ok (.newarray .int, 2) := by decide +kernel
theorem dX1_init_41 : decode cX1_init 41 = .ok (.putfield 25, 3) := by decide +kernel
theorem dX1_init_44 : decode cX1_init 44 = .ok (.aload_n 0, 1) := by decide +kernel
theorem dX1_init_45 : decode cX1_init 45 = .ok (.bipush 6, 2) := by decide +kernel
theorem dX1_init_47 : decode cX1_init 47 = .ok (.newarray .int, 2) := by decide +kernel
theorem dX1_init_49 : decode cX1_init 49 = .ok (.putfield 28, 3) := by decide +kernel
theorem dX1_init_52 : decode cX1_init 52 = .ok (.aload_n 0, 1) := by decide +kernel
theorem dX1_init_53 : decode cX1_init 53 = .ok (.iconst 0, 1) := by decide +kernel
theorem dX1_init_54 : decode cX1_init 54 = .ok (.putfield 31, 3) := by decide +kernel
theorem dX1_init_57 : decode cX1_init 57 = .ok (.aload_n 0, 1) := by decide +kernel
theorem dX1_init_58 : decode cX1_init 58 = .ok (.iconst (-1), 1) := by decide +kernel
theorem dX1_init_59 : decode cX1_init 59 = .ok (.putfield 35, 3) := by decide +kernel
theorem dX1_init_62 : decode cX1_init 62 = .ok (.aload_n 0, 1) := by decide +kernel
theorem dX1_init_63 : decode cX1_init 63 = .ok (.iconst 0, 1) := by decide +kernel
theorem dX1_init_64 : decode cX1_init 64 = .ok (.putfield 38, 3) := by decide +kernel
theorem dX1_init_67 : decode cX1_init 67 = .ok (.aload_n 0, 1) := by decide +kernel
theorem dX1_init_68 : decode cX1_init 68 = .ok (.iconst 0, 1) := by decide +kernel
theorem dX1_init_69 : decode cX1_init 69 = .ok (.putfield 41, 3) := by decide +kernel
theorem dX1_init_72 : decode cX1_init 72 = .ok (.aload_n 0, 1) := by decide +kernel
theorem dX1_init_73 : decode cX1_init 73 = .ok (.iconst 0, 1) := by decide +kernel
theorem dX1_init_74 : decode cX1_init 74 = .ok (.putfield 44, 3) := by decide +kernel
theorem dX1_init_77 : decode cX1_init 77 = .ok (.return_, 1) := by decide +kernel
set_option maxRecDepth 20000 in
theorem ggX1_run_X3_clear : GoodIn wsX1_run wsX3_clear := goodIn_r _ [9, 10, 11, 12, 13, 14, 15, 16, 17, 18, 165, 166, 167] (by decide +kernel) (by decide +kernel)
set_option maxRecDepth 20000 in
theorem gX1_run_X3_clear : GoodIn wsX1_run (wsV RX1 47 RX3 yX3_clear wsX3_clear) := goodIn_app (goodIn_of _ (by decide +kernel)) ggX1_run_X3_clear
set_option maxRecDepth 20000 in
theorem ggX1_run_X1_listGuests : GoodIn wsX1_run wsX1_listGuests := goodIn_r _ [23, 24, 25, 26, 27, 28, 29, 30, 31, 32, 3, 4, 33, 34, 35, 36, 37, 38, 39, 40, 41, 42, 43, 44, 45, 46, 47, 8, 48, 49, 50, 51, 52, 53, 54, 55, 56, 57, 58, 59, 60, 61, 62, 63, 64, 65, 66, 67, 68, 69, 70, 71, 72, 73, 74, 75, 76, 77, 78, 79, 80, 81, 82, 83, 84, 85, 86, 87, 88, 89, 90, 91, 92, 10, 93, 94, 95, 96, 97, 98, 99, 100, 101, 102, 103, 104, 105, 106, 11, 107, 108, 109, 110, 111, 112, 113, 114, 115, 116, 117, 118, 119, 120, 121, 122, 123, 124, 125, 126, 127, 128, 154, 155, 156, 157, 158, 159, 160, 161, 162, 163, 164, 168, 169, 170, 171, 172, 173, 165, 166, 167, 174, 175, 176, 177, 178, 179, 180, 181, 182, 183, 184, 185, 186, 187, 188, 189, 190, 191, 192, 193, 194, 195, 196, 197, 198, 199, 200, 201, 202, 203, 204, 205, 206, 207, 208, 209, 210, 211, 212, 213, 214, 215, 216, 217, 218] (by decide +kernel) (by decide +kernel)
set_option maxRecDepth 20000 in
theorem gX1_run_X1_listGuests : GoodIn wsX1_run (wsV RX1 52 RX1 yX1_listGuests wsX1_listGuests) := goodIn_app (goodIn_of _ (by decide +kernel)) ggX1_run_X1_listGuests
set_option maxRecDepth 20000 in
theorem ggX1_run_X1_tryOrders : GoodIn wsX1_run wsX1_tryOrders := goodIn_r _ [131, 24, 32, 26, 132, 133, 134, 22, 135, 3, 1, 4, 2, 136, 137, 138, 139, 140, 141, 142, 143, 144, 145, 45, 46, 47, 8, 48, 49, 50, 51, 52, 53, 54, 55, 56, 57, 58, 59, 60, 61, 62, 63, 64, 65, 66, 67, 68, 69, 70, 71, 72, 73, 74, 75, 76, 77, 78, 79, 80, 81, 82, 83, 84, 85, 86, 87, 88, 89, 90, 91, 92, 10, 93, 94, 95, 96, 97, 98, 99, 100, 101, 102, 103, 104, 105, 106, 11, 107, 108, 109, 110, 111, 112, 113, 114, 115, 116, 117, 118, 146, 147, 148, 149, 28, 29, 27, 31, 30, 129, 130, 150, 151, 152, 153, 119, 120, 121, 122, 123, 124, 125, 126, 127, 128, 154, 155, 156, 157, 158, 159, 160, 161, 162, 163, 164, 168, 169, 170, 171, 172, 173, 193, 194, 195, 196, 197, 198, 199, 200, 201, 202, 184, 185, 186, 187, 188, 189, 190, 191, 192, 165, 166, 167, 203, 204, 205, 206, 207, 174, 175, 176, 177, 178, 179, 180, 181, 182, 183, 208, 209, 210, 211, 212, 213, 214, 215, 216, 217, 218] (by decide +kernel) (by decide +kernel)
set_option maxRecDepth 20000 in
theorem gX1_run_X1_tryOrders : GoodIn wsX1_run (va_wsS RX1 56 yX1_tryOrders wsX1_tryOrders) := goodIn_app (goodIn_of _ (by decide +kernel)) ggX1_run_X1_tryOrders
theorem dX1_run_0 : decode cX1_run 0 = .ok (.aload_n 0, 1) := by decide +kernel
theorem dX1_run_1 : decode cX1_run 1 = .ok (.iconst (-1), 1) := by decide +kernel
theorem dX1_run_2 : decode cX1_run 2 = .ok (.putfield 35, 3) := by decide +kernel
theorem dX1_run_5 : decode cX1_run 5 = .ok (.aload_n 0, 1) := by decide +kernel
theorem dX1_run_6 : decode cX1_run 6 = .ok (.iconst 0, 1) := by decide +kernel
theorem dX1_run_7 : decode cX1_run 7 = .ok (.putfield 38, 3) := by decide +kernel
theorem dX1_run_10 : decode cX1_run 10 = .ok (.aload_n 0, 1) := by decide +kernel
theorem dX1_run_11 : decode cX1_run 11 = .ok (.iconst 0, 1) := by decide +kernel
theorem dX1_run_12 : decode cX1_run 12 = .ok (.putfield 41, 3) := by decide +kernel
theorem dX1_run_15 : decode cX1_run 15 = .ok (.aload_n 0, 1) := by decide +kernel
theorem dX1_run_16 : decode cX1_run 16 = .ok (.iconst 0, 1) := by decide +kernel
theorem dX1_run_17 : decode cX1_run 17 = .ok (.putfield 44, 3) := by decide +kernel
theorem dX1_run_20 : decode cX1_run 20 = .ok (.aload_n 2, 1) := by decide +kernel
theorem dX1_run_21 : decode cX1_run 21 = .ok (.invokevirtual 47, 3) := by decide +kernel
theorem dX1_run_24 : decode cX1_run 24 = .ok (.aload_n 0, 1) := by decide +kernel
theorem dX1_run_25 : decode cX1_run 25 = .ok (.aload_n 1, 1) := by decide +kernel
theorem dX1_run_26 : decode cX1_run 26 = .ok (.aload_n 2, 1) := by decide +kernel
theorem dX1_run_27 : decode cX1_run 27 = .ok (.iload_n 3, 1) := by decide +kernel
theorem dX1_run_28 : decode cX1_run 28 = .ok (.invokevirtual 52, 3) := by decide +kernel
theorem dX1_run_31 : decode cX1_run 31 = .ok (.aload_n 0, 1) := by decide +kernel
theorem dX1_run_32 : decode cX1_run 32 = .ok (.aload_n 1, 1) := by decide +kernel
theorem dX1_run_33 : decode cX1_run 33 = .ok (.aload_n 2, 1) := by decide +kernel
theorem dX1_run_34 : decode cX1_run 34 = .ok (.iload_n 3, 1) := by decide +kernel
theorem dX1_run_35 : decode cX1_run 35 = .ok (.iconst 0, 1) := by decide +kernel
theorem dX1_run_36 : decode cX1_run 36 = .ok (.invokestatic 56, 3) := by decide +kernel
theorem dX1_run_39 : decode cX1_run 39 = .ok (.return_, 1) := by decide +kernel
set_option maxRecDepth 20000 in
theorem ggX1_layOutBest_X3_clear : GoodIn wsX1_layOutBest wsX3_clear := goodIn_r _ [7, 8, 9, 10, 11, 12, 13, 14, 15, 16, 102, 103, 104] (by decide +kernel) (by decide +kernel)
set_option maxRecDepth 20000 in
theorem gX1_layOutBest_X3_clear : GoodIn wsX1_layOutBest (wsV RX1 47 RX3 yX3_clear wsX3_clear) := goodIn_app (goodIn_of _ (by decide +kernel)) ggX1_layOutBest_X3_clear
set_option maxRecDepth 20000 in
theorem ggX1_layOutBest_X3_addGuest : GoodIn wsX1_layOutBest wsX3_addGuest := goodIn_r _ [20, 21, 22, 23, 24, 25, 26, 27, 28, 29, 30, 31, 32, 33, 34, 35, 36, 37, 38, 39, 40, 41, 42, 43, 44, 6, 45, 46, 47, 48, 49, 50, 51, 52, 53, 54, 55, 56, 57, 58, 59, 60, 61, 62, 63, 64, 8, 65, 66, 67, 68, 69, 70, 71, 72, 73, 74, 75, 76, 77, 78, 9, 79, 80, 81, 82, 83, 84, 85, 86, 87, 88, 89, 90, 105, 106, 107, 108, 109, 110, 111, 112, 113, 114, 115, 116, 117, 118, 119, 120, 121, 122, 123, 124, 125, 126, 127, 128, 129, 102, 103, 104, 130, 131, 132, 133, 134, 135, 136, 137, 138, 139, 140, 141, 142, 143, 144, 145, 146, 147, 148, 149, 150, 151, 152, 153, 154, 155] (by decide +kernel) (by decide +kernel)
set_option maxRecDepth 20000 in
theorem gX1_layOutBest_X3_addGuest : GoodIn wsX1_layOutBest (wsV RX1 60 RX3 yX3_addGuest wsX3_addGuest) := goodIn_app (goodIn_of _ (by decide +kernel)) ggX1_layOutBest_X3_addGuest
theorem dX1_layOutBest_0 : decode cX1_layOutBest 0 = .ok (.aload_n 2, 1) := by decide +kernel
theorem dX1_layOutBest_1 : decode cX1_layOutBest 1 = .ok (.invokevirtual 47, 3) := by decide +kernel
theorem dX1_layOutBest_4 : decode cX1_layOutBest 4 = .ok (.iconst 0, 1) := by decide +kernel
theorem dX1_layOutBest_5 : decode cX1_layOutBest 5 = .ok (.istore 4, 2) := by decide +kernel
theorem dX1_layOutBest_7 : decode cX1_layOutBest 7 = .ok (.iload 4, 2) := by decide +kernel
theorem dX1_layOutBest_9 : decode cX1_layOutBest 9 = .ok (.aload_n 0, 1) := by decide +kernel
theorem dX1_layOutBest_10 : decode cX1_layOutBest 10 = .ok (.getfield 31, 3) := by decide +kernel
theorem dX1_layOutBest_13 : decode cX1_layOutBest 13 = .ok (.if_icmp .ge 22, 3) := by decide +kernel
theorem dX1_layOutBest_16 : decode cX1_layOutBest 16 = .ok (.aload_n 2, 1) := by decide +kernel
theorem dX1_layOutBest_17 : decode cX1_layOutBest 17 = .ok (.aload_n 1, 1) := by decide +kernel
theorem dX1_layOutBest_18 : decode cX1_layOutBest 18 = .ok (.aload_n 0, 1) := by decide +kernel
theorem dX1_layOutBest_19 : decode cX1_layOutBest 19 = .ok (.getfield 28, 3) := by decide +kernel
theorem dX1_layOutBest_22 : decode cX1_layOutBest 22 = .ok (.iload 4, 2) := by decide +kernel
theorem dX1_layOutBest_24 : decode cX1_layOutBest 24 = .ok (.iaload, 1) := by decide +kernel
theorem dX1_layOutBest_25 : decode cX1_layOutBest 25 = .ok (.iload_n 3, 1) := by decide +kernel
theorem dX1_layOutBest_26 : decode cX1_layOutBest 26 = .ok (.invokevirtual 60, 3) := by decide +kernel
theorem dX1_layOutBest_29 : decode cX1_layOutBest 29 = .ok (.iinc 4 1, 3) := by decide +kernel
theorem dX1_layOutBest_32 : decode cX1_layOutBest 32 = .ok (.goto (-25), 3) := by decide +kernel
theorem dX1_layOutBest_35 : decode cX1_layOutBest 35 = .ok (.return_, 1) := by decide +kernel
theorem dX1_tell_0 : decode cX1_tell 0 = .ok (.iload_n 1, 1) := by decide +kernel
theorem dX1_tell_1 : decode cX1_tell 1 = .ok (.ifCond .ne 8, 3) := by decide +kernel
theorem dX1_tell_4 : decode cX1_tell 4 = .ok (.aload_n 0, 1) := by decide +kernel
theorem dX1_tell_5 : decode cX1_tell 5 = .ok (.getfield 35, 3) := by decide +kernel
theorem dX1_tell_8 : decode cX1_tell 8 = .ok (.ireturn, 1) := by decide +kernel
theorem dX1_tell_9 : decode cX1_tell 9 = .ok (.iload_n 1, 1) := by decide +kernel
theorem dX1_tell_10 : decode cX1_tell 10 = .ok (.iconst 1, 1) := by decide +kernel
theorem dX1_tell_11 : decode cX1_tell 11 = .ok (.if_icmp .ne 8, 3) := by decide +kernel
theorem dX1_tell_14 : decode cX1_tell 14 = .ok (.aload_n 0, 1) := by decide +kernel
theorem dX1_tell_15 : decode cX1_tell 15 = .ok (.getfield 38, 3) := by decide +kernel
theorem dX1_tell_18 : decode cX1_tell 18 = .ok (.ireturn, 1) := by decide +kernel
theorem dX1_tell_19 : decode cX1_tell 19 = .ok (.iload_n 1, 1) := by decide +kernel
theorem dX1_tell_20 : decode cX1_tell 20 = .ok (.bipush 10, 2) := by decide +kernel
theorem dX1_tell_22 : decode cX1_tell 22 = .ok (.if_icmp .lt 26, 3) := by decide +kernel
theorem dX1_tell_25 : decode cX1_tell 25 = .ok (.iload_n 1, 1) := by decide +kernel
theorem dX1_tell_26 : decode cX1_tell 26 = .ok (.bipush 10, 2) := by decide +kernel
theorem dX1_tell_28 : decode cX1_tell 28 = .ok (.isub, 1) := by decide +kernel
theorem dX1_tell_29 : decode cX1_tell 29 = .ok (.aload_n 0, 1) := by decide +kernel
theorem dX1_tell_30 : decode cX1_tell 30 = .ok (.getfield 31, 3) := by decide +kernel
theorem dX1_tell_33 : decode cX1_tell 33 = .ok (.if_icmp .ge 15, 3) := by decide +kernel
theorem dX1_tell_36 : decode cX1_tell 36 = .ok (.aload_n 0, 1) := by decide +kernel
theorem dX1_tell_37 : decode cX1_tell 37 = .ok (.getfield 28, 3) := by decide +kernel
theorem dX1_tell_40 : decode cX1_tell 40 = .ok (.iload_n 1, 1) := by decide +kernel
theorem dX1_tell_41 : decode cX1_tell 41 = .ok (.bipush 10, 2) := by decide +kernel
theorem dX1_tell_43 : decode cX1_tell 43 = .ok (.isub, 1) := by decide +kernel
theorem dX1_tell_44 : decode cX1_tell 44 = .ok (.iaload, 1) := by decide +kernel
theorem dX1_tell_45 : decode cX1_tell 45 = .ok (.goto 4, 3) := by decide +kernel
theorem dX1_tell_48 : decode cX1_tell 48 = .ok (.iconst (-1), 1) := by decide +kernel
theorem dX1_tell_49 : decode cX1_tell 49 = .ok (.ireturn, 1) := by decide +kernel
set_option maxRecDepth 20000 in
theorem ggX1_listGuests_X9_isThere : GoodIn wsX1_listGuests wsX9_isThere := goodIn_r _ [16, 17, 18, 19, 20, 21, 22, 23, 122, 123, 124, 125, 126, 127, 141, 142, 143, 144, 145, 146, 147, 148, 149] (by decide +kernel) (by decide +kernel)
set_option maxRecDepth 20000 in
theorem gX1_listGuests_X9_isThere : GoodIn wsX1_listGuests (wsV RX1 69 RX9 yX9_isThere wsX9_isThere) := goodIn_app (goodIn_of _ (by decide +kernel)) ggX1_listGuests_X9_isThere
set_option maxRecDepth 20000 in
theorem ggX1_listGuests_X3_addGuest : GoodIn wsX1_listGuests wsX3_addGuest := goodIn_r _ [28, 29, 30, 31, 32, 33, 34, 35, 36, 37, 38, 39, 40, 41, 42, 43, 44, 45, 46, 47, 48, 49, 50, 51, 52, 27, 53, 54, 55, 56, 57, 58, 59, 60, 61, 62, 63, 64, 65, 66, 67, 68, 69, 70, 71, 72, 73, 74, 75, 76, 77, 78, 79, 80, 81, 82, 83, 84, 85, 86, 87, 88, 89, 90, 91, 92, 93, 94, 95, 96, 97, 98, 99, 100, 122, 123, 124, 125, 126, 127, 150, 151, 152, 153, 154, 155, 156, 157, 158, 159, 141, 142, 143, 144, 145, 146, 147, 148, 149, 128, 129, 130, 160, 161, 162, 163, 164, 131, 132, 133, 134, 135, 136, 137, 138, 139, 140, 165, 166, 167, 168, 169, 170, 171, 172, 173, 174, 175] (by decide +kernel) (by decide +kernel)
set_option maxRecDepth 20000 in
theorem gX1_listGuests_X3_addGuest : GoodIn wsX1_listGuests (wsV RX1 60 RX3 yX3_addGuest wsX3_addGuest) := goodIn_app (goodIn_of _ (by decide +kernel)) ggX1_listGuests_X3_addGuest
set_option maxRecDepth 20000 in
theorem ggX1_listGuests_X3_removeGuest : GoodIn wsX1_listGuests wsX3_removeGuest := goodIn_r _ [104, 33, 105, 106, 73, 107, 108, 88, 109, 110, 89, 90, 27, 91, 128, 129, 130, 131, 132, 133, 134, 135, 136, 137, 138, 139, 140] (by decide +kernel) (by decide +kernel)
set_option maxRecDepth 20000 in
theorem gX1_listGuests_X3_removeGuest : GoodIn wsX1_listGuests (wsV RX1 85 RX3 yX3_removeGuest wsX3_removeGuest) := goodIn_app (goodIn_of _ (by decide +kernel)) ggX1_listGuests_X3_removeGuest
theorem dX1_listGuests_0 : decode cX1_listGuests 0 = .ok (.aload_n 0, 1) := by decide +kernel
theorem dX1_listGuests_1 : decode cX1_listGuests 1 = .ok (.iconst 0, 1) := by decide +kernel
theorem dX1_listGuests_2 : decode cX1_listGuests 2 = .ok (.putfield 31, 3) := by decide +kernel
theorem dX1_listGuests_5 : decode cX1_listGuests 5 = .ok (.iconst 0, 1) := by decide +kernel
theorem dX1_listGuests_6 : decode cX1_listGuests 6 = .ok (.istore 4, 2) := by decide +kernel
theorem dX1_listGuests_8 : decode cX1_listGuests 8 = .ok (.iload 4, 2) := by decide +kernel
theorem dX1_listGuests_10 : decode cX1_listGuests 10 = .ok (.aload_n 1, 1) := by decide +kernel
theorem dX1_listGuests_11 : decode cX1_listGuests 11 = .ok (.getfield 64, 3) := by decide +kernel
theorem dX1_listGuests_14 : decode cX1_listGuests 14 = .ok (.if_icmp .ge 147, 3) := by decide +kernel
theorem dX1_listGuests_17 : decode cX1_listGuests 17 = .ok (.aload_n 0, 1) := by decide +kernel
theorem dX1_listGuests_18 : decode cX1_listGuests 18 = .ok (.getfield 31, 3) := by decide +kernel
theorem dX1_listGuests_21 : decode cX1_listGuests 21 = .ok (.bipush 6, 2) := by decide +kernel
theorem dX1_listGuests_23 : decode cX1_listGuests 23 = .ok (.if_icmp .ge 138, 3) := by decide +kernel
theorem dX1_listGuests_26 : decode cX1_listGuests 26 = .ok (.aload_n 1, 1) := by decide +kernel
theorem dX1_listGuests_27 : decode cX1_listGuests 27 = .ok (.iload 4, 2) := by decide +kernel
theorem dX1_listGuests_29 : decode cX1_listGuests 29 = .ok (.iload_n 3, 1) := by decide +kernel
theorem dX1_listGuests_30 : decode cX1_listGuests 30 = .ok (.invokevirtual 69, 3) := by decide +kernel
theorem dX1_listGuests_33 : decode cX1_listGuests 33 = .ok (.ifCond .eq 122, 3) := by decide +kernel
theorem dX1_listGuests_36 : decode cX1_listGuests 36 = .ok (.aload_n 2, 1) := by decide +kernel
theorem dX1_listGuests_37 : decode cX1_listGuests 37 = .ok (.aload_n 1, 1) := by decide +kernel
theorem dX1_listGuests_38 : decode cX1_listGuests 38 = .ok (.iload 4, 2) := by decide +kernel
theorem dX1_listGuests_40 : decode cX1_listGuests 40 = .ok (.iload_n 3, 1) := by decide +kernel
theorem dX1_listGuests_41 : decode cX1_listGuests 41 = .ok (.invokevirtual 60, 3) := by decide +kernel
theorem dX1_listGuests_44 : decode cX1_listGuests 44 = .ok (.aload_n 0, 1) := by decide +kernel
theorem dX1_listGuests_45 : decode cX1_listGuests 45 = .ok (.getfield 9, 3) := by decide +kernel
theorem dX1_listGuests_48 : decode cX1_listGuests 48 = .ok (.aload_n 0, 1) := by decide +kernel
theorem dX1_listGuests_49 : decode cX1_listGuests 49 = .ok (.getfield 31, 3) := by decide +kernel
theorem dX1_listGuests_52 : decode cX1_listGuests 52 = .ok (.iload 4, 2) := by decide +kernel
theorem dX1_listGuests_54 : decode cX1_listGuests 54 = .ok (.iastore, 1) := by decide +kernel
theorem dX1_listGuests_55 : decode cX1_listGuests 55 = .ok (.aload_n 0, 1) := by decide +kernel
theorem dX1_listGuests_56 : decode cX1_listGuests 56 = .ok (.getfield 15, 3) := by decide +kernel
theorem dX1_listGuests_59 : decode cX1_listGuests 59 = .ok (.aload_n 0, 1) := by decide +kernel
theorem dX1_listGuests_60 : decode cX1_listGuests 60 = .ok (.getfield 31, 3) := by decide +kernel
theorem dX1_listGuests_63 : decode cX1_listGuests 63 = .ok (.aload_n 2, 1) := by decide +kernel
theorem dX1_listGuests_64 : decode cX1_listGuests 64 = .ok (.getfield 73, 3) := by decide +kernel
theorem dX1_listGuests_67 : decode cX1_listGuests 67 = .ok (.iload 4, 2) := by decide +kernel
theorem dX1_listGuests_69 : decode cX1_listGuests 69 = .ok (.aaload, 1) := by decide +kernel
theorem dX1_listGuests_70 : decode cX1_listGuests 70 = .ok (.getfield 77, 3) := by decide +kernel
theorem dX1_listGuests_73 : decode cX1_listGuests 73 = .ok (.iastore, 1) := by decide +kernel
theorem dX1_listGuests_74 : decode cX1_listGuests 74 = .ok (.aload_n 0, 1) := by decide +kernel
theorem dX1_listGuests_75 : decode cX1_listGuests 75 = .ok (.getfield 18, 3) := by decide +kernel
theorem dX1_listGuests_78 : decode cX1_listGuests 78 = .ok (.aload_n 0, 1) := by decide +kernel
theorem dX1_listGuests_79 : decode cX1_listGuests 79 = .ok (.getfield 31, 3) := by decide +kernel
theorem dX1_listGuests_82 : decode cX1_listGuests 82 = .ok (.aload_n 2, 1) := by decide +kernel
theorem dX1_listGuests_83 : decode cX1_listGuests 83 = .ok (.getfield 73, 3) := by decide +kernel
theorem dX1_listGuests_86 : decode cX1_listGuests 86 = .ok (.iload 4, 2) := by decide +kernel
theorem dX1_listGuests_88 : decode cX1_listGuests 88 = .ok (.aaload, 1) := by decide +kernel
theorem dX1_listGuests_89 : decode cX1_listGuests 89 = .ok (.getfield 82, 3) := by decide +kernel
theorem dX1_listGuests_92 : decode cX1_listGuests 92 = .ok (.iastore, 1) := by decide +kernel
theorem dX1_listGuests_93 : decode cX1_listGuests 93 = .ok (.aload_n 0, 1) := by decide +kernel
theorem dX1_listGuests_94 : decode cX1_listGuests 94 = .ok (.getfield 21, 3) := by decide +kernel
theorem dX1_listGuests_97 : decode cX1_listGuests 97 = .ok (.aload_n 0, 1) := by decide +kernel
theorem dX1_listGuests_98 : decode cX1_listGuests 98 = .ok (.getfield 31, 3) := by decide +kernel
theorem dX1_listGuests_101 : decode cX1_listGuests 101 = .ok (.iconst 0, 1) := by decide +kernel
theorem dX1_listGuests_102 : decode cX1_listGuests 102 = .ok (.bastore, 1) := by decide +kernel
theorem dX1_listGuests_103 : decode cX1_listGuests 103 = .ok (.aload_n 0, 1) := by decide +kernel
theorem dX1_listGuests_104 : decode cX1_listGuests 104 = .ok (.dup, 1) := by decide +kernel
theorem dX1_listGuests_105 : decode cX1_listGuests 105 = .ok (.getfield 41, 3) := by decide +kernel
theorem dX1_listGuests_108 : decode cX1_listGuests 108 = .ok (.aload_n 0, 1) := by decide +kernel
theorem dX1_listGuests_109 : decode cX1_listGuests 109 = .ok (.getfield 15, 3) := by decide +kernel
theorem dX1_listGuests_112 : decode cX1_listGuests 112 = .ok (.aload_n 0, 1) := by decide +kernel
theorem dX1_listGuests_113 : decode cX1_listGuests 113 = .ok (.getfield 31, 3) := by decide +kernel
theorem dX1_listGuests_116 : decode cX1_listGuests 116 = .ok (.iaload, 1) := by decide +kernel
theorem dX1_listGuests_117 : decode cX1_listGuests 117 = .ok (.iadd, 1) := by decide +kernel
theorem dX1_listGuests_118 : decode cX1_listGuests 118 = .ok (.putfield 41, 3) := by decide +kernel
theorem dX1_listGuests_121 : decode cX1_listGuests 121 = .ok (.aload_n 0, 1) := by decide +kernel
theorem dX1_listGuests_122 : decode cX1_listGuests 122 = .ok (.dup, 1) := by decide +kernel
theorem dX1_listGuests_123 : decode cX1_listGuests 123 = .ok (.getfield 44, 3) := by decide +kernel
theorem dX1_listGuests_126 : decode cX1_listGuests 126 = .ok (.aload_n 0, 1) := by decide +kernel
theorem dX1_listGuests_127 : decode cX1_listGuests 127 = .ok (.getfield 18, 3) := by decide +kernel
theorem dX1_listGuests_130 : decode cX1_listGuests 130 = .ok (.aload_n 0, 1) := by decide +kernel
theorem dX1_listGuests_131 : decode cX1_listGuests 131 = .ok (.getfield 31, 3) := by decide +kernel
theorem dX1_listGuests_134 : decode cX1_listGuests 134 = .ok (.iaload, 1) := by decide +kernel
theorem dX1_listGuests_135 : decode cX1_listGuests 135 = .ok (.iadd, 1) := by decide +kernel
theorem dX1_listGuests_136 : decode cX1_listGuests 136 = .ok (.putfield 44, 3) := by decide +kernel
theorem dX1_listGuests_139 : decode cX1_listGuests 139 = .ok (.aload_n 0, 1) := by decide +kernel
theorem dX1_listGuests_140 : decode cX1_listGuests 140 = .ok (.dup, 1) := by decide +kernel
theorem dX1_listGuests_141 : decode cX1_listGuests 141 = .ok (.getfield 31, 3) := by decide +kernel
theorem dX1_listGuests_144 : decode cX1_listGuests 144 = .ok (.iconst 1, 1) := by decide +kernel
theorem dX1_listGuests_145 : decode cX1_listGuests 145 = .ok (.iadd, 1) := by decide +kernel
theorem dX1_listGuests_146 : decode cX1_listGuests 146 = .ok (.putfield 31, 3) := by decide +kernel
theorem dX1_listGuests_149 : decode cX1_listGuests 149 = .ok (.aload_n 2, 1) := by decide +kernel
theorem dX1_listGuests_150 : decode cX1_listGuests 150 = .ok (.iload 4, 2) := by decide +kernel
theorem dX1_listGuests_152 : decode cX1_listGuests 152 = .ok (.invokevirtual 85, 3) := by decide +kernel
theorem dX1_listGuests_155 : decode cX1_listGuests 155 = .ok (.iinc 4 1, 3) := by decide +kernel
theorem dX1_listGuests_158 : decode cX1_listGuests 158 = .ok (.goto (-150), 3) := by decide +kernel
theorem dX1_listGuests_161 : decode cX1_listGuests 161 = .ok (.return_, 1) := by decide +kernel
set_option maxRecDepth 20000 in
theorem ggX1_tryOrders_X1_isHopeless : GoodIn wsX1_tryOrders wsX1_isHopeless := goodIn_r _ [8, 9, 10, 11, 12, 125, 126, 127, 128, 129, 130, 131, 132, 133, 134, 135] (by decide +kernel) (by decide +kernel)
set_option maxRecDepth 20000 in
theorem gX1_tryOrders_X1_isHopeless : GoodIn wsX1_tryOrders (wsV RX1 89 RX1 yX1_isHopeless wsX1_isHopeless) := goodIn_app (goodIn_of _ (by decide +kernel)) ggX1_tryOrders_X1_isHopeless
set_option maxRecDepth 20000 in
theorem ggX1_tryOrders_X1_keepOrder : GoodIn wsX1_tryOrders wsX1_keepOrder := goodIn_r _ [16, 9, 10, 11, 12, 17, 18, 1, 19, 20, 21, 22, 125, 126, 127, 128, 129, 130, 131, 132, 133, 134, 135] (by decide +kernel) (by decide +kernel)
set_option maxRecDepth 20000 in
theorem gX1_tryOrders_X1_keepOrder : GoodIn wsX1_tryOrders (wsV RX1 93 RX1 yX1_keepOrder wsX1_keepOrder) := goodIn_app (goodIn_of _ (by decide +kernel)) ggX1_tryOrders_X1_keepOrder
set_option maxRecDepth 20000 in
theorem ggX1_tryOrders_X3_addGuest : GoodIn wsX1_tryOrders wsX3_addGuest := goodIn_r _ [27, 28, 29, 30, 31, 32, 33, 34, 35, 36, 37, 38, 39, 40, 41, 42, 43, 44, 45, 46, 47, 48, 49, 50, 51, 26, 52, 53, 54, 55, 56, 57, 58, 59, 60, 61, 62, 63, 64, 65, 66, 67, 68, 69, 70, 71, 72, 73, 74, 75, 76, 77, 78, 79, 80, 81, 82, 83, 84, 85, 86, 87, 88, 89, 90, 91, 92, 93, 94, 95, 96, 97, 98, 99, 136, 137, 138, 139, 140, 141, 142, 143, 144, 145, 146, 147, 148, 149, 150, 151, 152, 153, 154, 155, 156, 157, 158, 159, 160, 161, 162, 163, 164, 165, 166, 167, 168, 169, 170, 171, 172, 173, 174, 175, 176, 177, 178, 179, 180, 181, 182, 183, 184, 185, 186, 187, 188, 189] (by decide +kernel) (by decide +kernel)
set_option maxRecDepth 20000 in
theorem gX1_tryOrders_X3_addGuest : GoodIn wsX1_tryOrders (wsV RX1 60 RX3 yX3_addGuest wsX3_addGuest) := goodIn_app (goodIn_of _ (by decide +kernel)) ggX1_tryOrders_X3_addGuest
set_option maxRecDepth 20000 in
theorem ggX1_tryOrders_X1_place : GoodIn wsX1_tryOrders wsX1_place := goodIn_r _ [103, 104, 3, 2, 17, 9, 105, 106, 11, 107, 108, 161, 162, 163, 125, 126, 127, 128, 129, 130, 131, 132, 133, 134, 135, 169, 170, 171, 172, 173, 174, 175, 176, 177, 178] (by decide +kernel) (by decide +kernel)
set_option maxRecDepth 20000 in
theorem gX1_tryOrders_X1_place : GoodIn wsX1_tryOrders (wsV RX1 96 RX1 yX1_place wsX1_place) := goodIn_app (goodIn_of _ (by decide +kernel)) ggX1_tryOrders_X1_place
set_option maxRecDepth 20000 in
theorem ggX1_tryOrders_X1_tryOrders : GoodIn wsX1_tryOrders wsX1_tryOrders := goodIn_r _ [0, 1, 2, 3, 4, 5, 6, 7, 8, 9, 10, 11, 12, 13, 14, 15, 16, 17, 18, 19, 20, 21, 22, 23, 24, 25, 26, 27, 28, 29, 30, 31, 32, 33, 34, 35, 36, 37, 38, 39, 40, 41, 42, 43, 44, 45, 46, 47, 48, 49, 50, 51, 52, 53, 54, 55, 56, 57, 58, 59, 60, 61, 62, 63, 64, 65, 66, 67, 68, 69, 70, 71, 72, 73, 74, 75, 76, 77, 78, 79, 80, 81, 82, 83, 84, 85, 86, 87, 88, 89, 90, 91, 92, 93, 94, 95, 96, 97, 98, 99, 100, 101, 102, 103, 104, 105, 106, 107, 108, 109, 110, 111, 112, 113, 114, 115, 116, 117, 118, 119, 120, 121, 122, 123, 124, 125, 126, 127, 128, 129, 130, 131, 132, 133, 134, 135, 136, 137, 138, 139, 140, 141, 142, 143, 144, 145, 146, 147, 148, 149, 150, 151, 152, 153, 154, 155, 156, 157, 158, 159, 160, 161, 162, 163, 164, 165, 166, 167, 168, 169, 170, 171, 172, 173, 174, 175, 176, 177, 178, 179, 180, 181, 182, 183, 184, 185, 186, 187, 188, 189] (by decide +kernel) (by decide +kernel)
set_option maxRecDepth 20000 in
theorem gX1_tryOrders_X1_tryOrders : GoodIn wsX1_tryOrders (va_wsS RX1 56 yX1_tryOrders wsX1_tryOrders) := goodIn_app (goodIn_of _ (by decide +kernel)) ggX1_tryOrders_X1_tryOrders
set_option maxRecDepth 20000 in
theorem ggX1_tryOrders_X1_unplace : GoodIn wsX1_tryOrders wsX1_unplace := goodIn_r _ [114, 104, 3, 2, 9, 105, 106, 11, 107, 108, 161, 162, 163, 125, 126, 127, 128, 129, 130, 131, 132, 133, 134, 135, 169, 170, 171, 172, 173, 174, 175, 176, 177, 178] (by decide +kernel) (by decide +kernel)
set_option maxRecDepth 20000 in
theorem gX1_tryOrders_X1_unplace : GoodIn wsX1_tryOrders (wsV RX1 100 RX1 yX1_unplace wsX1_unplace) := goodIn_app (goodIn_of _ (by decide +kernel)) ggX1_tryOrders_X1_unplace
set_option maxRecDepth 20000 in
theorem ggX1_tryOrders_X3_removeGuest : GoodIn wsX1_tryOrders wsX3_removeGuest := goodIn_r _ [118, 32, 119, 120, 72, 121, 122, 87, 123, 124, 88, 89, 26, 90, 161, 162, 163, 169, 170, 171, 172, 173, 174, 175, 176, 177, 178] (by decide +kernel) (by decide +kernel)
set_option maxRecDepth 20000 in
theorem gX1_tryOrders_X3_removeGuest : GoodIn wsX1_tryOrders (wsV RX1 85 RX3 yX3_removeGuest wsX3_removeGuest) := goodIn_app (goodIn_of _ (by decide +kernel)) ggX1_tryOrders_X3_removeGuest
theorem dX1_tryOrders_0 : decode cX1_tryOrders 0 = .ok (.iload 4, 2) := by decide +kernel
theorem dX1_tryOrders_2 : decode cX1_tryOrders 2 = .ok (.bipush 6, 2) := by decide +kernel
theorem dX1_tryOrders_4 : decode cX1_tryOrders 4 = .ok (.if_icmp .gt 10, 3) := by decide +kernel
theorem dX1_tryOrders_7 : decode cX1_tryOrders 7 = .ok (.aload_n 0, 1) := by decide +kernel
theorem dX1_tryOrders_8 : decode cX1_tryOrders 8 = .ok (.invokevirtual 89, 3) := by decide +kernel
theorem dX1_tryOrders_11 : decode cX1_tryOrders 11 = .ok (.ifCond .eq 4, 3) := by decide +kernel
theorem dX1_tryOrders_14 : decode cX1_tryOrders 14 = .ok (.return_, 1) := by decide +kernel
theorem dX1_tryOrders_15 : decode cX1_tryOrders 15 = .ok (.iload 4, 2) := by decide +kernel
theorem dX1_tryOrders_17 : decode cX1_tryOrders 17 = .ok (.aload_n 0, 1) := by decide +kernel
theorem dX1_tryOrders_18 : decode cX1_tryOrders 18 = .ok (.getfield 31, 3) := by decide +kernel
theorem dX1_tryOrders_21 : decode cX1_tryOrders 21 = .ok (.if_icmp .ne 8, 3) := by decide +kernel
theorem dX1_tryOrders_24 : decode cX1_tryOrders 24 = .ok (.aload_n 0, 1) := by decide +kernel
theorem dX1_tryOrders_25 : decode cX1_tryOrders 25 = .ok (.invokevirtual 93, 3) := by decide +kernel
theorem dX1_tryOrders_28 : decode cX1_tryOrders 28 = .ok (.return_, 1) := by decide +kernel
theorem dX1_tryOrders_29 : decode cX1_tryOrders 29 = .ok (.iconst 0, 1) := by decide +kernel
theorem dX1_tryOrders_30 : decode cX1_tryOrders 30 = .ok (.istore 5, 2) := by decide +kernel
theorem dX1_tryOrders_32 : decode cX1_tryOrders 32 = .ok (.iload 5, 2) := by decide +kernel
theorem dX1_tryOrders_34 : decode cX1_tryOrders 34 = .ok (.aload_n 0, 1) := by decide +kernel
theorem dX1_tryOrders_35 : decode cX1_tryOrders 35 = .ok (.getfield 31, 3) := by decide +kernel
theorem dX1_tryOrders_38 : decode cX1_tryOrders 38 = .ok (.if_icmp .ge 70, 3) := by decide +kernel
theorem dX1_tryOrders_41 : decode cX1_tryOrders 41 = .ok (.aload_n 0, 1) := by decide +kernel
theorem dX1_tryOrders_42 : decode cX1_tryOrders 42 = .ok (.getfield 21, 3) := by decide +kernel
theorem dX1_tryOrders_45 : decode cX1_tryOrders 45 = .ok (.iload 5, 2) := by decide +kernel
theorem dX1_tryOrders_47 : decode cX1_tryOrders 47 = .ok (.baload, 1) := by decide +kernel
theorem dX1_tryOrders_48 : decode cX1_tryOrders 48 = .ok (.ifCond .ne 54, 3) := by decide +kernel
theorem dX1_tryOrders_51 : decode cX1_tryOrders 51 = .ok (.aload_n 2, 1) := by decide +kernel
theorem dX1_tryOrders_52 : decode cX1_tryOrders 52 = .ok (.aload_n 1, 1) := by decide +kernel
theorem dX1_tryOrders_53 : decode cX1_tryOrders 53 = .ok (.aload_n 0, 1) := by decide +kernel
theorem dX1_tryOrders_54 : decode cX1_tryOrders 54 = .ok (.getfield 9, 3) := by decide +kernel
theorem dX1_tryOrders_57 : decode cX1_tryOrders 57 = .ok (.iload 5, 2) := by decide +kernel
theorem dX1_tryOrders_59 : decode cX1_tryOrders 59 = .ok (.iaload, 1) := by decide +kernel
theorem dX1_tryOrders_60 : decode cX1_tryOrders 60 = .ok (.iload_n 3, 1) := by decide +kernel
theorem dX1_tryOrders_61 : decode cX1_tryOrders 61 = .ok (.invokevirtual 60, 3) := by decide +kernel
theorem dX1_tryOrders_64 : decode cX1_tryOrders 64 = .ok (.aload_n 0, 1) := by decide +kernel
theorem dX1_tryOrders_65 : decode cX1_tryOrders 65 = .ok (.aload_n 2, 1) := by decide +kernel
theorem dX1_tryOrders_66 : decode cX1_tryOrders 66 = .ok (.iload 5, 2) := by decide +kernel
theorem dX1_tryOrders_68 : decode cX1_tryOrders 68 = .ok (.iload 4, 2) := by decide +kernel
theorem dX1_tryOrders_70 : decode cX1_tryOrders 70 = .ok (.invokevirtual 96, 3) := by decide +kernel
theorem dX1_tryOrders_73 : decode cX1_tryOrders 73 = .ok (.aload_n 0, 1) := by decide +kernel
theorem dX1_tryOrders_74 : decode cX1_tryOrders 74 = .ok (.aload_n 1, 1) := by decide +kernel
theorem dX1_tryOrders_75 : decode cX1_tryOrders 75 = .ok (.aload_n 2, 1) := by decide +kernel
theorem dX1_tryOrders_76 : decode cX1_tryOrders 76 = .ok (.iload_n 3, 1) := by decide +kernel
theorem dX1_tryOrders_77 : decode cX1_tryOrders 77 = .ok (.iload 4, 2) := by decide +kernel
theorem dX1_tryOrders_79 : decode cX1_tryOrders 79 = .ok (.iconst 1, 1) := by decide +kernel
theorem dX1_tryOrders_80 : decode cX1_tryOrders 80 = .ok (.iadd, 1) := by decide +kernel
theorem dX1_tryOrders_81 : decode cX1_tryOrders 81 = .ok (.invokestatic 56, 3) := by decide +kernel
theorem dX1_tryOrders_84 : decode cX1_tryOrders 84 = .ok (.aload_n 0, 1) := by decide +kernel
theorem dX1_tryOrders_85 : decode cX1_tryOrders 85 = .ok (.aload_n 2, 1) := by decide +kernel
theorem dX1_tryOrders_86 : decode cX1_tryOrders 86 = .ok (.iload 5, 2) := by decide +kernel
theorem dX1_tryOrders_88 : decode cX1_tryOrders 88 = .ok (.invokevirtual 100, 3) := by decide +kernel
theorem dX1_tryOrders_91 : decode cX1_tryOrders 91 = .ok (.aload_n 2, 1) := by decide +kernel
theorem dX1_tryOrders_92 : decode cX1_tryOrders 92 = .ok (.aload_n 0, 1) := by decide +kernel
theorem dX1_tryOrders_93 : decode cX1_tryOrders 93 = .ok (.getfield 9, 3) := by decide +kernel
theorem dX1_tryOrders_96 : decode cX1_tryOrders 96 = .ok (.iload 5, 2) := by decide +kernel
theorem dX1_tryOrders_98 : decode cX1_tryOrders 98 = .ok (.iaload, 1) := by decide +kernel
theorem dX1_tryOrders_99 : decode cX1_tryOrders 99 = .ok (.invokevirtual 85, 3) := by decide +kernel
theorem dX1_tryOrders_102 : decode cX1_tryOrders 102 = .ok (.iinc 5 1, 3) := by decide +kernel
theorem dX1_tryOrders_105 : decode cX1_tryOrders 105 = .ok (.goto (-73), 3) := by decide +kernel
theorem dX1_tryOrders_108 : decode cX1_tryOrders 108 = .ok (.return_, 1) := by decide +kernel
theorem dX1_isHopeless_0 : decode cX1_isHopeless 0 = .ok (.aload_n 0, 1) := by decide +kernel
theorem dX1_isHopeless_1 : decode cX1_isHopeless 1 = .ok (.getfield 41, 3) := by decide +kernel
theorem dX1_isHopeless_4 : decode cX1_isHopeless 4 = .ok (.aload_n 0, 1) := by decide +kernel
theorem dX1_isHopeless_5 : decode cX1_isHopeless 5 = .ok (.getfield 35, 3) := by decide +kernel
theorem dX1_isHopeless_8 : decode cX1_isHopeless 8 = .ok (.if_icmp .lt 25, 3) := by decide +kernel
theorem dX1_isHopeless_11 : decode cX1_isHopeless 11 = .ok (.aload_n 0, 1) := by decide +kernel
theorem dX1_isHopeless_12 : decode cX1_isHopeless 12 = .ok (.getfield 41, 3) := by decide +kernel
theorem dX1_isHopeless_15 : decode cX1_isHopeless 15 = .ok (.aload_n 0, 1) := by decide +kernel
theorem dX1_isHopeless_16 : decode cX1_isHopeless 16 = .ok (.getfield 35, 3) := by decide +kernel
theorem dX1_isHopeless_19 : decode cX1_isHopeless 19 = .ok (.if_icmp .ne 18, 3) := by decide +kernel
theorem dX1_isHopeless_22 : decode cX1_isHopeless 22 = .ok (.aload_n 0, 1) := by decide +kernel
theorem dX1_isHopeless_23 : decode cX1_isHopeless 23 = .ok (.getfield 44, 3) := by decide +kernel
theorem dX1_isHopeless_26 : decode cX1_isHopeless 26 = .ok (.aload_n 0, 1) := by decide +kernel
theorem dX1_isHopeless_27 : decode cX1_isHopeless 27 = .ok (.getfield 38, 3) := by decide +kernel
theorem dX1_isHopeless_30 : decode cX1_isHopeless 30 = .ok (.if_icmp .lt 7, 3) := by decide +kernel
theorem dX1_isHopeless_33 : decode cX1_isHopeless 33 = .ok (.iconst 1, 1) := by decide +kernel
theorem dX1_isHopeless_34 : decode cX1_isHopeless 34 = .ok (.goto 4, 3) := by decide +kernel
theorem dX1_isHopeless_37 : decode cX1_isHopeless 37 = .ok (.iconst 0, 1) := by decide +kernel
theorem dX1_isHopeless_38 : decode cX1_isHopeless 38 = .ok (.ireturn, 1) := by decide +kernel
theorem dX1_place_0 : decode cX1_place 0 = .ok (.aload_n 1, 1) := by decide +kernel
theorem dX1_place_1 : decode cX1_place 1 = .ok (.getfield 73, 3) := by decide +kernel
theorem dX1_place_4 : decode cX1_place 4 = .ok (.aload_n 0, 1) := by decide +kernel
theorem dX1_place_5 : decode cX1_place 5 = .ok (.getfield 9, 3) := by decide +kernel
theorem dX1_place_8 : decode cX1_place 8 = .ok (.iload_n 2, 1) := by decide +kernel
theorem dX1_place_9 : decode cX1_place 9 = .ok (.iaload, 1) := by decide +kernel
theorem dX1_place_10 : decode cX1_place 10 = .ok (.aaload, 1) := by decide +kernel
theorem dX1_place_11 : decode cX1_place 11 = .ok (.astore 4, 2) := by decide +kernel
theorem dX1_place_13 : decode cX1_place 13 = .ok (.aload_n 0, 1) := by decide +kernel
theorem dX1_place_14 : decode cX1_place 14 = .ok (.getfield 21, 3) := by decide +kernel
theorem dX1_place_17 : decode cX1_place 17 = .ok (.iload_n 2, 1) := by decide +kernel
theorem dX1_place_18 : decode cX1_place 18 = .ok (.iconst 1, 1) := by decide +kernel
theorem dX1_place_19 : decode cX1_place 19 = .ok (.bastore, 1) := by decide +kernel
theorem dX1_place_20 : decode cX1_place 20 = .ok (.aload_n 0, 1) := by decide +kernel
theorem dX1_place_21 : decode cX1_place 21 = .ok (.getfield 25, 3) := by decide +kernel
theorem dX1_place_24 : decode cX1_place 24 = .ok (.iload_n 3, 1) := by decide +kernel
theorem dX1_place_25 : decode cX1_place 25 = .ok (.aload_n 0, 1) := by decide +kernel
theorem dX1_place_26 : decode cX1_place 26 = .ok (.getfield 9, 3) := by decide +kernel
theorem dX1_place_29 : decode cX1_place 29 = .ok (.iload_n 2, 1) := by decide +kernel
theorem dX1_place_30 : decode cX1_place 30 = .ok (.iaload, 1) := by decide +kernel
theorem dX1_place_31 : decode cX1_place 31 = .ok (.iastore, 1) := by decide +kernel
theorem dX1_place_32 : decode cX1_place 32 = .ok (.aload_n 0, 1) := by decide +kernel
theorem dX1_place_33 : decode cX1_place 33 = .ok (.dup, 1) := by decide +kernel
theorem dX1_place_34 : decode cX1_place 34 = .ok (.getfield 41, 3) := by decide +kernel
theorem dX1_place_37 : decode cX1_place 37 = .ok (.aload 4, 2) := by decide +kernel
theorem dX1_place_39 : decode cX1_place 39 = .ok (.getfield 77, 3) := by decide +kernel
theorem dX1_place_42 : decode cX1_place 42 = .ok (.aload_n 0, 1) := by decide +kernel
theorem dX1_place_43 : decode cX1_place 43 = .ok (.getfield 15, 3) := by decide +kernel
theorem dX1_place_46 : decode cX1_place 46 = .ok (.iload_n 2, 1) := by decide +kernel
theorem dX1_place_47 : decode cX1_place 47 = .ok (.iaload, 1) := by decide +kernel
theorem dX1_place_48 : decode cX1_place 48 = .ok (.isub, 1) := by decide +kernel
theorem dX1_place_49 : decode cX1_place 49 = .ok (.iadd, 1) := by decide +kernel
theorem dX1_place_50 : decode cX1_place 50 = .ok (.putfield 41, 3) := by decide +kernel
theorem dX1_place_53 : decode cX1_place 53 = .ok (.aload_n 0, 1) := by decide +kernel
theorem dX1_place_54 : decode cX1_place 54 = .ok (.dup, 1) := by decide +kernel
theorem dX1_place_55 : decode cX1_place 55 = .ok (.getfield 44, 3) := by decide +kernel
theorem dX1_place_58 : decode cX1_place 58 = .ok (.aload 4, 2) := by decide +kernel
theorem dX1_place_60 : decode cX1_place 60 = .ok (.getfield 82, 3) := by decide +kernel
theorem dX1_place_63 : decode cX1_place 63 = .ok (.aload_n 0, 1) := by decide +kernel
theorem dX1_place_64 : decode cX1_place 64 = .ok (.getfield 18, 3) := by decide +kernel
theorem dX1_place_67 : decode cX1_place 67 = .ok (.iload_n 2, 1) := by decide +kernel
theorem dX1_place_68 : decode cX1_place 68 = .ok (.iaload, 1) := by decide +kernel
theorem dX1_place_69 : decode cX1_place 69 = .ok (.isub, 1) := by decide +kernel
theorem dX1_place_70 : decode cX1_place 70 = .ok (.iadd, 1) := by decide +kernel
theorem dX1_place_71 : decode cX1_place 71 = .ok (.putfield 44, 3) := by decide +kernel
theorem dX1_place_74 : decode cX1_place 74 = .ok (.return_, 1) := by decide +kernel
theorem dX1_unplace_0 : decode cX1_unplace 0 = .ok (.aload_n 1, 1) := by decide +kernel
theorem dX1_unplace_1 : decode cX1_unplace 1 = .ok (.getfield 73, 3) := by decide +kernel
theorem dX1_unplace_4 : decode cX1_unplace 4 = .ok (.aload_n 0, 1) := by decide +kernel
theorem dX1_unplace_5 : decode cX1_unplace 5 = .ok (.getfield 9, 3) := by decide +kernel
theorem dX1_unplace_8 : decode cX1_unplace 8 = .ok (.iload_n 2, 1) := by decide +kernel
theorem dX1_unplace_9 : decode cX1_unplace 9 = .ok (.iaload, 1) := by decide +kernel
theorem dX1_unplace_10 : decode cX1_unplace 10 = .ok (.aaload, 1) := by decide +kernel
theorem dX1_unplace_11 : decode cX1_unplace 11 = .ok (.astore_n 3, 1) := by decide +kernel
theorem dX1_unplace_12 : decode cX1_unplace 12 = .ok (.aload_n 0, 1) := by decide +kernel
theorem dX1_unplace_13 : decode cX1_unplace 13 = .ok (.getfield 21, 3) := by decide +kernel
theorem dX1_unplace_16 : decode cX1_unplace 16 = .ok (.iload_n 2, 1) := by decide +kernel
theorem dX1_unplace_17 : decode cX1_unplace 17 = .ok (.iconst 0, 1) := by decide +kernel
theorem dX1_unplace_18 : decode cX1_unplace 18 = .ok (.bastore, 1) := by decide +kernel
theorem dX1_unplace_19 : decode cX1_unplace 19 = .ok (.aload_n 0, 1) := by decide +kernel
theorem dX1_unplace_20 : decode cX1_unplace 20 = .ok (.dup, 1) := by decide +kernel
theorem dX1_unplace_21 : decode cX1_unplace 21 = .ok (.getfield 41, 3) := by decide +kernel
theorem dX1_unplace_24 : decode cX1_unplace 24 = .ok (.aload_n 3, 1) := by decide +kernel
theorem dX1_unplace_25 : decode cX1_unplace 25 = .ok (.getfield 77, 3) := by decide +kernel
theorem dX1_unplace_28 : decode cX1_unplace 28 = .ok (.aload_n 0, 1) := by decide +kernel
theorem dX1_unplace_29 : decode cX1_unplace 29 = .ok (.getfield 15, 3) := by decide +kernel
theorem dX1_unplace_32 : decode cX1_unplace 32 = .ok (.iload_n 2, 1) := by decide +kernel
theorem dX1_unplace_33 : decode cX1_unplace 33 = .ok (.iaload, 1) := by decide +kernel
theorem dX1_unplace_34 : decode cX1_unplace 34 = .ok (.isub, 1) := by decide +kernel
theorem dX1_unplace_35 : decode cX1_unplace 35 = .ok (.isub, 1) := by decide +kernel
theorem dX1_unplace_36 : decode cX1_unplace 36 = .ok (.putfield 41, 3) := by decide +kernel
theorem dX1_unplace_39 : decode cX1_unplace 39 = .ok (.aload_n 0, 1) := by decide +kernel
theorem dX1_unplace_40 : decode cX1_unplace 40 = .ok (.dup, 1) := by decide +kernel
theorem dX1_unplace_41 : decode cX1_unplace 41 = .ok (.getfield 44, 3) := by decide +kernel
theorem dX1_unplace_44 : decode cX1_unplace 44 = .ok (.aload_n 3, 1) := by decide +kernel
theorem dX1_unplace_45 : decode cX1_unplace 45 = .ok (.getfield 82, 3) := by decide +kernel
theorem dX1_unplace_48 : decode cX1_unplace 48 = .ok (.aload_n 0, 1) := by decide +kernel
theorem dX1_unplace_49 : decode cX1_unplace 49 = .ok (.getfield 18, 3) := by decide +kernel
theorem dX1_unplace_52 : decode cX1_unplace 52 = .ok (.iload_n 2, 1) := by decide +kernel
theorem dX1_unplace_53 : decode cX1_unplace 53 = .ok (.iaload, 1) := by decide +kernel
theorem dX1_unplace_54 : decode cX1_unplace 54 = .ok (.isub, 1) := by decide +kernel
theorem dX1_unplace_55 : decode cX1_unplace 55 = .ok (.isub, 1) := by decide +kernel
theorem dX1_unplace_56 : decode cX1_unplace 56 = .ok (.putfield 44, 3) := by decide +kernel
theorem dX1_unplace_59 : decode cX1_unplace 59 = .ok (.return_, 1) := by decide +kernel
theorem dX1_keepOrder_0 : decode cX1_keepOrder 0 = .ok (.aload_n 0, 1) := by decide +kernel
theorem dX1_keepOrder_1 : decode cX1_keepOrder 1 = .ok (.aload_n 0, 1) := by decide +kernel
theorem dX1_keepOrder_2 : decode cX1_keepOrder 2 = .ok (.getfield 41, 3) := by decide +kernel
theorem dX1_keepOrder_5 : decode cX1_keepOrder 5 = .ok (.putfield 35, 3) := by decide +kernel
theorem dX1_keepOrder_8 : decode cX1_keepOrder 8 = .ok (.aload_n 0, 1) := by decide +kernel
theorem dX1_keepOrder_9 : decode cX1_keepOrder 9 = .ok (.aload_n 0, 1) := by decide +kernel
theorem dX1_keepOrder_10 : decode cX1_keepOrder 10 = .ok (.getfield 44, 3) := by decide +kernel
theorem dX1_keepOrder_13 : decode cX1_keepOrder 13 = .ok (.putfield 38, 3) := by decide +kernel
theorem dX1_keepOrder_16 : decode cX1_keepOrder 16 = .ok (.aload_n 0, 1) := by decide +kernel
theorem dX1_keepOrder_17 : decode cX1_keepOrder 17 = .ok (.getfield 25, 3) := by decide +kernel
theorem dX1_keepOrder_20 : decode cX1_keepOrder 20 = .ok (.iconst 0, 1) := by decide +kernel
theorem dX1_keepOrder_21 : decode cX1_keepOrder 21 = .ok (.aload_n 0, 1) := by decide +kernel
theorem dX1_keepOrder_22 : decode cX1_keepOrder 22 = .ok (.getfield 28, 3) := by decide +kernel
theorem dX1_keepOrder_25 : decode cX1_keepOrder 25 = .ok (.iconst 0, 1) := by decide +kernel
theorem dX1_keepOrder_26 : decode cX1_keepOrder 26 = .ok (.aload_n 0, 1) := by decide +kernel
theorem dX1_keepOrder_27 : decode cX1_keepOrder 27 = .ok (.getfield 31, 3) := by decide +kernel
theorem dX1_keepOrder_30 : decode cX1_keepOrder 30 = .ok (.invokestatic 104, 3) := by decide +kernel
theorem dX1_keepOrder_33 : decode cX1_keepOrder 33 = .ok (.return_, 1) := by decide +kernel
set_option maxRecDepth 20000 in
theorem ggX2_init_X8_init : GoodIn wsX2_init wsX8_init := goodIn_r _ [22, 23, 2, 3, 24, 25, 26, 27, 28, 29, 30, 31, 40, 41, 42, 43, 44, 45, 46] (by decide +kernel) (by decide +kernel)
set_option maxRecDepth 20000 in
theorem gX2_init_X8_init_n11 : GoodIn wsX2_init (wsX8_init) := ggX2_init_X8_init
set_option maxRecDepth 20000 in
theorem ggX2_init_X6_init : GoodIn wsX2_init wsX6_init := goodIn_r _ [33, 34, 2, 3, 35, 36, 16, 37, 38, 39, 57, 58, 59, 60, 61] (by decide +kernel) (by decide +kernel)
set_option maxRecDepth 20000 in
theorem gX2_init_X6_init_n47 : GoodIn wsX2_init (wsX6_init) := ggX2_init_X6_init
theorem dX2_init_0 : decode cX2_init 0 = .ok (.aload_n 0, 1) := by decide +kernel
theorem dX2_init_1 : decode cX2_init 1 = .ok (.invokespecial 3, 3) := by decide +kernel
theorem dX2_init_4 : decode cX2_init 4 = .ok (.aload_n 0, 1) := by decide +kernel
theorem dX2_init_5 : decode cX2_init 5 = .ok (.new 9, 3) := by decide +kernel
theorem dX2_init_8 : decode cX2_init 8 = .ok (.dup, 1) := by decide +kernel
theorem dX2_init_9 : decode cX2_init 9 = .ok (.invokespecial 11, 3) := by decide +kernel
theorem dX2_init_12 : decode cX2_init 12 = .ok (.putfield 12, 3) := by decide +kernel
theorem dX2_init_15 : decode cX2_init 15 = .ok (.aload_n 0, 1) := by decide +kernel
theorem dX2_init_16 : decode cX2_init 16 = .ok (.bipush 8, 2) := by decide +kernel
theorem dX2_init_18 : decode cX2_init 18 = .ok (.anewarray 18, 3) := by decide +kernel
theorem dX2_init_21 : decode cX2_init 21 = .ok (.putfield 20, 3) := by decide +kernel
theorem dX2_init_24 : decode cX2_init 24 = .ok (.aload_n 0, 1) := by decide +kernel
theorem dX2_init_25 : decode cX2_init 25 = .ok (.iconst 0, 1) := by decide +kernel
theorem dX2_init_26 : decode cX2_init 26 = .ok (.putfield 24, 3) := by decide +kernel
theorem dX2_init_29 : decode cX2_init 29 = .ok (.aload_n 0, 1) := by decide +kernel
theorem dX2_init_30 : decode cX2_init 30 = .ok (.iconst 0, 1) := by decide +kernel
theorem dX2_init_31 : decode cX2_init 31 = .ok (.putfield 28, 3) := by decide +kernel
theorem dX2_init_34 : decode cX2_init 34 = .ok (.aload_n 0, 1) := by decide +kernel
theorem dX2_init_35 : decode cX2_init 35 = .ok (.iconst (-1), 1) := by decide +kernel
theorem dX2_init_36 : decode cX2_init 36 = .ok (.putfield 31, 3) := by decide +kernel
theorem dX2_init_39 : decode cX2_init 39 = .ok (.aload_n 0, 1) := by decide +kernel
theorem dX2_init_40 : decode cX2_init 40 = .ok (.iconst 0, 1) := by decide +kernel
theorem dX2_init_41 : decode cX2_init 41 = .ok (.putfield 34, 3) := by decide +kernel
theorem dX2_init_44 : decode cX2_init 44 = .ok (.aload_n 0, 1) := by decide +kernel
theorem dX2_init_45 : decode cX2_init 45 = .ok (.iconst 0, 1) := by decide +kernel
theorem dX2_init_46 : decode cX2_init 46 = .ok (.putfield 37, 3) := by decide +kernel
theorem dX2_init_49 : decode cX2_init 49 = .ok (.aload_n 0, 1) := by decide +kernel
theorem dX2_init_50 : decode cX2_init 50 = .ok (.iconst 0, 1) := by decide +kernel
theorem dX2_init_51 : decode cX2_init 51 = .ok (.putfield 40, 3) := by decide +kernel
theorem dX2_init_54 : decode cX2_init 54 = .ok (.aload_n 0, 1) := by decide +kernel
theorem dX2_init_55 : decode cX2_init 55 = .ok (.iconst 5, 1) := by decide +kernel
theorem dX2_init_56 : decode cX2_init 56 = .ok (.newarray .int, 2) := by decide +kernel
theorem dX2_init_58 : decode cX2_init 58 = .ok (.putfield 43, 3) := by decide +kernel
theorem dX2_init_61 : decode cX2_init 61 = .ok (.iconst 0, 1) := by decide +kernel
theorem dX2_init_62 : decode cX2_init 62 = .ok (.istore_n 1, 1) := by decide +kernel
theorem dX2_init_63 : decode cX2_init 63 = .ok (.iload_n 1, 1) := by decide +kernel
theorem dX2_init_64 : decode cX2_init 64 = .ok (.bipush 8, 2) := by decide +kernel
theorem dX2_init_66 : decode cX2_init 66 = .ok (.if_icmp .ge 22, 3) := by decide +kernel
theorem dX2_init_69 : decode cX2_init 69 = .ok (.aload_n 0, 1) := by decide +kernel
theorem dX2_init_70 : decode cX2_init 70 = .ok (.getfield 20, 3) := by decide +kernel
theorem dX2_init_73 : decode cX2_init 73 = .ok (.iload_n 1, 1) := by decide +kernel
theorem dX2_init_74 : decode cX2_init 74 = .ok (.new 18, 3) := by decide +kernel
theorem dX2_init_77 : decode cX2_init 77 = .ok (.dup, 1) := by decide +kernel
theorem dX2_init_78 : decode cX2_init 78 = .ok (.invokespecial 47, 3) := by decide +kernel
theorem dX2_init_81 : decode cX2_init 81 = .ok (.aastore, 1) := by decide +kernel
theorem dX2_init_82 : decode cX2_init 82 = .ok (.iinc 1 1, 3) := by decide +kernel
theorem dX2_init_85 : decode cX2_init 85 = .ok (.goto (-22), 3) := by decide +kernel
theorem dX2_init_88 : decode cX2_init 88 = .ok (.aload_n 0, 1) := by decide +kernel
theorem dX2_init_89 : decode cX2_init 89 = .ok (.aload_n 0, 1) := by decide +kernel
theorem dX2_init_90 : decode cX2_init 90 = .ok (.getfield 20, 3) := by decide +kernel
theorem dX2_init_93 : decode cX2_init 93 = .ok (.iconst 0, 1) := by decide +kernel
theorem dX2_init_94 : decode cX2_init 94 = .ok (.aaload, 1) := by decide +kernel
theorem dX2_init_95 : decode cX2_init 95 = .ok (.putfield 48, 3) := by decide +kernel
theorem dX2_init_98 : decode cX2_init 98 = .ok (.return_, 1) := by decide +kernel
set_option maxRecDepth 20000 in
theorem ggX2_readTape_X8_rewind : GoodIn wsX2_readTape wsX8_rewind := goodIn_r _ [13, 14, 185, 186, 187, 188, 189, 190, 191] (by decide +kernel) (by decide +kernel)
set_option maxRecDepth 20000 in
theorem gX2_readTape_X8_rewind : GoodIn wsX2_readTape (wsV RX2 52 RX8 yX8_rewind wsX8_rewind) := goodIn_app (goodIn_of _ (by decide +kernel)) ggX2_readTape_X8_rewind
set_option maxRecDepth 20000 in
theorem ggX2_readTape_X8_readToken : GoodIn wsX2_readTape wsX8_readToken := goodIn_r _ [18, 14, 19, 20, 21, 22, 23, 24, 12, 25, 26, 27, 28, 29, 30, 31, 32, 33, 34, 35, 36, 37, 38, 39, 40, 41, 42, 43, 44, 45, 46, 47, 48, 49, 50, 51, 52, 53, 54, 55, 56, 57, 58, 59, 60, 61, 62, 63, 64, 65, 66, 67, 68, 69, 70, 71, 72, 73, 74, 75, 76, 77, 78, 79, 80, 81, 82, 83, 84, 85, 86, 87, 88, 89, 90, 91, 92, 93, 94, 95, 96, 97, 98, 99, 100, 101, 185, 186, 187, 188, 189, 190, 191] (by decide +kernel) (by decide +kernel)
set_option maxRecDepth 20000 in
theorem gX2_readTape_X8_readToken : GoodIn wsX2_readTape (wsV RX2 55 RX8 yX8_readToken wsX8_readToken) := goodIn_app (goodIn_of _ (by decide +kernel)) ggX2_readTape_X8_readToken
set_option maxRecDepth 20000 in
theorem ggX2_readTape_X2_take : GoodIn wsX2_readTape wsX2_take := goodIn_r _ [106, 5, 107, 108, 109, 105, 110, 4, 111, 112, 113, 114, 115, 116, 1, 6, 117, 2, 118, 119, 120, 121, 122, 123, 124, 125, 126, 127, 128, 129, 130, 131, 132, 133, 134, 135, 136, 137, 138, 139, 140, 141, 142, 143, 144, 145, 146, 147, 148, 149, 150, 151, 152, 153, 154, 155, 156, 157, 158, 159, 160, 161, 162, 163, 164, 165, 166, 167, 168, 169, 170, 171, 172, 173, 174, 175, 176, 177, 178, 179, 180, 181, 182, 183, 184, 185, 186, 187, 188, 189, 190, 191, 192, 193, 194, 195, 196] (by decide +kernel) (by decide +kernel)
set_option maxRecDepth 20000 in
theorem gX2_readTape_X2_take : GoodIn wsX2_readTape (wsV RX2 61 RX2 yX2_take wsX2_take) := goodIn_app (goodIn_of _ (by decide +kernel)) ggX2_readTape_X2_take
theorem dX2_readTape_0 : decode cX2_readTape 0 = .ok (.aload_n 0, 1) := by decide +kernel
theorem dX2_readTape_1 : decode cX2_readTape 1 = .ok (.iconst 0, 1) := by decide +kernel
theorem dX2_readTape_2 : decode cX2_readTape 2 = .ok (.putfield 28, 3) := by decide +kernel
theorem dX2_readTape_5 : decode cX2_readTape 5 = .ok (.aload_n 0, 1) := by decide +kernel
theorem dX2_readTape_6 : decode cX2_readTape 6 = .ok (.iconst (-1), 1) := by decide +kernel
theorem dX2_readTape_7 : decode cX2_readTape 7 = .ok (.putfield 31, 3) := by decide +kernel
theorem dX2_readTape_10 : decode cX2_readTape 10 = .ok (.aload_n 0, 1) := by decide +kernel
theorem dX2_readTape_11 : decode cX2_readTape 11 = .ok (.aload_n 0, 1) := by decide +kernel
theorem dX2_readTape_12 : decode cX2_readTape 12 = .ok (.getfield 24, 3) := by decide +kernel
theorem dX2_readTape_15 : decode cX2_readTape 15 = .ok (.putfield 34, 3) := by decide +kernel
theorem dX2_readTape_18 : decode cX2_readTape 18 = .ok (.aload_n 0, 1) := by decide +kernel
theorem dX2_readTape_19 : decode cX2_readTape 19 = .ok (.iconst 0, 1) := by decide +kernel
theorem dX2_readTape_20 : decode cX2_readTape 20 = .ok (.putfield 37, 3) := by decide +kernel
theorem dX2_readTape_23 : decode cX2_readTape 23 = .ok (.aload_n 0, 1) := by decide +kernel
theorem dX2_readTape_24 : decode cX2_readTape 24 = .ok (.getfield 12, 3) := by decide +kernel
theorem dX2_readTape_27 : decode cX2_readTape 27 = .ok (.invokevirtual 52, 3) := by decide +kernel
theorem dX2_readTape_30 : decode cX2_readTape 30 = .ok (.iconst 1, 1) := by decide +kernel
theorem dX2_readTape_31 : decode cX2_readTape 31 = .ok (.istore_n 1, 1) := by decide +kernel
theorem dX2_readTape_32 : decode cX2_readTape 32 = .ok (.iconst 0, 1) := by decide +kernel
theorem dX2_readTape_33 : decode cX2_readTape 33 = .ok (.istore_n 2, 1) := by decide +kernel
theorem dX2_readTape_34 : decode cX2_readTape 34 = .ok (.iload_n 2, 1) := by decide +kernel
theorem dX2_readTape_35 : decode cX2_readTape 35 = .ok (.sipush 600, 3) := by decide +kernel
theorem dX2_readTape_38 : decode cX2_readTape 38 = .ok (.if_icmp .gt 56, 3) := by decide +kernel
theorem dX2_readTape_41 : decode cX2_readTape 41 = .ok (.iload_n 1, 1) := by decide +kernel
theorem dX2_readTape_42 : decode cX2_readTape 42 = .ok (.ifCond .eq 52, 3) := by decide +kernel
theorem dX2_readTape_45 : decode cX2_readTape 45 = .ok (.aload_n 0, 1) := by decide +kernel
theorem dX2_readTape_46 : decode cX2_readTape 46 = .ok (.getfield 12, 3) := by decide +kernel
theorem dX2_readTape_49 : decode cX2_readTape 49 = .ok (.invokevirtual 55, 3) := by decide +kernel
theorem dX2_readTape_52 : decode cX2_readTape 52 = .ok (.aload_n 0, 1) := by decide +kernel
theorem dX2_readTape_53 : decode cX2_readTape 53 = .ok (.aload_n 0, 1) := by decide +kernel
theorem dX2_readTape_54 : decode cX2_readTape 54 = .ok (.getfield 12, 3) := by decide +kernel
theorem dX2_readTape_57 : decode cX2_readTape 57 = .ok (.getfield 58, 3) := by decide +kernel
theorem dX2_readTape_60 : decode cX2_readTape 60 = .ok (.invokevirtual 61, 3) := by decide +kernel
theorem dX2_readTape_63 : decode cX2_readTape 63 = .ok (.aload_n 0, 1) := by decide +kernel
theorem dX2_readTape_64 : decode cX2_readTape 64 = .ok (.getfield 28, 3) := by decide +kernel
theorem dX2_readTape_67 : decode cX2_readTape 67 = .ok (.ifCond .ne 19, 3) := by decide +kernel
theorem dX2_readTape_70 : decode cX2_readTape 70 = .ok (.aload_n 0, 1) := by decide +kernel
theorem dX2_readTape_71 : decode cX2_readTape 71 = .ok (.getfield 12, 3) := by decide +kernel
theorem dX2_readTape_74 : decode cX2_readTape 74 = .ok (.getfield 58, 3) := by decide +kernel
theorem dX2_readTape_77 : decode cX2_readTape 77 = .ok (.bipush 12, 2) := by decide +kernel
theorem dX2_readTape_79 : decode cX2_readTape 79 = .ok (.if_icmp .eq 7, 3) := by decide +kernel
theorem dX2_readTape_82 : decode cX2_readTape 82 = .ok (.iconst 1, 1) := by decide +kernel
theorem dX2_readTape_83 : decode cX2_readTape 83 = .ok (.goto 4, 3) := by decide +kernel
theorem dX2_readTape_86 : decode cX2_readTape 86 = .ok (.iconst 0, 1) := by decide +kernel
theorem dX2_readTape_87 : decode cX2_readTape 87 = .ok (.istore_n 1, 1) := by decide +kernel
theorem dX2_readTape_88 : decode cX2_readTape 88 = .ok (.iinc 2 1, 3) := by decide +kernel
theorem dX2_readTape_91 : decode cX2_readTape 91 = .ok (.goto (-57), 3) := by decide +kernel
theorem dX2_readTape_94 : decode cX2_readTape 94 = .ok (.aload_n 0, 1) := by decide +kernel
theorem dX2_readTape_95 : decode cX2_readTape 95 = .ok (.getfield 28, 3) := by decide +kernel
theorem dX2_readTape_98 : decode cX2_readTape 98 = .ok (.ifCond .ne 11, 3) := by decide +kernel
theorem dX2_readTape_101 : decode cX2_readTape 101 = .ok (.aload_n 0, 1) := by decide +kernel
theorem dX2_readTape_102 : decode cX2_readTape 102 = .ok (.aload_n 0, 1) := by decide +kernel
theorem dX2_readTape_103 : decode cX2_readTape 103 = .ok (.getfield 34, 3) := by decide +kernel
theorem dX2_readTape_106 : decode cX2_readTape 106 = .ok (.putfield 24, 3) := by decide +kernel
theorem dX2_readTape_109 : decode cX2_readTape 109 = .ok (.aload_n 0, 1) := by decide +kernel
theorem dX2_readTape_110 : decode cX2_readTape 110 = .ok (.getfield 12, 3) := by decide +kernel
theorem dX2_readTape_113 : decode cX2_readTape 113 = .ok (.iconst 0, 1) := by decide +kernel
theorem dX2_readTape_114 : decode cX2_readTape 114 = .ok (.putfield 65, 3) := by decide +kernel
theorem dX2_readTape_117 : decode cX2_readTape 117 = .ok (.return_, 1) := by decide +kernel
set_option maxRecDepth 20000 in
theorem ggX2_take_X2_takeCure : GoodIn wsX2_take wsX2_takeCure := goodIn_r _ [6, 7, 8, 9, 1, 10, 11, 12, 5, 13, 14, 15, 16, 17, 75, 76, 77, 78, 79, 80, 81, 82, 83, 84, 85, 86, 87, 88, 89, 90, 91] (by decide +kernel) (by decide +kernel)
set_option maxRecDepth 20000 in
theorem gX2_take_X2_takeCure : GoodIn wsX2_take (wsV RX2 68 RX2 yX2_takeCure wsX2_takeCure) := goodIn_app (goodIn_of _ (by decide +kernel)) ggX2_take_X2_takeCure
set_option maxRecDepth 20000 in
theorem ggX2_take_X2_takeName : GoodIn wsX2_take wsX2_takeName := goodIn_r _ [21, 15, 22, 9, 1, 10, 11, 12, 5, 13, 14, 16, 17, 23, 24, 25, 26, 7, 8, 27, 28, 29, 30, 31, 32, 33, 34, 75, 76, 77, 78, 79, 80, 81, 82, 83, 84, 85, 86, 87, 88, 89, 90, 91, 92, 93, 94, 95, 96] (by decide +kernel) (by decide +kernel)
set_option maxRecDepth 20000 in
theorem gX2_take_X2_takeName : GoodIn wsX2_take (wsV RX2 71 RX2 yX2_takeName wsX2_takeName) := goodIn_app (goodIn_of _ (by decide +kernel)) ggX2_take_X2_takeName
set_option maxRecDepth 20000 in
theorem ggX2_take_X2_takeColon : GoodIn wsX2_take wsX2_takeColon := goodIn_r _ [38, 39, 1, 10, 11, 12, 5, 13, 14, 15, 16, 17, 75, 76, 77, 78, 79, 80, 81, 82, 83, 84, 85, 86, 87, 88, 89, 90, 91] (by decide +kernel) (by decide +kernel)
set_option maxRecDepth 20000 in
theorem gX2_take_X2_takeColon : GoodIn wsX2_take (wsV RX2 74 RX2 yX2_takeColon wsX2_takeColon) := goodIn_app (goodIn_of _ (by decide +kernel)) ggX2_take_X2_takeColon
set_option maxRecDepth 20000 in
theorem ggX2_take_X2_takeAct : GoodIn wsX2_take wsX2_takeAct := goodIn_r _ [43, 39, 9, 44, 45, 46, 7, 1, 47, 48, 49, 5, 50, 10, 11, 12, 13, 14, 15, 16, 17, 51, 52, 53, 31, 54, 34, 55, 75, 76, 77, 78, 79, 80, 81, 82, 83, 84, 92, 93, 94, 95, 96, 85, 86, 87, 88, 89, 90, 91] (by decide +kernel) (by decide +kernel)
set_option maxRecDepth 20000 in
theorem gX2_take_X2_takeAct : GoodIn wsX2_take (wsV RX2 77 RX2 yX2_takeAct wsX2_takeAct) := goodIn_app (goodIn_of _ (by decide +kernel)) ggX2_take_X2_takeAct
set_option maxRecDepth 20000 in
theorem ggX2_take_X2_takeFirst : GoodIn wsX2_take wsX2_takeFirst := goodIn_r _ [59, 9, 46, 60, 61, 15, 62, 1, 63, 64, 65, 5, 66, 14, 10, 11, 12, 13, 16, 17, 75, 76, 77, 78, 79, 80, 81, 82, 83, 84, 92, 93, 94, 95, 96, 85, 86, 87, 88, 89, 90, 91] (by decide +kernel) (by decide +kernel)
set_option maxRecDepth 20000 in
theorem gX2_take_X2_takeFirst : GoodIn wsX2_take (wsV RX2 80 RX2 yX2_takeFirst wsX2_takeFirst) := goodIn_app (goodIn_of _ (by decide +kernel)) ggX2_take_X2_takeFirst
set_option maxRecDepth 20000 in
theorem ggX2_take_X2_takeSecond : GoodIn wsX2_take wsX2_takeSecond := goodIn_r _ [70, 9, 44, 46, 15, 62, 1, 63, 64, 65, 5, 66, 14, 10, 11, 12, 13, 16, 17, 75, 76, 77, 78, 79, 80, 81, 82, 83, 84, 92, 93, 94, 95, 96, 85, 86, 87, 88, 89, 90, 91] (by decide +kernel) (by decide +kernel)
set_option maxRecDepth 20000 in
theorem gX2_take_X2_takeSecond : GoodIn wsX2_take (wsV RX2 83 RX2 yX2_takeSecond wsX2_takeSecond) := goodIn_app (goodIn_of _ (by decide +kernel)) ggX2_take_X2_takeSecond
set_option maxRecDepth 20000 in
theorem ggX2_take_X2_takeBracket : GoodIn wsX2_take wsX2_takeBracket := goodIn_r _ [74, 39, 45, 9, 46, 1, 10, 11, 12, 5, 13, 14, 15, 16, 17, 75, 76, 77, 78, 79, 80, 81, 82, 83, 84, 92, 93, 94, 95, 96, 85, 86, 87, 88, 89, 90, 91] (by decide +kernel) (by decide +kernel)
set_option maxRecDepth 20000 in
theorem gX2_take_X2_takeBracket : GoodIn wsX2_take (wsV RX2 86 RX2 yX2_takeBracket wsX2_takeBracket) := goodIn_app (goodIn_of _ (by decide +kernel)) ggX2_take_X2_takeBracket
theorem dX2_take_0 : decode cX2_take 0 = .ok (.aload_n 0, 1) := by decide +kernel
theorem dX2_take_1 : decode cX2_take 1 = .ok (.getfield 37, 3) := by decide +kernel
theorem dX2_take_4 : decode cX2_take 4 = .ok (.tableswitch 88 0 5 #[40, 48, 56, 64, 72, 80], 40) := by decide +kernel
theorem dX2_take_44 : decode cX2_take 44 = .ok (.aload_n 0, 1) := by decide +kernel
theorem dX2_take_45 : decode cX2_take 45 = .ok (.iload_n 1, 1) := by decide +kernel
theorem dX2_take_46 : decode cX2_take 46 = .ok (.invokevirtual 68, 3) := by decide +kernel
theorem dX2_take_49 : decode cX2_take 49 = .ok (.goto 48, 3) := by decide +kernel
theorem dX2_take_52 : decode cX2_take 52 = .ok (.aload_n 0, 1) := by decide +kernel
theorem dX2_take_53 : decode cX2_take 53 = .ok (.iload_n 1, 1) := by decide +kernel
theorem dX2_take_54 : decode cX2_take 54 = .ok (.invokevirtual 71, 3) := by decide +kernel
theorem dX2_take_57 : decode cX2_take 57 = .ok (.goto 40, 3) := by decide +kernel
theorem dX2_take_60 : decode cX2_take 60 = .ok (.aload_n 0, 1) := by decide +kernel
theorem dX2_take_61 : decode cX2_take 61 = .ok (.iload_n 1, 1) := by decide +kernel
theorem dX2_take_62 : decode cX2_take 62 = .ok (.invokevirtual 74, 3) := by decide +kernel
theorem dX2_take_65 : decode cX2_take 65 = .ok (.goto 32, 3) := by decide +kernel
theorem dX2_take_68 : decode cX2_take 68 = .ok (.aload_n 0, 1) := by decide +kernel
theorem dX2_take_69 : decode cX2_take 69 = .ok (.iload_n 1, 1) := by decide +kernel
theorem dX2_take_70 : decode cX2_take 70 = .ok (.invokevirtual 77, 3) := by decide +kernel
theorem dX2_take_73 : decode cX2_take 73 = .ok (.goto 24, 3) := by decide +kernel
theorem dX2_take_76 : decode cX2_take 76 = .ok (.aload_n 0, 1) := by decide +kernel
theorem dX2_take_77 : decode cX2_take 77 = .ok (.iload_n 1, 1) := by decide +kernel
theorem dX2_take_78 : decode cX2_take 78 = .ok (.invokevirtual 80, 3) := by decide +kernel
theorem dX2_take_81 : decode cX2_take 81 = .ok (.goto 16, 3) := by decide +kernel
theorem dX2_take_84 : decode cX2_take 84 = .ok (.aload_n 0, 1) := by decide +kernel
theorem dX2_take_85 : decode cX2_take 85 = .ok (.iload_n 1, 1) := by decide +kernel
theorem dX2_take_86 : decode cX2_take 86 = .ok (.invokevirtual 83, 3) := by decide +kernel
theorem dX2_take_89 : decode cX2_take 89 = .ok (.goto 8, 3) := by decide +kernel
theorem dX2_take_92 : decode cX2_take 92 = .ok (.aload_n 0, 1) := by decide +kernel
theorem dX2_take_93 : decode cX2_take 93 = .ok (.iload_n 1, 1) := by decide +kernel
theorem dX2_take_94 : decode cX2_take 94 = .ok (.invokevirtual 86, 3) := by decide +kernel
theorem dX2_take_97 : decode cX2_take 97 = .ok (.return_, 1) := by decide +kernel
theorem dX2_fail_0 : decode cX2_fail 0 = .ok (.aload_n 0, 1) := by decide +kernel
theorem dX2_fail_1 : decode cX2_fail 1 = .ok (.iload_n 1, 1) := by decide +kernel
theorem dX2_fail_2 : decode cX2_fail 2 = .ok (.putfield 28, 3) := by decide +kernel
theorem dX2_fail_5 : decode cX2_fail 5 = .ok (.aload_n 0, 1) := by decide +kernel
theorem dX2_fail_6 : decode cX2_fail 6 = .ok (.aload_n 0, 1) := by decide +kernel
theorem dX2_fail_7 : decode cX2_fail 7 = .ok (.getfield 12, 3) := by decide +kernel
theorem dX2_fail_10 : decode cX2_fail 10 = .ok (.getfield 89, 3) := by decide +kernel
theorem dX2_fail_13 : decode cX2_fail 13 = .ok (.putfield 31, 3) := by decide +kernel
theorem dX2_fail_16 : decode cX2_fail 16 = .ok (.return_, 1) := by decide +kernel
set_option maxRecDepth 20000 in
theorem ggX2_takeCure_X2_fail : GoodIn wsX2_takeCure wsX2_fail := goodIn_r _ [9, 10, 11, 12, 13, 14, 15, 16, 17, 18, 19, 20, 21, 22, 23, 24, 25, 26, 27, 28, 29, 30] (by decide +kernel) (by decide +kernel)
set_option maxRecDepth 20000 in
theorem gX2_takeCure_X2_fail : GoodIn wsX2_takeCure (wsV RX2 92 RX2 yX2_fail wsX2_fail) := goodIn_app (goodIn_of _ (by decide +kernel)) ggX2_takeCure_X2_fail
theorem dX2_takeCure_0 : decode cX2_takeCure 0 = .ok (.iload_n 1, 1) := by decide +kernel
theorem dX2_takeCure_1 : decode cX2_takeCure 1 = .ok (.bipush 12, 2) := by decide +kernel
theorem dX2_takeCure_3 : decode cX2_takeCure 3 = .ok (.if_icmp .ne 4, 3) := by decide +kernel
theorem dX2_takeCure_6 : decode cX2_takeCure 6 = .ok (.return_, 1) := by decide +kernel
theorem dX2_takeCure_7 : decode cX2_takeCure 7 = .ok (.iload_n 1, 1) := by decide +kernel
theorem dX2_takeCure_8 : decode cX2_takeCure 8 = .ok (.iconst 5, 1) := by decide +kernel
theorem dX2_takeCure_9 : decode cX2_takeCure 9 = .ok (.if_icmp .eq 11, 3) := by decide +kernel
theorem dX2_takeCure_12 : decode cX2_takeCure 12 = .ok (.aload_n 0, 1) := by decide +kernel
theorem dX2_takeCure_13 : decode cX2_takeCure 13 = .ok (.iconst 1, 1) := by decide +kernel
theorem dX2_takeCure_14 : decode cX2_takeCure 14 = .ok (.invokevirtual 92, 3) := by decide +kernel
theorem dX2_takeCure_17 : decode cX2_takeCure 17 = .ok (.goto 38, 3) := by decide +kernel
theorem dX2_takeCure_20 : decode cX2_takeCure 20 = .ok (.aload_n 0, 1) := by decide +kernel
theorem dX2_takeCure_21 : decode cX2_takeCure 21 = .ok (.getfield 34, 3) := by decide +kernel
theorem dX2_takeCure_24 : decode cX2_takeCure 24 = .ok (.bipush 8, 2) := by decide +kernel
theorem dX2_takeCure_26 : decode cX2_takeCure 26 = .ok (.if_icmp .lt 11, 3) := by decide +kernel
theorem dX2_takeCure_29 : decode cX2_takeCure 29 = .ok (.aload_n 0, 1) := by decide +kernel
theorem dX2_takeCure_30 : decode cX2_takeCure 30 = .ok (.iconst 4, 1) := by decide +kernel
theorem dX2_takeCure_31 : decode cX2_takeCure 31 = .ok (.invokevirtual 92, 3) := by decide +kernel
theorem dX2_takeCure_34 : decode cX2_takeCure 34 = .ok (.goto 21, 3) := by decide +kernel
theorem dX2_takeCure_37 : decode cX2_takeCure 37 = .ok (.aload_n 0, 1) := by decide +kernel
theorem dX2_takeCure_38 : decode cX2_takeCure 38 = .ok (.aload_n 0, 1) := by decide +kernel
theorem dX2_takeCure_39 : decode cX2_takeCure 39 = .ok (.getfield 20, 3) := by decide +kernel
theorem dX2_takeCure_42 : decode cX2_takeCure 42 = .ok (.aload_n 0, 1) := by decide +kernel
theorem dX2_takeCure_43 : decode cX2_takeCure 43 = .ok (.getfield 34, 3) := by decide +kernel
theorem dX2_takeCure_46 : decode cX2_takeCure 46 = .ok (.aaload, 1) := by decide +kernel
theorem dX2_takeCure_47 : decode cX2_takeCure 47 = .ok (.putfield 48, 3) := by decide +kernel
theorem dX2_takeCure_50 : decode cX2_takeCure 50 = .ok (.aload_n 0, 1) := by decide +kernel
theorem dX2_takeCure_51 : decode cX2_takeCure 51 = .ok (.iconst 1, 1) := by decide +kernel
theorem dX2_takeCure_52 : decode cX2_takeCure 52 = .ok (.putfield 37, 3) := by decide +kernel
theorem dX2_takeCure_55 : decode cX2_takeCure 55 = .ok (.return_, 1) := by decide +kernel
set_option maxRecDepth 20000 in
theorem ggX2_takeName_X2_fail : GoodIn wsX2_takeName wsX2_fail := goodIn_r _ [9, 10, 1, 11, 12, 27, 28, 29, 30, 31, 32, 33, 34, 35, 36, 37, 38, 39, 40, 41, 42, 43] (by decide +kernel) (by decide +kernel)
set_option maxRecDepth 20000 in
theorem gX2_takeName_X2_fail : GoodIn wsX2_takeName (wsV RX2 92 RX2 yX2_fail wsX2_fail) := goodIn_app (goodIn_of _ (by decide +kernel)) ggX2_takeName_X2_fail
set_option maxRecDepth 20000 in
theorem ggX2_takeName_X2_isTold : GoodIn wsX2_takeName wsX2_isTold := goodIn_r _ [16, 17, 18, 19, 27, 28, 29, 30, 31, 32, 33, 34, 35, 36, 44, 45, 46, 47, 48] (by decide +kernel) (by decide +kernel)
set_option maxRecDepth 20000 in
theorem gX2_takeName_X2_isTold : GoodIn wsX2_takeName (wsV RX2 98 RX2 yX2_isTold wsX2_isTold) := goodIn_app (goodIn_of _ (by decide +kernel)) ggX2_takeName_X2_isTold
set_option maxRecDepth 20000 in
theorem ggX2_takeName_X6_begin : GoodIn wsX2_takeName wsX6_begin := goodIn_r _ [24, 25, 26, 44, 45, 46, 47, 48] (by decide +kernel) (by decide +kernel)
set_option maxRecDepth 20000 in
theorem gX2_takeName_X6_begin : GoodIn wsX2_takeName (wsV RX2 102 RX6 yX6_begin wsX6_begin) := goodIn_app (goodIn_of _ (by decide +kernel)) ggX2_takeName_X6_begin
theorem dX2_takeName_0 : decode cX2_takeName 0 = .ok (.iload_n 1, 1) := by decide +kernel
