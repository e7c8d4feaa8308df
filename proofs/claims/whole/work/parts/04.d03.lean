theorem dX3_addGlass_97 : decode cX3_addGlass 97 = .ok (.iadd, 1) := by decide +kernel
theorem dX3_addGlass_98 : decode cX3_addGlass 98 = .ok (.putfield 153, 3) := by decide +kernel
theorem dX3_addGlass_101 : decode cX3_addGlass 101 = .ok (.aload_n 2, 1) := by decide +kernel
theorem dX3_addGlass_102 : decode cX3_addGlass 102 = .ok (.dup, 1) := by decide +kernel
theorem dX3_addGlass_103 : decode cX3_addGlass 103 = .ok (.getfield 168, 3) := by decide +kernel
theorem dX3_addGlass_106 : decode cX3_addGlass 106 = .ok (.iconst 1, 1) := by decide +kernel
theorem dX3_addGlass_107 : decode cX3_addGlass 107 = .ok (.iadd, 1) := by decide +kernel
theorem dX3_addGlass_108 : decode cX3_addGlass 108 = .ok (.putfield 168, 3) := by decide +kernel
theorem dX3_addGlass_111 : decode cX3_addGlass 111 = .ok (.aload_n 2, 1) := by decide +kernel
theorem dX3_addGlass_112 : decode cX3_addGlass 112 = .ok (.iconst 0, 1) := by decide +kernel
theorem dX3_addGlass_113 : decode cX3_addGlass 113 = .ok (.iload 5, 2) := by decide +kernel
theorem dX3_addGlass_115 : decode cX3_addGlass 115 = .ok (.iconst 1, 1) := by decide +kernel
theorem dX3_addGlass_116 : decode cX3_addGlass 116 = .ok (.iload 4, 2) := by decide +kernel
theorem dX3_addGlass_118 : decode cX3_addGlass 118 = .ok (.invokevirtual 169, 3) := by decide +kernel
theorem dX3_addGlass_121 : decode cX3_addGlass 121 = .ok (.return_, 1) := by decide +kernel
set_option maxRecDepth 20000 in
theorem ggX3_addBath_X3_bits : GoodIn wsX3_addBath wsX3_bits := goodIn_r _ [7] (by decide +kernel) (by decide +kernel)
set_option maxRecDepth 20000 in
theorem gX3_addBath_X3_bits : GoodIn wsX3_addBath (va_wsS RX3 118 yX3_bits wsX3_bits) := goodIn_app (goodIn_of _ (by decide +kernel)) ggX3_addBath_X3_bits
set_option maxRecDepth 20000 in
theorem ggX3_addBath_X3_findFree : GoodIn wsX3_addBath wsX3_findFree := goodIn_r _ [11, 12, 13, 2, 39, 40, 36, 37, 38] (by decide +kernel) (by decide +kernel)
set_option maxRecDepth 20000 in
theorem gX3_addBath_X3_findFree : GoodIn wsX3_addBath (wsV RX3 173 RX3 yX3_findFree wsX3_findFree) := goodIn_app (goodIn_of _ (by decide +kernel)) ggX3_addBath_X3_findFree
set_option maxRecDepth 20000 in
theorem ggX3_addBath_X5_note : GoodIn wsX3_addBath wsX5_note := goodIn_r _ [18, 19, 20, 21, 22, 23, 24, 25, 26, 27, 28, 29, 30, 31, 32, 33, 34, 35] (by decide +kernel) (by decide +kernel)
set_option maxRecDepth 20000 in
theorem gX3_addBath_X5_note : GoodIn wsX3_addBath (wsV RX3 169 RX5 yX5_note wsX5_note) := goodIn_app (goodIn_of _ (by decide +kernel)) ggX3_addBath_X5_note
theorem dX3_addBath_0 : decode cX3_addBath 0 = .ok (.aload_n 2, 1) := by decide +kernel
theorem dX3_addBath_1 : decode cX3_addBath 1 = .ok (.getfield 144, 3) := by decide +kernel
theorem dX3_addBath_4 : decode cX3_addBath 4 = .ok (.istore 5, 2) := by decide +kernel
theorem dX3_addBath_6 : decode cX3_addBath 6 = .ok (.iload 5, 2) := by decide +kernel
theorem dX3_addBath_8 : decode cX3_addBath 8 = .ok (.iload 4, 2) := by decide +kernel
theorem dX3_addBath_10 : decode cX3_addBath 10 = .ok (.iadd, 1) := by decide +kernel
theorem dX3_addBath_11 : decode cX3_addBath 11 = .ok (.bipush 48, 2) := by decide +kernel
theorem dX3_addBath_13 : decode cX3_addBath 13 = .ok (.if_icmp .gt 59, 3) := by decide +kernel
theorem dX3_addBath_16 : decode cX3_addBath 16 = .ok (.aload_n 0, 1) := by decide +kernel
theorem dX3_addBath_17 : decode cX3_addBath 17 = .ok (.aload_n 1, 1) := by decide +kernel
theorem dX3_addBath_18 : decode cX3_addBath 18 = .ok (.iload_n 3, 1) := by decide +kernel
theorem dX3_addBath_19 : decode cX3_addBath 19 = .ok (.iload 5, 2) := by decide +kernel
theorem dX3_addBath_21 : decode cX3_addBath 21 = .ok (.iload 4, 2) := by decide +kernel
theorem dX3_addBath_23 : decode cX3_addBath 23 = .ok (.invokestatic 118, 3) := by decide +kernel
theorem dX3_addBath_26 : decode cX3_addBath 26 = .ok (.invokevirtual 173, 3) := by decide +kernel
theorem dX3_addBath_29 : decode cX3_addBath 29 = .ok (.istore 6, 2) := by decide +kernel
theorem dX3_addBath_31 : decode cX3_addBath 31 = .ok (.iload 6, 2) := by decide +kernel
theorem dX3_addBath_33 : decode cX3_addBath 33 = .ok (.iconst (-1), 1) := by decide +kernel
theorem dX3_addBath_34 : decode cX3_addBath 34 = .ok (.if_icmp .eq 32, 3) := by decide +kernel
theorem dX3_addBath_37 : decode cX3_addBath 37 = .ok (.aload_n 0, 1) := by decide +kernel
theorem dX3_addBath_38 : decode cX3_addBath 38 = .ok (.getfield 22, 3) := by decide +kernel
theorem dX3_addBath_41 : decode cX3_addBath 41 = .ok (.iload 6, 2) := by decide +kernel
theorem dX3_addBath_43 : decode cX3_addBath 43 = .ok (.dup2, 1) := by decide +kernel
theorem dX3_addBath_44 : decode cX3_addBath 44 = .ok (.laload, 1) := by decide +kernel
theorem dX3_addBath_45 : decode cX3_addBath 45 = .ok (.iload 5, 2) := by decide +kernel
theorem dX3_addBath_47 : decode cX3_addBath 47 = .ok (.iload 4, 2) := by decide +kernel
theorem dX3_addBath_49 : decode cX3_addBath 49 = .ok (.invokestatic 118, 3) := by decide +kernel
theorem dX3_addBath_52 : decode cX3_addBath 52 = .ok (.lor, 1) := by decide +kernel
theorem dX3_addBath_53 : decode cX3_addBath 53 = .ok (.lastore, 1) := by decide +kernel
theorem dX3_addBath_54 : decode cX3_addBath 54 = .ok (.aload_n 2, 1) := by decide +kernel
theorem dX3_addBath_55 : decode cX3_addBath 55 = .ok (.iconst 1, 1) := by decide +kernel
theorem dX3_addBath_56 : decode cX3_addBath 56 = .ok (.iload 5, 2) := by decide +kernel
theorem dX3_addBath_58 : decode cX3_addBath 58 = .ok (.iload 4, 2) := by decide +kernel
theorem dX3_addBath_60 : decode cX3_addBath 60 = .ok (.iload 6, 2) := by decide +kernel
theorem dX3_addBath_62 : decode cX3_addBath 62 = .ok (.invokevirtual 169, 3) := by decide +kernel
theorem dX3_addBath_65 : decode cX3_addBath 65 = .ok (.return_, 1) := by decide +kernel
theorem dX3_addBath_66 : decode cX3_addBath 66 = .ok (.iinc 5 1, 3) := by decide +kernel
theorem dX3_addBath_69 : decode cX3_addBath 69 = .ok (.goto (-63), 3) := by decide +kernel
theorem dX3_addBath_72 : decode cX3_addBath 72 = .ok (.aload_n 2, 1) := by decide +kernel
theorem dX3_addBath_73 : decode cX3_addBath 73 = .ok (.iconst 1, 1) := by decide +kernel
theorem dX3_addBath_74 : decode cX3_addBath 74 = .ok (.putfield 81, 3) := by decide +kernel
theorem dX3_addBath_77 : decode cX3_addBath 77 = .ok (.return_, 1) := by decide +kernel
theorem dX3_findFree_0 : decode cX3_findFree 0 = .ok (.iconst 0, 1) := by decide +kernel
theorem dX3_findFree_1 : decode cX3_findFree 1 = .ok (.istore 5, 2) := by decide +kernel
theorem dX3_findFree_3 : decode cX3_findFree 3 = .ok (.iload 5, 2) := by decide +kernel
theorem dX3_findFree_5 : decode cX3_findFree 5 = .ok (.bipush 6, 2) := by decide +kernel
theorem dX3_findFree_7 : decode cX3_findFree 7 = .ok (.if_icmp .ge 47, 3) := by decide +kernel
theorem dX3_findFree_10 : decode cX3_findFree 10 = .ok (.aload_n 1, 1) := by decide +kernel
theorem dX3_findFree_11 : decode cX3_findFree 11 = .ok (.iload 5, 2) := by decide +kernel
theorem dX3_findFree_13 : decode cX3_findFree 13 = .ok (.aaload, 1) := by decide +kernel
theorem dX3_findFree_14 : decode cX3_findFree 14 = .ok (.getfield 177, 3) := by decide +kernel
theorem dX3_findFree_17 : decode cX3_findFree 17 = .ok (.ifCond .eq 31, 3) := by decide +kernel
theorem dX3_findFree_20 : decode cX3_findFree 20 = .ok (.aload_n 1, 1) := by decide +kernel
theorem dX3_findFree_21 : decode cX3_findFree 21 = .ok (.iload 5, 2) := by decide +kernel
theorem dX3_findFree_23 : decode cX3_findFree 23 = .ok (.aaload, 1) := by decide +kernel
theorem dX3_findFree_24 : decode cX3_findFree 24 = .ok (.getfield 182, 3) := by decide +kernel
theorem dX3_findFree_27 : decode cX3_findFree 27 = .ok (.iload_n 2, 1) := by decide +kernel
theorem dX3_findFree_28 : decode cX3_findFree 28 = .ok (.if_icmp .ne 20, 3) := by decide +kernel
theorem dX3_findFree_31 : decode cX3_findFree 31 = .ok (.aload_n 0, 1) := by decide +kernel
theorem dX3_findFree_32 : decode cX3_findFree 32 = .ok (.getfield 22, 3) := by decide +kernel
theorem dX3_findFree_35 : decode cX3_findFree 35 = .ok (.iload 5, 2) := by decide +kernel
theorem dX3_findFree_37 : decode cX3_findFree 37 = .ok (.laload, 1) := by decide +kernel
theorem dX3_findFree_38 : decode cX3_findFree 38 = .ok (.lload_n 3, 1) := by decide +kernel
theorem dX3_findFree_39 : decode cX3_findFree 39 = .ok (.land, 1) := by decide +kernel
theorem dX3_findFree_40 : decode cX3_findFree 40 = .ok (.lconst 0, 1) := by decide +kernel
theorem dX3_findFree_41 : decode cX3_findFree 41 = .ok (.lcmp, 1) := by decide +kernel
theorem dX3_findFree_42 : decode cX3_findFree 42 = .ok (.ifCond .ne 6, 3) := by decide +kernel
theorem dX3_findFree_45 : decode cX3_findFree 45 = .ok (.iload 5, 2) := by decide +kernel
theorem dX3_findFree_47 : decode cX3_findFree 47 = .ok (.ireturn, 1) := by decide +kernel
theorem dX3_findFree_48 : decode cX3_findFree 48 = .ok (.iinc 5 1, 3) := by decide +kernel
theorem dX3_findFree_51 : decode cX3_findFree 51 = .ok (.goto (-48), 3) := by decide +kernel
theorem dX3_findFree_54 : decode cX3_findFree 54 = .ok (.iconst (-1), 1) := by decide +kernel
theorem dX3_findFree_55 : decode cX3_findFree 55 = .ok (.ireturn, 1) := by decide +kernel
set_option maxRecDepth 20000 in
theorem ggX3_addRest_X5_note : GoodIn wsX3_addRest wsX5_note := goodIn_r _ [7, 8, 9, 10, 11, 12, 13, 14, 15, 16, 17, 18, 19, 20, 21, 22, 23, 24] (by decide +kernel) (by decide +kernel)
set_option maxRecDepth 20000 in
theorem gX3_addRest_X5_note : GoodIn wsX3_addRest (wsV RX3 169 RX5 yX5_note wsX5_note) := goodIn_app (goodIn_of _ (by decide +kernel)) ggX3_addRest_X5_note
theorem dX3_addRest_0 : decode cX3_addRest 0 = .ok (.aload_n 0, 1) := by decide +kernel
theorem dX3_addRest_1 : decode cX3_addRest 1 = .ok (.getfield 144, 3) := by decide +kernel
theorem dX3_addRest_4 : decode cX3_addRest 4 = .ok (.iload_n 1, 1) := by decide +kernel
theorem dX3_addRest_5 : decode cX3_addRest 5 = .ok (.iadd, 1) := by decide +kernel
theorem dX3_addRest_6 : decode cX3_addRest 6 = .ok (.bipush 48, 2) := by decide +kernel
theorem dX3_addRest_8 : decode cX3_addRest 8 = .ok (.if_icmp .le 11, 3) := by decide +kernel
theorem dX3_addRest_11 : decode cX3_addRest 11 = .ok (.aload_n 0, 1) := by decide +kernel
theorem dX3_addRest_12 : decode cX3_addRest 12 = .ok (.iconst 1, 1) := by decide +kernel
theorem dX3_addRest_13 : decode cX3_addRest 13 = .ok (.putfield 81, 3) := by decide +kernel
theorem dX3_addRest_16 : decode cX3_addRest 16 = .ok (.goto 14, 3) := by decide +kernel
theorem dX3_addRest_19 : decode cX3_addRest 19 = .ok (.aload_n 0, 1) := by decide +kernel
theorem dX3_addRest_20 : decode cX3_addRest 20 = .ok (.iconst 2, 1) := by decide +kernel
theorem dX3_addRest_21 : decode cX3_addRest 21 = .ok (.aload_n 0, 1) := by decide +kernel
theorem dX3_addRest_22 : decode cX3_addRest 22 = .ok (.getfield 144, 3) := by decide +kernel
theorem dX3_addRest_25 : decode cX3_addRest 25 = .ok (.iload_n 1, 1) := by decide +kernel
theorem dX3_addRest_26 : decode cX3_addRest 26 = .ok (.iconst (-1), 1) := by decide +kernel
theorem dX3_addRest_27 : decode cX3_addRest 27 = .ok (.invokevirtual 169, 3) := by decide +kernel
theorem dX3_addRest_30 : decode cX3_addRest 30 = .ok (.return_, 1) := by decide +kernel
theorem dX4_init_0 : decode cX4_init 0 = .ok (.aload_n 0, 1) := by decide +kernel
theorem dX4_init_1 : decode cX4_init 1 = .ok (.invokespecial 1, 3) := by decide +kernel
theorem dX4_init_4 : decode cX4_init 4 = .ok (.aload_n 0, 1) := by decide +kernel
theorem dX4_init_5 : decode cX4_init 5 = .ok (.iconst 0, 1) := by decide +kernel
theorem dX4_init_6 : decode cX4_init 6 = .ok (.putfield 7, 3) := by decide +kernel
theorem dX4_init_9 : decode cX4_init 9 = .ok (.aload_n 0, 1) := by decide +kernel
theorem dX4_init_10 : decode cX4_init 10 = .ok (.iconst 0, 1) := by decide +kernel
theorem dX4_init_11 : decode cX4_init 11 = .ok (.putfield 13, 3) := by decide +kernel
theorem dX4_init_14 : decode cX4_init 14 = .ok (.aload_n 0, 1) := by decide +kernel
theorem dX4_init_15 : decode cX4_init 15 = .ok (.iconst 0, 1) := by decide +kernel
theorem dX4_init_16 : decode cX4_init 16 = .ok (.putfield 16, 3) := by decide +kernel
theorem dX4_init_19 : decode cX4_init 19 = .ok (.aload_n 0, 1) := by decide +kernel
theorem dX4_init_20 : decode cX4_init 20 = .ok (.iconst 0, 1) := by decide +kernel
theorem dX4_init_21 : decode cX4_init 21 = .ok (.putfield 19, 3) := by decide +kernel
theorem dX4_init_24 : decode cX4_init 24 = .ok (.aload_n 0, 1) := by decide +kernel
theorem dX4_init_25 : decode cX4_init 25 = .ok (.iconst 0, 1) := by decide +kernel
theorem dX4_init_26 : decode cX4_init 26 = .ok (.putfield 22, 3) := by decide +kernel
theorem dX4_init_29 : decode cX4_init 29 = .ok (.aload_n 0, 1) := by decide +kernel
theorem dX4_init_30 : decode cX4_init 30 = .ok (.iconst 0, 1) := by decide +kernel
theorem dX4_init_31 : decode cX4_init 31 = .ok (.putfield 25, 3) := by decide +kernel
theorem dX4_init_34 : decode cX4_init 34 = .ok (.aload_n 0, 1) := by decide +kernel
theorem dX4_init_35 : decode cX4_init 35 = .ok (.iconst 0, 1) := by decide +kernel
theorem dX4_init_36 : decode cX4_init 36 = .ok (.putfield 28, 3) := by decide +kernel
theorem dX4_init_39 : decode cX4_init 39 = .ok (.aload_n 0, 1) := by decide +kernel
theorem dX4_init_40 : decode cX4_init 40 = .ok (.iconst 0, 1) := by decide +kernel
theorem dX4_init_41 : decode cX4_init 41 = .ok (.putfield 31, 3) := by decide +kernel
theorem dX4_init_44 : decode cX4_init 44 = .ok (.aload_n 0, 1) := by decide +kernel
theorem dX4_init_45 : decode cX4_init 45 = .ok (.iconst 0, 1) := by decide +kernel
theorem dX4_init_46 : decode cX4_init 46 = .ok (.putfield 34, 3) := by decide +kernel
theorem dX4_init_49 : decode cX4_init 49 = .ok (.return_, 1) := by decide +kernel
theorem dX4_come_0 : decode cX4_come 0 = .ok (.aload_n 0, 1) := by decide +kernel
theorem dX4_come_1 : decode cX4_come 1 = .ok (.iload_n 1, 1) := by decide +kernel
theorem dX4_come_2 : decode cX4_come 2 = .ok (.putfield 7, 3) := by decide +kernel
theorem dX4_come_5 : decode cX4_come 5 = .ok (.aload_n 0, 1) := by decide +kernel
theorem dX4_come_6 : decode cX4_come 6 = .ok (.iload_n 2, 1) := by decide +kernel
theorem dX4_come_7 : decode cX4_come 7 = .ok (.putfield 13, 3) := by decide +kernel
theorem dX4_come_10 : decode cX4_come 10 = .ok (.aload_n 0, 1) := by decide +kernel
theorem dX4_come_11 : decode cX4_come 11 = .ok (.iload_n 3, 1) := by decide +kernel
theorem dX4_come_12 : decode cX4_come 12 = .ok (.putfield 16, 3) := by decide +kernel
theorem dX4_come_15 : decode cX4_come 15 = .ok (.aload_n 0, 1) := by decide +kernel
theorem dX4_come_16 : decode cX4_come 16 = .ok (.iload 4, 2) := by decide +kernel
theorem dX4_come_18 : decode cX4_come 18 = .ok (.putfield 19, 3) := by decide +kernel
theorem dX4_come_21 : decode cX4_come 21 = .ok (.aload_n 0, 1) := by decide +kernel
theorem dX4_come_22 : decode cX4_come 22 = .ok (.iload 5, 2) := by decide +kernel
theorem dX4_come_24 : decode cX4_come 24 = .ok (.putfield 22, 3) := by decide +kernel
theorem dX4_come_27 : decode cX4_come 27 = .ok (.return_, 1) := by decide +kernel
theorem dX5_init_0 : decode cX5_init 0 = .ok (.aload_n 0, 1) := by decide +kernel
theorem dX5_init_1 : decode cX5_init 1 = .ok (.invokespecial 3, 3) := by decide +kernel
theorem dX5_init_4 : decode cX5_init 4 = .ok (.aload_n 0, 1) := by decide +kernel
theorem dX5_init_5 : decode cX5_init 5 = .ok (.iconst 0, 1) := by decide +kernel
theorem dX5_init_6 : decode cX5_init 6 = .ok (.putfield 9, 3) := by decide +kernel
theorem dX5_init_9 : decode cX5_init 9 = .ok (.aload_n 0, 1) := by decide +kernel
theorem dX5_init_10 : decode cX5_init 10 = .ok (.iconst 0, 1) := by decide +kernel
theorem dX5_init_11 : decode cX5_init 11 = .ok (.putfield 15, 3) := by decide +kernel
theorem dX5_init_14 : decode cX5_init 14 = .ok (.aload_n 0, 1) := by decide +kernel
theorem dX5_init_15 : decode cX5_init 15 = .ok (.iconst 0, 1) := by decide +kernel
theorem dX5_init_16 : decode cX5_init 16 = .ok (.putfield 18, 3) := by decide +kernel
theorem dX5_init_19 : decode cX5_init 19 = .ok (.aload_n 0, 1) := by decide +kernel
theorem dX5_init_20 : decode cX5_init 20 = .ok (.iconst 0, 1) := by decide +kernel
theorem dX5_init_21 : decode cX5_init 21 = .ok (.putfield 21, 3) := by decide +kernel
theorem dX5_init_24 : decode cX5_init 24 = .ok (.aload_n 0, 1) := by decide +kernel
theorem dX5_init_25 : decode cX5_init 25 = .ok (.iconst 0, 1) := by decide +kernel
theorem dX5_init_26 : decode cX5_init 26 = .ok (.putfield 24, 3) := by decide +kernel
theorem dX5_init_29 : decode cX5_init 29 = .ok (.aload_n 0, 1) := by decide +kernel
theorem dX5_init_30 : decode cX5_init 30 = .ok (.iconst 0, 1) := by decide +kernel
theorem dX5_init_31 : decode cX5_init 31 = .ok (.putfield 27, 3) := by decide +kernel
theorem dX5_init_34 : decode cX5_init 34 = .ok (.aload_n 0, 1) := by decide +kernel
theorem dX5_init_35 : decode cX5_init 35 = .ok (.bipush 30, 2) := by decide +kernel
theorem dX5_init_37 : decode cX5_init 37 = .ok (.newarray .int, 2) := by decide +kernel
theorem dX5_init_39 : decode cX5_init 39 = .ok (.putfield 31, 3) := by decide +kernel
theorem dX5_init_42 : decode cX5_init 42 = .ok (.aload_n 0, 1) := by decide +kernel
theorem dX5_init_43 : decode cX5_init 43 = .ok (.bipush 30, 2) := by decide +kernel
theorem dX5_init_45 : decode cX5_init 45 = .ok (.newarray .int, 2) := by decide +kernel
theorem dX5_init_47 : decode cX5_init 47 = .ok (.putfield 35, 3) := by decide +kernel
theorem dX5_init_50 : decode cX5_init 50 = .ok (.aload_n 0, 1) := by decide +kernel
theorem dX5_init_51 : decode cX5_init 51 = .ok (.bipush 30, 2) := by decide +kernel
theorem dX5_init_53 : decode cX5_init 53 = .ok (.newarray .int, 2) := by decide +kernel
theorem dX5_init_55 : decode cX5_init 55 = .ok (.putfield 38, 3) := by decide +kernel
theorem dX5_init_58 : decode cX5_init 58 = .ok (.aload_n 0, 1) := by decide +kernel
theorem dX5_init_59 : decode cX5_init 59 = .ok (.bipush 30, 2) := by decide +kernel
theorem dX5_init_61 : decode cX5_init 61 = .ok (.newarray .int, 2) := by decide +kernel
theorem dX5_init_63 : decode cX5_init 63 = .ok (.putfield 41, 3) := by decide +kernel
theorem dX5_init_66 : decode cX5_init 66 = .ok (.return_, 1) := by decide +kernel
theorem dX5_clear_0 : decode cX5_clear 0 = .ok (.aload_n 0, 1) := by decide +kernel
theorem dX5_clear_1 : decode cX5_clear 1 = .ok (.iconst 0, 1) := by decide +kernel
theorem dX5_clear_2 : decode cX5_clear 2 = .ok (.putfield 9, 3) := by decide +kernel
theorem dX5_clear_5 : decode cX5_clear 5 = .ok (.aload_n 0, 1) := by decide +kernel
theorem dX5_clear_6 : decode cX5_clear 6 = .ok (.iconst 0, 1) := by decide +kernel
theorem dX5_clear_7 : decode cX5_clear 7 = .ok (.putfield 15, 3) := by decide +kernel
theorem dX5_clear_10 : decode cX5_clear 10 = .ok (.aload_n 0, 1) := by decide +kernel
theorem dX5_clear_11 : decode cX5_clear 11 = .ok (.iconst 0, 1) := by decide +kernel
theorem dX5_clear_12 : decode cX5_clear 12 = .ok (.putfield 18, 3) := by decide +kernel
theorem dX5_clear_15 : decode cX5_clear 15 = .ok (.aload_n 0, 1) := by decide +kernel
theorem dX5_clear_16 : decode cX5_clear 16 = .ok (.iconst 0, 1) := by decide +kernel
theorem dX5_clear_17 : decode cX5_clear 17 = .ok (.putfield 21, 3) := by decide +kernel
theorem dX5_clear_20 : decode cX5_clear 20 = .ok (.aload_n 0, 1) := by decide +kernel
theorem dX5_clear_21 : decode cX5_clear 21 = .ok (.iconst 0, 1) := by decide +kernel
theorem dX5_clear_22 : decode cX5_clear 22 = .ok (.putfield 24, 3) := by decide +kernel
theorem dX5_clear_25 : decode cX5_clear 25 = .ok (.aload_n 0, 1) := by decide +kernel
theorem dX5_clear_26 : decode cX5_clear 26 = .ok (.iconst 0, 1) := by decide +kernel
theorem dX5_clear_27 : decode cX5_clear 27 = .ok (.putfield 27, 3) := by decide +kernel
theorem dX5_clear_30 : decode cX5_clear 30 = .ok (.return_, 1) := by decide +kernel
theorem dX5_note_0 : decode cX5_note 0 = .ok (.aload_n 0, 1) := by decide +kernel
theorem dX5_note_1 : decode cX5_note 1 = .ok (.getfield 18, 3) := by decide +kernel
theorem dX5_note_4 : decode cX5_note 4 = .ok (.bipush 30, 2) := by decide +kernel
theorem dX5_note_6 : decode cX5_note 6 = .ok (.if_icmp .ge 69, 3) := by decide +kernel
theorem dX5_note_9 : decode cX5_note 9 = .ok (.aload_n 0, 1) := by decide +kernel
theorem dX5_note_10 : decode cX5_note 10 = .ok (.getfield 38, 3) := by decide +kernel
theorem dX5_note_13 : decode cX5_note 13 = .ok (.aload_n 0, 1) := by decide +kernel
theorem dX5_note_14 : decode cX5_note 14 = .ok (.getfield 18, 3) := by decide +kernel
theorem dX5_note_17 : decode cX5_note 17 = .ok (.iload_n 1, 1) := by decide +kernel
theorem dX5_note_18 : decode cX5_note 18 = .ok (.iastore, 1) := by decide +kernel
theorem dX5_note_19 : decode cX5_note 19 = .ok (.aload_n 0, 1) := by decide +kernel
theorem dX5_note_20 : decode cX5_note 20 = .ok (.getfield 31, 3) := by decide +kernel
theorem dX5_note_23 : decode cX5_note 23 = .ok (.aload_n 0, 1) := by decide +kernel
theorem dX5_note_24 : decode cX5_note 24 = .ok (.getfield 18, 3) := by decide +kernel
theorem dX5_note_27 : decode cX5_note 27 = .ok (.iload_n 2, 1) := by decide +kernel
theorem dX5_note_28 : decode cX5_note 28 = .ok (.iastore, 1) := by decide +kernel
theorem dX5_note_29 : decode cX5_note 29 = .ok (.aload_n 0, 1) := by decide +kernel
theorem dX5_note_30 : decode cX5_note 30 = .ok (.getfield 35, 3) := by decide +kernel
theorem dX5_note_33 : decode cX5_note 33 = .ok (.aload_n 0, 1) := by decide +kernel
theorem dX5_note_34 : decode cX5_note 34 = .ok (.getfield 18, 3) := by decide +kernel
theorem dX5_note_37 : decode cX5_note 37 = .ok (.iload_n 3, 1) := by decide +kernel
theorem dX5_note_38 : decode cX5_note 38 = .ok (.iastore, 1) := by decide +kernel
theorem dX5_note_39 : decode cX5_note 39 = .ok (.aload_n 0, 1) := by decide +kernel
theorem dX5_note_40 : decode cX5_note 40 = .ok (.getfield 41, 3) := by decide +kernel
theorem dX5_note_43 : decode cX5_note 43 = .ok (.aload_n 0, 1) := by decide +kernel
theorem dX5_note_44 : decode cX5_note 44 = .ok (.getfield 18, 3) := by decide +kernel
theorem dX5_note_47 : decode cX5_note 47 = .ok (.iload 4, 2) := by decide +kernel
theorem dX5_note_49 : decode cX5_note 49 = .ok (.iastore, 1) := by decide +kernel
theorem dX5_note_50 : decode cX5_note 50 = .ok (.aload_n 0, 1) := by decide +kernel
theorem dX5_note_51 : decode cX5_note 51 = .ok (.dup, 1) := by decide +kernel
theorem dX5_note_52 : decode cX5_note 52 = .ok (.getfield 18, 3) := by decide +kernel
theorem dX5_note_55 : decode cX5_note 55 = .ok (.iconst 1, 1) := by decide +kernel
theorem dX5_note_56 : decode cX5_note 56 = .ok (.iadd, 1) := by decide +kernel
theorem dX5_note_57 : decode cX5_note 57 = .ok (.putfield 18, 3) := by decide +kernel
theorem dX5_note_60 : decode cX5_note 60 = .ok (.aload_n 0, 1) := by decide +kernel
theorem dX5_note_61 : decode cX5_note 61 = .ok (.iload_n 2, 1) := by decide +kernel
theorem dX5_note_62 : decode cX5_note 62 = .ok (.iload_n 3, 1) := by decide +kernel
theorem dX5_note_63 : decode cX5_note 63 = .ok (.iadd, 1) := by decide +kernel
theorem dX5_note_64 : decode cX5_note 64 = .ok (.putfield 21, 3) := by decide +kernel
theorem dX5_note_67 : decode cX5_note 67 = .ok (.aload_n 0, 1) := by decide +kernel
theorem dX5_note_68 : decode cX5_note 68 = .ok (.aload_n 0, 1) := by decide +kernel
theorem dX5_note_69 : decode cX5_note 69 = .ok (.getfield 21, 3) := by decide +kernel
theorem dX5_note_72 : decode cX5_note 72 = .ok (.putfield 9, 3) := by decide +kernel
theorem dX5_note_75 : decode cX5_note 75 = .ok (.return_, 1) := by decide +kernel
set_option maxRecDepth 20000 in
theorem ggX5_tell_X5_tellAct : GoodIn wsX5_tell wsX5_tellAct := goodIn_r _ [9, 1, 10, 11, 12, 13, 14, 15, 16, 17, 18, 19, 20, 21, 22] (by decide +kernel) (by decide +kernel)
set_option maxRecDepth 20000 in
theorem gX5_tell_X5_tellAct : GoodIn wsX5_tell (wsV RX5 44 RX5 yX5_tellAct wsX5_tellAct) := goodIn_app (goodIn_of _ (by decide +kernel)) ggX5_tell_X5_tellAct
theorem dX5_tell_0 : decode cX5_tell 0 = .ok (.iload_n 1, 1) := by decide +kernel
theorem dX5_tell_1 : decode cX5_tell 1 = .ok (.tableswitch 59 0 3 #[31, 36, 41, 46], 31) := by decide +kernel
theorem dX5_tell_32 : decode cX5_tell 32 = .ok (.aload_n 0, 1) := by decide +kernel
theorem dX5_tell_33 : decode cX5_tell 33 = .ok (.getfield 18, 3) := by decide +kernel
theorem dX5_tell_36 : decode cX5_tell 36 = .ok (.ireturn, 1) := by decide +kernel
theorem dX5_tell_37 : decode cX5_tell 37 = .ok (.aload_n 0, 1) := by decide +kernel
theorem dX5_tell_38 : decode cX5_tell 38 = .ok (.getfield 21, 3) := by decide +kernel
theorem dX5_tell_41 : decode cX5_tell 41 = .ok (.ireturn, 1) := by decide +kernel
theorem dX5_tell_42 : decode cX5_tell 42 = .ok (.aload_n 0, 1) := by decide +kernel
theorem dX5_tell_43 : decode cX5_tell 43 = .ok (.getfield 24, 3) := by decide +kernel
theorem dX5_tell_46 : decode cX5_tell 46 = .ok (.ireturn, 1) := by decide +kernel
theorem dX5_tell_47 : decode cX5_tell 47 = .ok (.aload_n 0, 1) := by decide +kernel
theorem dX5_tell_48 : decode cX5_tell 48 = .ok (.getfield 27, 3) := by decide +kernel
theorem dX5_tell_51 : decode cX5_tell 51 = .ok (.ifCond .eq 7, 3) := by decide +kernel
theorem dX5_tell_54 : decode cX5_tell 54 = .ok (.iconst 1, 1) := by decide +kernel
theorem dX5_tell_55 : decode cX5_tell 55 = .ok (.goto 4, 3) := by decide +kernel
theorem dX5_tell_58 : decode cX5_tell 58 = .ok (.iconst 0, 1) := by decide +kernel
theorem dX5_tell_59 : decode cX5_tell 59 = .ok (.ireturn, 1) := by decide +kernel
theorem dX5_tell_60 : decode cX5_tell 60 = .ok (.aload_n 0, 1) := by decide +kernel
theorem dX5_tell_61 : decode cX5_tell 61 = .ok (.iload_n 1, 1) := by decide +kernel
theorem dX5_tell_62 : decode cX5_tell 62 = .ok (.invokevirtual 44, 3) := by decide +kernel
theorem dX5_tell_65 : decode cX5_tell 65 = .ok (.ireturn, 1) := by decide +kernel
theorem dX5_tellAct_0 : decode cX5_tellAct 0 = .ok (.iload_n 1, 1) := by decide +kernel
theorem dX5_tellAct_1 : decode cX5_tellAct 1 = .ok (.bipush 90, 2) := by decide +kernel
theorem dX5_tellAct_3 : decode cX5_tellAct 3 = .ok (.if_icmp .lt 24, 3) := by decide +kernel
theorem dX5_tellAct_6 : decode cX5_tellAct 6 = .ok (.iload_n 1, 1) := by decide +kernel
theorem dX5_tellAct_7 : decode cX5_tellAct 7 = .ok (.bipush 90, 2) := by decide +kernel
theorem dX5_tellAct_9 : decode cX5_tellAct 9 = .ok (.isub, 1) := by decide +kernel
theorem dX5_tellAct_10 : decode cX5_tellAct 10 = .ok (.aload_n 0, 1) := by decide +kernel
theorem dX5_tellAct_11 : decode cX5_tellAct 11 = .ok (.getfield 18, 3) := by decide +kernel
theorem dX5_tellAct_14 : decode cX5_tellAct 14 = .ok (.if_icmp .ge 13, 3) := by decide +kernel
theorem dX5_tellAct_17 : decode cX5_tellAct 17 = .ok (.aload_n 0, 1) := by decide +kernel
theorem dX5_tellAct_18 : decode cX5_tellAct 18 = .ok (.getfield 38, 3) := by decide +kernel
theorem dX5_tellAct_21 : decode cX5_tellAct 21 = .ok (.iload_n 1, 1) := by decide +kernel
theorem dX5_tellAct_22 : decode cX5_tellAct 22 = .ok (.bipush 90, 2) := by decide +kernel
theorem dX5_tellAct_24 : decode cX5_tellAct 24 = .ok (.isub, 1) := by decide +kernel
theorem dX5_tellAct_25 : decode cX5_tellAct 25 = .ok (.iaload, 1) := by decide +kernel
theorem dX5_tellAct_26 : decode cX5_tellAct 26 = .ok (.ireturn, 1) := by decide +kernel
theorem dX5_tellAct_27 : decode cX5_tellAct 27 = .ok (.iload_n 1, 1) := by decide +kernel
theorem dX5_tellAct_28 : decode cX5_tellAct 28 = .ok (.bipush 50, 2) := by decide +kernel
theorem dX5_tellAct_30 : decode cX5_tellAct 30 = .ok (.if_icmp .lt 41, 3) := by decide +kernel
theorem dX5_tellAct_33 : decode cX5_tellAct 33 = .ok (.iload_n 1, 1) := by decide +kernel
theorem dX5_tellAct_34 : decode cX5_tellAct 34 = .ok (.bipush 50, 2) := by decide +kernel
theorem dX5_tellAct_36 : decode cX5_tellAct 36 = .ok (.isub, 1) := by decide +kernel
theorem dX5_tellAct_37 : decode cX5_tellAct 37 = .ok (.aload_n 0, 1) := by decide +kernel
theorem dX5_tellAct_38 : decode cX5_tellAct 38 = .ok (.getfield 18, 3) := by decide +kernel
theorem dX5_tellAct_41 : decode cX5_tellAct 41 = .ok (.if_icmp .ge 30, 3) := by decide +kernel
theorem dX5_tellAct_44 : decode cX5_tellAct 44 = .ok (.aload_n 0, 1) := by decide +kernel
theorem dX5_tellAct_45 : decode cX5_tellAct 45 = .ok (.getfield 38, 3) := by decide +kernel
theorem dX5_tellAct_48 : decode cX5_tellAct 48 = .ok (.iload_n 1, 1) := by decide +kernel
theorem dX5_tellAct_49 : decode cX5_tellAct 49 = .ok (.bipush 50, 2) := by decide +kernel
theorem dX5_tellAct_51 : decode cX5_tellAct 51 = .ok (.isub, 1) := by decide +kernel
theorem dX5_tellAct_52 : decode cX5_tellAct 52 = .ok (.iaload, 1) := by decide +kernel
theorem dX5_tellAct_53 : decode cX5_tellAct 53 = .ok (.iconst 1, 1) := by decide +kernel
theorem dX5_tellAct_54 : decode cX5_tellAct 54 = .ok (.if_icmp .ne 15, 3) := by decide +kernel
theorem dX5_tellAct_57 : decode cX5_tellAct 57 = .ok (.aload_n 0, 1) := by decide +kernel
theorem dX5_tellAct_58 : decode cX5_tellAct 58 = .ok (.getfield 41, 3) := by decide +kernel
theorem dX5_tellAct_61 : decode cX5_tellAct 61 = .ok (.iload_n 1, 1) := by decide +kernel
theorem dX5_tellAct_62 : decode cX5_tellAct 62 = .ok (.bipush 50, 2) := by decide +kernel
theorem dX5_tellAct_64 : decode cX5_tellAct 64 = .ok (.isub, 1) := by decide +kernel
theorem dX5_tellAct_65 : decode cX5_tellAct 65 = .ok (.iaload, 1) := by decide +kernel
theorem dX5_tellAct_66 : decode cX5_tellAct 66 = .ok (.goto 4, 3) := by decide +kernel
theorem dX5_tellAct_69 : decode cX5_tellAct 69 = .ok (.iconst (-1), 1) := by decide +kernel
theorem dX5_tellAct_70 : decode cX5_tellAct 70 = .ok (.ireturn, 1) := by decide +kernel
theorem dX5_tellAct_71 : decode cX5_tellAct 71 = .ok (.iload_n 1, 1) := by decide +kernel
theorem dX5_tellAct_72 : decode cX5_tellAct 72 = .ok (.bipush 10, 2) := by decide +kernel
theorem dX5_tellAct_74 : decode cX5_tellAct 74 = .ok (.if_icmp .lt 26, 3) := by decide +kernel
theorem dX5_tellAct_77 : decode cX5_tellAct 77 = .ok (.iload_n 1, 1) := by decide +kernel
theorem dX5_tellAct_78 : decode cX5_tellAct 78 = .ok (.bipush 10, 2) := by decide +kernel
theorem dX5_tellAct_80 : decode cX5_tellAct 80 = .ok (.isub, 1) := by decide +kernel
theorem dX5_tellAct_81 : decode cX5_tellAct 81 = .ok (.aload_n 0, 1) := by decide +kernel
theorem dX5_tellAct_82 : decode cX5_tellAct 82 = .ok (.getfield 18, 3) := by decide +kernel
theorem dX5_tellAct_85 : decode cX5_tellAct 85 = .ok (.if_icmp .ge 15, 3) := by decide +kernel
theorem dX5_tellAct_88 : decode cX5_tellAct 88 = .ok (.aload_n 0, 1) := by decide +kernel
theorem dX5_tellAct_89 : decode cX5_tellAct 89 = .ok (.getfield 31, 3) := by decide +kernel
theorem dX5_tellAct_92 : decode cX5_tellAct 92 = .ok (.iload_n 1, 1) := by decide +kernel
theorem dX5_tellAct_93 : decode cX5_tellAct 93 = .ok (.bipush 10, 2) := by decide +kernel
theorem dX5_tellAct_95 : decode cX5_tellAct 95 = .ok (.isub, 1) := by decide +kernel
theorem dX5_tellAct_96 : decode cX5_tellAct 96 = .ok (.iaload, 1) := by decide +kernel
theorem dX5_tellAct_97 : decode cX5_tellAct 97 = .ok (.goto 4, 3) := by decide +kernel
theorem dX5_tellAct_100 : decode cX5_tellAct 100 = .ok (.iconst (-1), 1) := by decide +kernel
theorem dX5_tellAct_101 : decode cX5_tellAct 101 = .ok (.ireturn, 1) := by decide +kernel
theorem dX6_init_0 : decode cX6_init 0 = .ok (.aload_n 0, 1) := by decide +kernel
theorem dX6_init_1 : decode cX6_init 1 = .ok (.invokespecial 3, 3) := by decide +kernel
theorem dX6_init_4 : decode cX6_init 4 = .ok (.aload_n 0, 1) := by decide +kernel
theorem dX6_init_5 : decode cX6_init 5 = .ok (.iconst 0, 1) := by decide +kernel
theorem dX6_init_6 : decode cX6_init 6 = .ok (.putfield 9, 3) := by decide +kernel
theorem dX6_init_9 : decode cX6_init 9 = .ok (.aload_n 0, 1) := by decide +kernel
theorem dX6_init_10 : decode cX6_init 10 = .ok (.iconst 0, 1) := by decide +kernel
theorem dX6_init_11 : decode cX6_init 11 = .ok (.putfield 15, 3) := by decide +kernel
theorem dX6_init_14 : decode cX6_init 14 = .ok (.aload_n 0, 1) := by decide +kernel
theorem dX6_init_15 : decode cX6_init 15 = .ok (.bipush 30, 2) := by decide +kernel
theorem dX6_init_17 : decode cX6_init 17 = .ok (.newarray .int, 2) := by decide +kernel
theorem dX6_init_19 : decode cX6_init 19 = .ok (.putfield 18, 3) := by decide +kernel
theorem dX6_init_22 : decode cX6_init 22 = .ok (.aload_n 0, 1) := by decide +kernel
theorem dX6_init_23 : decode cX6_init 23 = .ok (.bipush 30, 2) := by decide +kernel
theorem dX6_init_25 : decode cX6_init 25 = .ok (.newarray .int, 2) := by decide +kernel
theorem dX6_init_27 : decode cX6_init 27 = .ok (.putfield 22, 3) := by decide +kernel
theorem dX6_init_30 : decode cX6_init 30 = .ok (.aload_n 0, 1) := by decide +kernel
theorem dX6_init_31 : decode cX6_init 31 = .ok (.bipush 30, 2) := by decide +kernel
theorem dX6_init_33 : decode cX6_init 33 = .ok (.newarray .int, 2) := by decide +kernel
theorem dX6_init_35 : decode cX6_init 35 = .ok (.putfield 25, 3) := by decide +kernel
theorem dX6_init_38 : decode cX6_init 38 = .ok (.return_, 1) := by decide +kernel
theorem dX6_begin_0 : decode cX6_begin 0 = .ok (.aload_n 0, 1) := by decide +kernel
theorem dX6_begin_1 : decode cX6_begin 1 = .ok (.iload_n 1, 1) := by decide +kernel
theorem dX6_begin_2 : decode cX6_begin 2 = .ok (.putfield 9, 3) := by decide +kernel
theorem dX6_begin_5 : decode cX6_begin 5 = .ok (.aload_n 0, 1) := by decide +kernel
theorem dX6_begin_6 : decode cX6_begin 6 = .ok (.iconst 0, 1) := by decide +kernel
theorem dX6_begin_7 : decode cX6_begin 7 = .ok (.putfield 15, 3) := by decide +kernel
theorem dX6_begin_10 : decode cX6_begin 10 = .ok (.return_, 1) := by decide +kernel
theorem dX6_add_0 : decode cX6_add 0 = .ok (.aload_n 0, 1) := by decide +kernel
theorem dX6_add_1 : decode cX6_add 1 = .ok (.getfield 15, 3) := by decide +kernel
theorem dX6_add_4 : decode cX6_add 4 = .ok (.bipush 30, 2) := by decide +kernel
theorem dX6_add_6 : decode cX6_add 6 = .ok (.if_icmp .ge 23, 3) := by decide +kernel
theorem dX6_add_9 : decode cX6_add 9 = .ok (.aload_n 0, 1) := by decide +kernel
theorem dX6_add_10 : decode cX6_add 10 = .ok (.getfield 18, 3) := by decide +kernel
theorem dX6_add_13 : decode cX6_add 13 = .ok (.aload_n 0, 1) := by decide +kernel
theorem dX6_add_14 : decode cX6_add 14 = .ok (.getfield 15, 3) := by decide +kernel
theorem dX6_add_17 : decode cX6_add 17 = .ok (.iload_n 1, 1) := by decide +kernel
theorem dX6_add_18 : decode cX6_add 18 = .ok (.iastore, 1) := by decide +kernel
theorem dX6_add_19 : decode cX6_add 19 = .ok (.aload_n 0, 1) := by decide +kernel
theorem dX6_add_20 : decode cX6_add 20 = .ok (.dup, 1) := by decide +kernel
theorem dX6_add_21 : decode cX6_add 21 = .ok (.getfield 15, 3) := by decide +kernel
theorem dX6_add_24 : decode cX6_add 24 = .ok (.iconst 1, 1) := by decide +kernel
theorem dX6_add_25 : decode cX6_add 25 = .ok (.iadd, 1) := by decide +kernel
theorem dX6_add_26 : decode cX6_add 26 = .ok (.putfield 15, 3) := by decide +kernel
theorem dX6_add_29 : decode cX6_add 29 = .ok (.return_, 1) := by decide +kernel
theorem dX7_init_0 : decode cX7_init 0 = .ok (.aload_n 0, 1) := by decide +kernel
theorem dX7_init_1 : decode cX7_init 1 = .ok (.invokespecial 3, 3) := by decide +kernel
theorem dX7_init_4 : decode cX7_init 4 = .ok (.aload_n 0, 1) := by decide +kernel
theorem dX7_init_5 : decode cX7_init 5 = .ok (.iconst 0, 1) := by decide +kernel
theorem dX7_init_6 : decode cX7_init 6 = .ok (.putfield 9, 3) := by decide +kernel
theorem dX7_init_9 : decode cX7_init 9 = .ok (.aload_n 0, 1) := by decide +kernel
theorem dX7_init_10 : decode cX7_init 10 = .ok (.iconst 0, 1) := by decide +kernel
theorem dX7_init_11 : decode cX7_init 11 = .ok (.putfield 15, 3) := by decide +kernel
theorem dX7_init_14 : decode cX7_init 14 = .ok (.aload_n 0, 1) := by decide +kernel
theorem dX7_init_15 : decode cX7_init 15 = .ok (.bipush 48, 2) := by decide +kernel
theorem dX7_init_17 : decode cX7_init 17 = .ok (.putfield 18, 3) := by decide +kernel
theorem dX7_init_20 : decode cX7_init 20 = .ok (.aload_n 0, 1) := by decide +kernel
theorem dX7_init_21 : decode cX7_init 21 = .ok (.iconst 0, 1) := by decide +kernel
theorem dX7_init_22 : decode cX7_init 22 = .ok (.putfield 21, 3) := by decide +kernel
theorem dX7_init_25 : decode cX7_init 25 = .ok (.aload_n 0, 1) := by decide +kernel
theorem dX7_init_26 : decode cX7_init 26 = .ok (.iconst 0, 1) := by decide +kernel
theorem dX7_init_27 : decode cX7_init 27 = .ok (.putfield 24, 3) := by decide +kernel
theorem dX7_init_30 : decode cX7_init 30 = .ok (.aload_n 0, 1) := by decide +kernel
theorem dX7_init_31 : decode cX7_init 31 = .ok (.iconst 0, 1) := by decide +kernel
theorem dX7_init_32 : decode cX7_init 32 = .ok (.putfield 27, 3) := by decide +kernel
theorem dX7_init_35 : decode cX7_init 35 = .ok (.aload_n 0, 1) := by decide +kernel
theorem dX7_init_36 : decode cX7_init 36 = .ok (.iconst 0, 1) := by decide +kernel
theorem dX7_init_37 : decode cX7_init 37 = .ok (.putfield 30, 3) := by decide +kernel
theorem dX7_init_40 : decode cX7_init 40 = .ok (.aload_n 0, 1) := by decide +kernel
theorem dX7_init_41 : decode cX7_init 41 = .ok (.iconst 0, 1) := by decide +kernel
theorem dX7_init_42 : decode cX7_init 42 = .ok (.putfield 33, 3) := by decide +kernel
theorem dX7_init_45 : decode cX7_init 45 = .ok (.aload_n 0, 1) := by decide +kernel
theorem dX7_init_46 : decode cX7_init 46 = .ok (.bipush 100, 2) := by decide +kernel
theorem dX7_init_48 : decode cX7_init 48 = .ok (.newarray .int, 2) := by decide +kernel
theorem dX7_init_50 : decode cX7_init 50 = .ok (.putfield 36, 3) := by decide +kernel
theorem dX7_init_53 : decode cX7_init 53 = .ok (.return_, 1) := by decide +kernel
theorem dX7_closeDay_0 : decode cX7_closeDay 0 = .ok (.aload_n 0, 1) := by decide +kernel
theorem dX7_closeDay_1 : decode cX7_closeDay 1 = .ok (.getfield 9, 3) := by decide +kernel
theorem dX7_closeDay_4 : decode cX7_closeDay 4 = .ok (.aload_n 0, 1) := by decide +kernel
theorem dX7_closeDay_5 : decode cX7_closeDay 5 = .ok (.getfield 18, 3) := by decide +kernel
theorem dX7_closeDay_8 : decode cX7_closeDay 8 = .ok (.aload_n 0, 1) := by decide +kernel
theorem dX7_closeDay_9 : decode cX7_closeDay 9 = .ok (.getfield 15, 3) := by decide +kernel
theorem dX7_closeDay_12 : decode cX7_closeDay 12 = .ok (.isub, 1) := by decide +kernel
theorem dX7_closeDay_13 : decode cX7_closeDay 13 = .ok (.imul, 1) := by decide +kernel
theorem dX7_closeDay_14 : decode cX7_closeDay 14 = .ok (.istore_n 3, 1) := by decide +kernel
theorem dX7_closeDay_15 : decode cX7_closeDay 15 = .ok (.iload_n 3, 1) := by decide +kernel
theorem dX7_closeDay_16 : decode cX7_closeDay 16 = .ok (.iload_n 2, 1) := by decide +kernel
theorem dX7_closeDay_17 : decode cX7_closeDay 17 = .ok (.isub, 1) := by decide +kernel
theorem dX7_closeDay_18 : decode cX7_closeDay 18 = .ok (.istore 4, 2) := by decide +kernel
theorem dX7_closeDay_20 : decode cX7_closeDay 20 = .ok (.iload 4, 2) := by decide +kernel
theorem dX7_closeDay_22 : decode cX7_closeDay 22 = .ok (.bipush 10, 2) := by decide +kernel
theorem dX7_closeDay_24 : decode cX7_closeDay 24 = .ok (.idiv, 1) := by decide +kernel
theorem dX7_closeDay_25 : decode cX7_closeDay 25 = .ok (.istore 5, 2) := by decide +kernel
theorem dX7_closeDay_27 : decode cX7_closeDay 27 = .ok (.aload_n 0, 1) := by decide +kernel
theorem dX7_closeDay_28 : decode cX7_closeDay 28 = .ok (.dup, 1) := by decide +kernel
theorem dX7_closeDay_29 : decode cX7_closeDay 29 = .ok (.getfield 24, 3) := by decide +kernel
theorem dX7_closeDay_32 : decode cX7_closeDay 32 = .ok (.iload_n 3, 1) := by decide +kernel
theorem dX7_closeDay_33 : decode cX7_closeDay 33 = .ok (.iadd, 1) := by decide +kernel
theorem dX7_closeDay_34 : decode cX7_closeDay 34 = .ok (.putfield 24, 3) := by decide +kernel
theorem dX7_closeDay_37 : decode cX7_closeDay 37 = .ok (.aload_n 0, 1) := by decide +kernel
theorem dX7_closeDay_38 : decode cX7_closeDay 38 = .ok (.dup, 1) := by decide +kernel
theorem dX7_closeDay_39 : decode cX7_closeDay 39 = .ok (.getfield 27, 3) := by decide +kernel
theorem dX7_closeDay_42 : decode cX7_closeDay 42 = .ok (.iload_n 2, 1) := by decide +kernel
theorem dX7_closeDay_43 : decode cX7_closeDay 43 = .ok (.iadd, 1) := by decide +kernel
theorem dX7_closeDay_44 : decode cX7_closeDay 44 = .ok (.putfield 27, 3) := by decide +kernel
theorem dX7_closeDay_47 : decode cX7_closeDay 47 = .ok (.aload_n 0, 1) := by decide +kernel
theorem dX7_closeDay_48 : decode cX7_closeDay 48 = .ok (.dup, 1) := by decide +kernel
theorem dX7_closeDay_49 : decode cX7_closeDay 49 = .ok (.getfield 30, 3) := by decide +kernel
theorem dX7_closeDay_52 : decode cX7_closeDay 52 = .ok (.iload 5, 2) := by decide +kernel
theorem dX7_closeDay_54 : decode cX7_closeDay 54 = .ok (.iadd, 1) := by decide +kernel
theorem dX7_closeDay_55 : decode cX7_closeDay 55 = .ok (.putfield 30, 3) := by decide +kernel
theorem dX7_closeDay_58 : decode cX7_closeDay 58 = .ok (.aload_n 0, 1) := by decide +kernel
theorem dX7_closeDay_59 : decode cX7_closeDay 59 = .ok (.dup, 1) := by decide +kernel
theorem dX7_closeDay_60 : decode cX7_closeDay 60 = .ok (.getfield 33, 3) := by decide +kernel
theorem dX7_closeDay_63 : decode cX7_closeDay 63 = .ok (.iload 4, 2) := by decide +kernel
theorem dX7_closeDay_65 : decode cX7_closeDay 65 = .ok (.bipush 10, 2) := by decide +kernel
theorem dX7_closeDay_67 : decode cX7_closeDay 67 = .ok (.irem, 1) := by decide +kernel
theorem dX7_closeDay_68 : decode cX7_closeDay 68 = .ok (.iadd, 1) := by decide +kernel
theorem dX7_closeDay_69 : decode cX7_closeDay 69 = .ok (.putfield 33, 3) := by decide +kernel
theorem dX7_closeDay_72 : decode cX7_closeDay 72 = .ok (.aload_n 0, 1) := by decide +kernel
theorem dX7_closeDay_73 : decode cX7_closeDay 73 = .ok (.getfield 36, 3) := by decide +kernel
theorem dX7_closeDay_76 : decode cX7_closeDay 76 = .ok (.iload_n 1, 1) := by decide +kernel
theorem dX7_closeDay_77 : decode cX7_closeDay 77 = .ok (.iload 5, 2) := by decide +kernel
theorem dX7_closeDay_79 : decode cX7_closeDay 79 = .ok (.iastore, 1) := by decide +kernel
theorem dX7_closeDay_80 : decode cX7_closeDay 80 = .ok (.return_, 1) := by decide +kernel
theorem dX8_init_0 : decode cX8_init 0 = .ok (.aload_n 0, 1) := by decide +kernel
theorem dX8_init_1 : decode cX8_init 1 = .ok (.invokespecial 3, 3) := by decide +kernel
theorem dX8_init_4 : decode cX8_init 4 = .ok (.aload_n 0, 1) := by decide +kernel
theorem dX8_init_5 : decode cX8_init 5 = .ok (.sipush 600, 3) := by decide +kernel
theorem dX8_init_8 : decode cX8_init 8 = .ok (.newarray .byte, 2) := by decide +kernel
theorem dX8_init_10 : decode cX8_init 10 = .ok (.putfield 9, 3) := by decide +kernel
theorem dX8_init_13 : decode cX8_init 13 = .ok (.aload_n 0, 1) := by decide +kernel
theorem dX8_init_14 : decode cX8_init 14 = .ok (.iconst 0, 1) := by decide +kernel
theorem dX8_init_15 : decode cX8_init 15 = .ok (.putfield 15, 3) := by decide +kernel
theorem dX8_init_18 : decode cX8_init 18 = .ok (.aload_n 0, 1) := by decide +kernel
theorem dX8_init_19 : decode cX8_init 19 = .ok (.bipush 12, 2) := by decide +kernel
theorem dX8_init_21 : decode cX8_init 21 = .ok (.putfield 19, 3) := by decide +kernel
theorem dX8_init_24 : decode cX8_init 24 = .ok (.aload_n 0, 1) := by decide +kernel
theorem dX8_init_25 : decode cX8_init 25 = .ok (.iconst 0, 1) := by decide +kernel
theorem dX8_init_26 : decode cX8_init 26 = .ok (.putfield 22, 3) := by decide +kernel
theorem dX8_init_29 : decode cX8_init 29 = .ok (.aload_n 0, 1) := by decide +kernel
theorem dX8_init_30 : decode cX8_init 30 = .ok (.iconst 0, 1) := by decide +kernel
theorem dX8_init_31 : decode cX8_init 31 = .ok (.putfield 25, 3) := by decide +kernel
theorem dX8_init_34 : decode cX8_init 34 = .ok (.aload_n 0, 1) := by decide +kernel
theorem dX8_init_35 : decode cX8_init 35 = .ok (.iconst 0, 1) := by decide +kernel
theorem dX8_init_36 : decode cX8_init 36 = .ok (.putfield 28, 3) := by decide +kernel
theorem dX8_init_39 : decode cX8_init 39 = .ok (.aload_n 0, 1) := by decide +kernel
theorem dX8_init_40 : decode cX8_init 40 = .ok (.iconst 0, 1) := by decide +kernel
theorem dX8_init_41 : decode cX8_init 41 = .ok (.putfield 31, 3) := by decide +kernel
theorem dX8_init_44 : decode cX8_init 44 = .ok (.return_, 1) := by decide +kernel
theorem dX8_add_0 : decode cX8_add 0 = .ok (.bipush 24, 2) := by decide +kernel
theorem dX8_add_2 : decode cX8_add 2 = .ok (.istore_n 2, 1) := by decide +kernel
theorem dX8_add_3 : decode cX8_add 3 = .ok (.iload_n 2, 1) := by decide +kernel
theorem dX8_add_4 : decode cX8_add 4 = .ok (.ifCond .lt 42, 3) := by decide +kernel
theorem dX8_add_7 : decode cX8_add 7 = .ok (.aload_n 0, 1) := by decide +kernel
theorem dX8_add_8 : decode cX8_add 8 = .ok (.getfield 15, 3) := by decide +kernel
theorem dX8_add_11 : decode cX8_add 11 = .ok (.sipush 600, 3) := by decide +kernel
theorem dX8_add_14 : decode cX8_add 14 = .ok (.if_icmp .ge 26, 3) := by decide +kernel
theorem dX8_add_17 : decode cX8_add 17 = .ok (.aload_n 0, 1) := by decide +kernel
theorem dX8_add_18 : decode cX8_add 18 = .ok (.getfield 9, 3) := by decide +kernel
theorem dX8_add_21 : decode cX8_add 21 = .ok (.aload_n 0, 1) := by decide +kernel
theorem dX8_add_22 : decode cX8_add 22 = .ok (.getfield 15, 3) := by decide +kernel
theorem dX8_add_25 : decode cX8_add 25 = .ok (.iload_n 1, 1) := by decide +kernel
theorem dX8_add_26 : decode cX8_add 26 = .ok (.iload_n 2, 1) := by decide +kernel
theorem dX8_add_27 : decode cX8_add 27 = .ok (.iushr, 1) := by decide +kernel
theorem dX8_add_28 : decode cX8_add 28 = .ok (.i2b, 1) := by decide +kernel
theorem dX8_add_29 : decode cX8_add 29 = .ok (.bastore, 1) := by decide +kernel
theorem dX8_add_30 : decode cX8_add 30 = .ok (.aload_n 0, 1) := by decide +kernel
theorem dX8_add_31 : decode cX8_add 31 = .ok (.dup, 1) := by decide +kernel
theorem dX8_add_32 : decode cX8_add 32 = .ok (.getfield 15, 3) := by decide +kernel
theorem dX8_add_35 : decode cX8_add 35 = .ok (.iconst 1, 1) := by decide +kernel
theorem dX8_add_36 : decode cX8_add 36 = .ok (.iadd, 1) := by decide +kernel
theorem dX8_add_37 : decode cX8_add 37 = .ok (.putfield 15, 3) := by decide +kernel
theorem dX8_add_40 : decode cX8_add 40 = .ok (.iinc 2 (-8), 3) := by decide +kernel
theorem dX8_add_43 : decode cX8_add 43 = .ok (.goto (-40), 3) := by decide +kernel
theorem dX8_add_46 : decode cX8_add 46 = .ok (.return_, 1) := by decide +kernel
theorem dX8_rewind_0 : decode cX8_rewind 0 = .ok (.aload_n 0, 1) := by decide +kernel
theorem dX8_rewind_1 : decode cX8_rewind 1 = .ok (.iconst 0, 1) := by decide +kernel
theorem dX8_rewind_2 : decode cX8_rewind 2 = .ok (.putfield 25, 3) := by decide +kernel
theorem dX8_rewind_5 : decode cX8_rewind 5 = .ok (.return_, 1) := by decide +kernel
set_option maxRecDepth 20000 in
theorem ggX8_readToken_X8_isBlank : GoodIn wsX8_readToken wsX8_isBlank := goodIn_r _ [9] (by decide +kernel) (by decide +kernel)
set_option maxRecDepth 20000 in
theorem gX8_readToken_X8_isBlank : GoodIn wsX8_readToken (va_wsS RX8 34 yX8_isBlank wsX8_isBlank) := goodIn_app (goodIn_of _ (by decide +kernel)) ggX8_readToken_X8_isBlank
set_option maxRecDepth 20000 in
theorem ggX8_readToken_X8_isLetter : GoodIn wsX8_readToken wsX8_isLetter := goodIn_r _ [12] (by decide +kernel) (by decide +kernel)
set_option maxRecDepth 20000 in
theorem gX8_readToken_X8_isLetter : GoodIn wsX8_readToken (va_wsS RX8 38 yX8_isLetter wsX8_isLetter) := goodIn_app (goodIn_of _ (by decide +kernel)) ggX8_readToken_X8_isLetter
set_option maxRecDepth 20000 in
theorem ggX8_readToken_X8_readLetters : GoodIn wsX8_readToken wsX8_readLetters := goodIn_r _ [16, 17, 1, 3, 4, 2, 5, 10, 11, 8, 12, 18, 19, 20, 21, 22, 23, 24, 25, 26, 27, 28, 29, 30, 31, 32, 33, 34, 35, 36, 37, 38, 39, 40, 41, 42, 43, 44, 45, 46, 47, 48, 49, 50, 51, 52, 53, 54, 55, 56, 57, 58, 59, 60, 61, 62, 63, 64, 65, 66, 67, 68, 69, 70, 71, 72, 73, 74, 86, 87, 88, 89, 90, 91, 92] (by decide +kernel) (by decide +kernel)
set_option maxRecDepth 20000 in
theorem gX8_readToken_X8_readLetters : GoodIn wsX8_readToken (wsV RX8 41 RX8 yX8_readLetters wsX8_readLetters) := goodIn_app (goodIn_of _ (by decide +kernel)) ggX8_readToken_X8_readLetters
set_option maxRecDepth 20000 in
theorem ggX8_readToken_X8_isDigit : GoodIn wsX8_readToken wsX8_isDigit := goodIn_r _ [77] (by decide +kernel) (by decide +kernel)
set_option maxRecDepth 20000 in
theorem gX8_readToken_X8_isDigit : GoodIn wsX8_readToken (va_wsS RX8 44 yX8_isDigit wsX8_isDigit) := goodIn_app (goodIn_of _ (by decide +kernel)) ggX8_readToken_X8_isDigit
set_option maxRecDepth 20000 in
theorem ggX8_readToken_X8_readDigits : GoodIn wsX8_readToken wsX8_readDigits := goodIn_r _ [81, 82, 1, 3, 4, 2, 5, 75, 76, 8, 77, 86, 87, 88, 89, 90, 91, 92] (by decide +kernel) (by decide +kernel)
set_option maxRecDepth 20000 in
theorem gX8_readToken_X8_readDigits : GoodIn wsX8_readToken (wsV RX8 47 RX8 yX8_readDigits wsX8_readDigits) := goodIn_app (goodIn_of _ (by decide +kernel)) ggX8_readToken_X8_readDigits
set_option maxRecDepth 20000 in
theorem ggX8_readToken_X8_signToken : GoodIn wsX8_readToken wsX8_signToken := goodIn_r _ [85] (by decide +kernel) (by decide +kernel)
set_option maxRecDepth 20000 in
theorem gX8_readToken_X8_signToken : GoodIn wsX8_readToken (va_wsS RX8 50 yX8_signToken wsX8_signToken) := goodIn_app (goodIn_of _ (by decide +kernel)) ggX8_readToken_X8_signToken
theorem dX8_readToken_0 : decode cX8_readToken 0 = .ok (.aload_n 0, 1) := by decide +kernel
theorem dX8_readToken_1 : decode cX8_readToken 1 = .ok (.aload_n 0, 1) := by decide +kernel
theorem dX8_readToken_2 : decode cX8_readToken 2 = .ok (.getfield 25, 3) := by decide +kernel
theorem dX8_readToken_5 : decode cX8_readToken 5 = .ok (.putfield 22, 3) := by decide +kernel
theorem dX8_readToken_8 : decode cX8_readToken 8 = .ok (.aload_n 0, 1) := by decide +kernel
theorem dX8_readToken_9 : decode cX8_readToken 9 = .ok (.getfield 22, 3) := by decide +kernel
theorem dX8_readToken_12 : decode cX8_readToken 12 = .ok (.aload_n 0, 1) := by decide +kernel
theorem dX8_readToken_13 : decode cX8_readToken 13 = .ok (.getfield 15, 3) := by decide +kernel
theorem dX8_readToken_16 : decode cX8_readToken 16 = .ok (.if_icmp .ge 31, 3) := by decide +kernel
theorem dX8_readToken_19 : decode cX8_readToken 19 = .ok (.aload_n 0, 1) := by decide +kernel
theorem dX8_readToken_20 : decode cX8_readToken 20 = .ok (.getfield 9, 3) := by decide +kernel
theorem dX8_readToken_23 : decode cX8_readToken 23 = .ok (.aload_n 0, 1) := by decide +kernel
theorem dX8_readToken_24 : decode cX8_readToken 24 = .ok (.getfield 22, 3) := by decide +kernel
theorem dX8_readToken_27 : decode cX8_readToken 27 = .ok (.baload, 1) := by decide +kernel
theorem dX8_readToken_28 : decode cX8_readToken 28 = .ok (.invokestatic 34, 3) := by decide +kernel
theorem dX8_readToken_31 : decode cX8_readToken 31 = .ok (.ifCond .eq 16, 3) := by decide +kernel
theorem dX8_readToken_34 : decode cX8_readToken 34 = .ok (.aload_n 0, 1) := by decide +kernel
theorem dX8_readToken_35 : decode cX8_readToken 35 = .ok (.dup, 1) := by decide +kernel
theorem dX8_readToken_36 : decode cX8_readToken 36 = .ok (.getfield 22, 3) := by decide +kernel
theorem dX8_readToken_39 : decode cX8_readToken 39 = .ok (.iconst 1, 1) := by decide +kernel
theorem dX8_readToken_40 : decode cX8_readToken 40 = .ok (.iadd, 1) := by decide +kernel
theorem dX8_readToken_41 : decode cX8_readToken 41 = .ok (.putfield 22, 3) := by decide +kernel
theorem dX8_readToken_44 : decode cX8_readToken 44 = .ok (.goto (-36), 3) := by decide +kernel
theorem dX8_readToken_47 : decode cX8_readToken 47 = .ok (.aload_n 0, 1) := by decide +kernel
theorem dX8_readToken_48 : decode cX8_readToken 48 = .ok (.aload_n 0, 1) := by decide +kernel
theorem dX8_readToken_49 : decode cX8_readToken 49 = .ok (.getfield 22, 3) := by decide +kernel
theorem dX8_readToken_52 : decode cX8_readToken 52 = .ok (.putfield 25, 3) := by decide +kernel
theorem dX8_readToken_55 : decode cX8_readToken 55 = .ok (.aload_n 0, 1) := by decide +kernel
theorem dX8_readToken_56 : decode cX8_readToken 56 = .ok (.getfield 22, 3) := by decide +kernel
theorem dX8_readToken_59 : decode cX8_readToken 59 = .ok (.aload_n 0, 1) := by decide +kernel
theorem dX8_readToken_60 : decode cX8_readToken 60 = .ok (.getfield 15, 3) := by decide +kernel
theorem dX8_readToken_63 : decode cX8_readToken 63 = .ok (.if_icmp .lt 12, 3) := by decide +kernel
theorem dX8_readToken_66 : decode cX8_readToken 66 = .ok (.aload_n 0, 1) := by decide +kernel
theorem dX8_readToken_67 : decode cX8_readToken 67 = .ok (.bipush 12, 2) := by decide +kernel
theorem dX8_readToken_69 : decode cX8_readToken 69 = .ok (.putfield 19, 3) := by decide +kernel
theorem dX8_readToken_72 : decode cX8_readToken 72 = .ok (.goto 73, 3) := by decide +kernel
theorem dX8_readToken_75 : decode cX8_readToken 75 = .ok (.aload_n 0, 1) := by decide +kernel
theorem dX8_readToken_76 : decode cX8_readToken 76 = .ok (.getfield 9, 3) := by decide +kernel
theorem dX8_readToken_79 : decode cX8_readToken 79 = .ok (.aload_n 0, 1) := by decide +kernel
theorem dX8_readToken_80 : decode cX8_readToken 80 = .ok (.getfield 22, 3) := by decide +kernel
theorem dX8_readToken_83 : decode cX8_readToken 83 = .ok (.baload, 1) := by decide +kernel
theorem dX8_readToken_84 : decode cX8_readToken 84 = .ok (.invokestatic 38, 3) := by decide +kernel
theorem dX8_readToken_87 : decode cX8_readToken 87 = .ok (.ifCond .eq 10, 3) := by decide +kernel
theorem dX8_readToken_90 : decode cX8_readToken 90 = .ok (.aload_n 0, 1) := by decide +kernel
theorem dX8_readToken_91 : decode cX8_readToken 91 = .ok (.invokevirtual 41, 3) := by decide +kernel
theorem dX8_readToken_94 : decode cX8_readToken 94 = .ok (.goto 51, 3) := by decide +kernel
theorem dX8_readToken_97 : decode cX8_readToken 97 = .ok (.aload_n 0, 1) := by decide +kernel
theorem dX8_readToken_98 : decode cX8_readToken 98 = .ok (.getfield 9, 3) := by decide +kernel
theorem dX8_readToken_101 : decode cX8_readToken 101 = .ok (.aload_n 0, 1) := by decide +kernel
theorem dX8_readToken_102 : decode cX8_readToken 102 = .ok (.getfield 22, 3) := by decide +kernel
theorem dX8_readToken_105 : decode cX8_readToken 105 = .ok (.baload, 1) := by decide +kernel
theorem dX8_readToken_106 : decode cX8_readToken 106 = .ok (.invokestatic 44, 3) := by decide +kernel
theorem dX8_readToken_109 : decode cX8_readToken 109 = .ok (.ifCond .eq 10, 3) := by decide +kernel
theorem dX8_readToken_112 : decode cX8_readToken 112 = .ok (.aload_n 0, 1) := by decide +kernel
theorem dX8_readToken_113 : decode cX8_readToken 113 = .ok (.invokevirtual 47, 3) := by decide +kernel
theorem dX8_readToken_116 : decode cX8_readToken 116 = .ok (.goto 29, 3) := by decide +kernel
theorem dX8_readToken_119 : decode cX8_readToken 119 = .ok (.aload_n 0, 1) := by decide +kernel
theorem dX8_readToken_120 : decode cX8_readToken 120 = .ok (.aload_n 0, 1) := by decide +kernel
theorem dX8_readToken_121 : decode cX8_readToken 121 = .ok (.getfield 9, 3) := by decide +kernel
theorem dX8_readToken_124 : decode cX8_readToken 124 = .ok (.aload_n 0, 1) := by decide +kernel
theorem dX8_readToken_125 : decode cX8_readToken 125 = .ok (.getfield 22, 3) := by decide +kernel
theorem dX8_readToken_128 : decode cX8_readToken 128 = .ok (.baload, 1) := by decide +kernel
theorem dX8_readToken_129 : decode cX8_readToken 129 = .ok (.invokestatic 50, 3) := by decide +kernel
theorem dX8_readToken_132 : decode cX8_readToken 132 = .ok (.putfield 19, 3) := by decide +kernel
theorem dX8_readToken_135 : decode cX8_readToken 135 = .ok (.aload_n 0, 1) := by decide +kernel
theorem dX8_readToken_136 : decode cX8_readToken 136 = .ok (.dup, 1) := by decide +kernel
theorem dX8_readToken_137 : decode cX8_readToken 137 = .ok (.getfield 25, 3) := by decide +kernel
theorem dX8_readToken_140 : decode cX8_readToken 140 = .ok (.iconst 1, 1) := by decide +kernel
theorem dX8_readToken_141 : decode cX8_readToken 141 = .ok (.iadd, 1) := by decide +kernel
theorem dX8_readToken_142 : decode cX8_readToken 142 = .ok (.putfield 25, 3) := by decide +kernel
theorem dX8_readToken_145 : decode cX8_readToken 145 = .ok (.return_, 1) := by decide +kernel
set_option maxRecDepth 20000 in
theorem ggX8_readLetters_X8_isLetter : GoodIn wsX8_readLetters wsX8_isLetter := goodIn_r _ [10] (by decide +kernel) (by decide +kernel)
set_option maxRecDepth 20000 in
theorem gX8_readLetters_X8_isLetter : GoodIn wsX8_readLetters (va_wsS RX8 38 yX8_isLetter wsX8_isLetter) := goodIn_app (goodIn_of _ (by decide +kernel)) ggX8_readLetters_X8_isLetter
set_option maxRecDepth 20000 in
theorem ggX8_readLetters_X8_wordToken : GoodIn wsX8_readLetters wsX8_wordToken := goodIn_r _ [14, 15, 16, 17, 9, 18, 2, 5, 4, 19, 20, 21, 22, 23, 24, 25, 26, 27, 28, 29, 30, 31, 32, 33, 34, 35, 36, 37, 38, 39, 40, 41, 42, 43, 44, 45, 46, 47, 48, 49, 50, 51, 52, 53, 54, 55, 56, 57, 58, 59, 60, 61, 62, 63, 64, 65, 66, 67, 68, 69, 70, 71, 72, 73, 74] (by decide +kernel) (by decide +kernel)
set_option maxRecDepth 20000 in
theorem gX8_readLetters_X8_wordToken : GoodIn wsX8_readLetters (wsV RX8 54 RX8 yX8_wordToken wsX8_wordToken) := goodIn_app (goodIn_of _ (by decide +kernel)) ggX8_readLetters_X8_wordToken
theorem dX8_readLetters_0 : decode cX8_readLetters 0 = .ok (.iconst 1, 1) := by decide +kernel
theorem dX8_readLetters_1 : decode cX8_readLetters 1 = .ok (.istore_n 1, 1) := by decide +kernel
theorem dX8_readLetters_2 : decode cX8_readLetters 2 = .ok (.aload_n 0, 1) := by decide +kernel
theorem dX8_readLetters_3 : decode cX8_readLetters 3 = .ok (.iconst 0, 1) := by decide +kernel
theorem dX8_readLetters_4 : decode cX8_readLetters 4 = .ok (.putfield 31, 3) := by decide +kernel
theorem dX8_readLetters_7 : decode cX8_readLetters 7 = .ok (.aload_n 0, 1) := by decide +kernel
theorem dX8_readLetters_8 : decode cX8_readLetters 8 = .ok (.getfield 25, 3) := by decide +kernel
theorem dX8_readLetters_11 : decode cX8_readLetters 11 = .ok (.aload_n 0, 1) := by decide +kernel
theorem dX8_readLetters_12 : decode cX8_readLetters 12 = .ok (.getfield 15, 3) := by decide +kernel
theorem dX8_readLetters_15 : decode cX8_readLetters 15 = .ok (.if_icmp .ge 81, 3) := by decide +kernel
theorem dX8_readLetters_18 : decode cX8_readLetters 18 = .ok (.aload_n 0, 1) := by decide +kernel
theorem dX8_readLetters_19 : decode cX8_readLetters 19 = .ok (.getfield 9, 3) := by decide +kernel
theorem dX8_readLetters_22 : decode cX8_readLetters 22 = .ok (.aload_n 0, 1) := by decide +kernel
theorem dX8_readLetters_23 : decode cX8_readLetters 23 = .ok (.getfield 25, 3) := by decide +kernel
theorem dX8_readLetters_26 : decode cX8_readLetters 26 = .ok (.baload, 1) := by decide +kernel
theorem dX8_readLetters_27 : decode cX8_readLetters 27 = .ok (.invokestatic 38, 3) := by decide +kernel
theorem dX8_readLetters_30 : decode cX8_readLetters 30 = .ok (.ifCond .eq 66, 3) := by decide +kernel
theorem dX8_readLetters_33 : decode cX8_readLetters 33 = .ok (.iload_n 1, 1) := by decide +kernel
theorem dX8_readLetters_34 : decode cX8_readLetters 34 = .ok (.ifCond .eq 21, 3) := by decide +kernel
theorem dX8_readLetters_37 : decode cX8_readLetters 37 = .ok (.aload_n 0, 1) := by decide +kernel
theorem dX8_readLetters_38 : decode cX8_readLetters 38 = .ok (.getfield 9, 3) := by decide +kernel
theorem dX8_readLetters_41 : decode cX8_readLetters 41 = .ok (.aload_n 0, 1) := by decide +kernel
theorem dX8_readLetters_42 : decode cX8_readLetters 42 = .ok (.getfield 25, 3) := by decide +kernel
theorem dX8_readLetters_45 : decode cX8_readLetters 45 = .ok (.baload, 1) := by decide +kernel
theorem dX8_readLetters_46 : decode cX8_readLetters 46 = .ok (.bipush 97, 2) := by decide +kernel
theorem dX8_readLetters_48 : decode cX8_readLetters 48 = .ok (.if_icmp .lt 7, 3) := by decide +kernel
theorem dX8_readLetters_51 : decode cX8_readLetters 51 = .ok (.iconst 1, 1) := by decide +kernel
theorem dX8_readLetters_52 : decode cX8_readLetters 52 = .ok (.goto 4, 3) := by decide +kernel
theorem dX8_readLetters_55 : decode cX8_readLetters 55 = .ok (.iconst 0, 1) := by decide +kernel
theorem dX8_readLetters_56 : decode cX8_readLetters 56 = .ok (.istore_n 1, 1) := by decide +kernel
theorem dX8_readLetters_57 : decode cX8_readLetters 57 = .ok (.aload_n 0, 1) := by decide +kernel
theorem dX8_readLetters_58 : decode cX8_readLetters 58 = .ok (.aload_n 0, 1) := by decide +kernel
theorem dX8_readLetters_59 : decode cX8_readLetters 59 = .ok (.getfield 31, 3) := by decide +kernel
theorem dX8_readLetters_62 : decode cX8_readLetters 62 = .ok (.bipush 27, 2) := by decide +kernel
theorem dX8_readLetters_64 : decode cX8_readLetters 64 = .ok (.imul, 1) := by decide +kernel
theorem dX8_readLetters_65 : decode cX8_readLetters 65 = .ok (.aload_n 0, 1) := by decide +kernel
theorem dX8_readLetters_66 : decode cX8_readLetters 66 = .ok (.getfield 9, 3) := by decide +kernel
theorem dX8_readLetters_69 : decode cX8_readLetters 69 = .ok (.aload_n 0, 1) := by decide +kernel
theorem dX8_readLetters_70 : decode cX8_readLetters 70 = .ok (.getfield 25, 3) := by decide +kernel
theorem dX8_readLetters_73 : decode cX8_readLetters 73 = .ok (.baload, 1) := by decide +kernel
theorem dX8_readLetters_74 : decode cX8_readLetters 74 = .ok (.bipush 97, 2) := by decide +kernel
theorem dX8_readLetters_76 : decode cX8_readLetters 76 = .ok (.isub, 1) := by decide +kernel
theorem dX8_readLetters_77 : decode cX8_readLetters 77 = .ok (.iconst 1, 1) := by decide +kernel
theorem dX8_readLetters_78 : decode cX8_readLetters 78 = .ok (.iadd, 1) := by decide +kernel
theorem dX8_readLetters_79 : decode cX8_readLetters 79 = .ok (.iadd, 1) := by decide +kernel
theorem dX8_readLetters_80 : decode cX8_readLetters 80 = .ok (.putfield 31, 3) := by decide +kernel
theorem dX8_readLetters_83 : decode cX8_readLetters 83 = .ok (.aload_n 0, 1) := by decide +kernel
theorem dX8_readLetters_84 : decode cX8_readLetters 84 = .ok (.dup, 1) := by decide +kernel
theorem dX8_readLetters_85 : decode cX8_readLetters 85 = .ok (.getfield 25, 3) := by decide +kernel
theorem dX8_readLetters_88 : decode cX8_readLetters 88 = .ok (.iconst 1, 1) := by decide +kernel
theorem dX8_readLetters_89 : decode cX8_readLetters 89 = .ok (.iadd, 1) := by decide +kernel
theorem dX8_readLetters_90 : decode cX8_readLetters 90 = .ok (.putfield 25, 3) := by decide +kernel
theorem dX8_readLetters_93 : decode cX8_readLetters 93 = .ok (.goto (-86), 3) := by decide +kernel
theorem dX8_readLetters_96 : decode cX8_readLetters 96 = .ok (.aload_n 0, 1) := by decide +kernel
theorem dX8_readLetters_97 : decode cX8_readLetters 97 = .ok (.iload_n 1, 1) := by decide +kernel
theorem dX8_readLetters_98 : decode cX8_readLetters 98 = .ok (.ifCond .eq 24, 3) := by decide +kernel
theorem dX8_readLetters_101 : decode cX8_readLetters 101 = .ok (.aload_n 0, 1) := by decide +kernel
theorem dX8_readLetters_102 : decode cX8_readLetters 102 = .ok (.getfield 25, 3) := by decide +kernel
theorem dX8_readLetters_105 : decode cX8_readLetters 105 = .ok (.aload_n 0, 1) := by decide +kernel
theorem dX8_readLetters_106 : decode cX8_readLetters 106 = .ok (.getfield 22, 3) := by decide +kernel
theorem dX8_readLetters_109 : decode cX8_readLetters 109 = .ok (.isub, 1) := by decide +kernel
theorem dX8_readLetters_110 : decode cX8_readLetters 110 = .ok (.bipush 6, 2) := by decide +kernel
theorem dX8_readLetters_112 : decode cX8_readLetters 112 = .ok (.if_icmp .gt 10, 3) := by decide +kernel
