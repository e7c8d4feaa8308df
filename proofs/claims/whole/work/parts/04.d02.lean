theorem dX2_takeName_1 : decode cX2_takeName 1 = .ok (.bipush 6, 2) := by decide +kernel
theorem dX2_takeName_3 : decode cX2_takeName 3 = .ok (.if_icmp .eq 11, 3) := by decide +kernel
theorem dX2_takeName_6 : decode cX2_takeName 6 = .ok (.aload_n 0, 1) := by decide +kernel
theorem dX2_takeName_7 : decode cX2_takeName 7 = .ok (.iconst 1, 1) := by decide +kernel
theorem dX2_takeName_8 : decode cX2_takeName 8 = .ok (.invokevirtual 92, 3) := by decide +kernel
theorem dX2_takeName_11 : decode cX2_takeName 11 = .ok (.goto 44, 3) := by decide +kernel
theorem dX2_takeName_14 : decode cX2_takeName 14 = .ok (.aload_n 0, 1) := by decide +kernel
theorem dX2_takeName_15 : decode cX2_takeName 15 = .ok (.aload_n 0, 1) := by decide +kernel
theorem dX2_takeName_16 : decode cX2_takeName 16 = .ok (.getfield 12, 3) := by decide +kernel
theorem dX2_takeName_19 : decode cX2_takeName 19 = .ok (.getfield 95, 3) := by decide +kernel
theorem dX2_takeName_22 : decode cX2_takeName 22 = .ok (.invokevirtual 98, 3) := by decide +kernel
theorem dX2_takeName_25 : decode cX2_takeName 25 = .ok (.ifCond .eq 11, 3) := by decide +kernel
theorem dX2_takeName_28 : decode cX2_takeName 28 = .ok (.aload_n 0, 1) := by decide +kernel
theorem dX2_takeName_29 : decode cX2_takeName 29 = .ok (.iconst 2, 1) := by decide +kernel
theorem dX2_takeName_30 : decode cX2_takeName 30 = .ok (.invokevirtual 92, 3) := by decide +kernel
theorem dX2_takeName_33 : decode cX2_takeName 33 = .ok (.goto 22, 3) := by decide +kernel
theorem dX2_takeName_36 : decode cX2_takeName 36 = .ok (.aload_n 0, 1) := by decide +kernel
theorem dX2_takeName_37 : decode cX2_takeName 37 = .ok (.getfield 48, 3) := by decide +kernel
theorem dX2_takeName_40 : decode cX2_takeName 40 = .ok (.aload_n 0, 1) := by decide +kernel
theorem dX2_takeName_41 : decode cX2_takeName 41 = .ok (.getfield 12, 3) := by decide +kernel
theorem dX2_takeName_44 : decode cX2_takeName 44 = .ok (.getfield 95, 3) := by decide +kernel
theorem dX2_takeName_47 : decode cX2_takeName 47 = .ok (.invokevirtual 102, 3) := by decide +kernel
theorem dX2_takeName_50 : decode cX2_takeName 50 = .ok (.aload_n 0, 1) := by decide +kernel
theorem dX2_takeName_51 : decode cX2_takeName 51 = .ok (.iconst 2, 1) := by decide +kernel
theorem dX2_takeName_52 : decode cX2_takeName 52 = .ok (.putfield 37, 3) := by decide +kernel
theorem dX2_takeName_55 : decode cX2_takeName 55 = .ok (.return_, 1) := by decide +kernel
theorem dX2_isTold_0 : decode cX2_isTold 0 = .ok (.iconst 0, 1) := by decide +kernel
theorem dX2_isTold_1 : decode cX2_isTold 1 = .ok (.istore_n 2, 1) := by decide +kernel
theorem dX2_isTold_2 : decode cX2_isTold 2 = .ok (.iload_n 2, 1) := by decide +kernel
theorem dX2_isTold_3 : decode cX2_isTold 3 = .ok (.aload_n 0, 1) := by decide +kernel
theorem dX2_isTold_4 : decode cX2_isTold 4 = .ok (.getfield 34, 3) := by decide +kernel
theorem dX2_isTold_7 : decode cX2_isTold 7 = .ok (.if_icmp .ge 30, 3) := by decide +kernel
theorem dX2_isTold_10 : decode cX2_isTold 10 = .ok (.iload_n 2, 1) := by decide +kernel
theorem dX2_isTold_11 : decode cX2_isTold 11 = .ok (.bipush 8, 2) := by decide +kernel
theorem dX2_isTold_13 : decode cX2_isTold 13 = .ok (.if_icmp .ge 24, 3) := by decide +kernel
theorem dX2_isTold_16 : decode cX2_isTold 16 = .ok (.aload_n 0, 1) := by decide +kernel
theorem dX2_isTold_17 : decode cX2_isTold 17 = .ok (.getfield 20, 3) := by decide +kernel
theorem dX2_isTold_20 : decode cX2_isTold 20 = .ok (.iload_n 2, 1) := by decide +kernel
theorem dX2_isTold_21 : decode cX2_isTold 21 = .ok (.aaload, 1) := by decide +kernel
theorem dX2_isTold_22 : decode cX2_isTold 22 = .ok (.getfield 105, 3) := by decide +kernel
theorem dX2_isTold_25 : decode cX2_isTold 25 = .ok (.iload_n 1, 1) := by decide +kernel
theorem dX2_isTold_26 : decode cX2_isTold 26 = .ok (.if_icmp .ne 5, 3) := by decide +kernel
theorem dX2_isTold_29 : decode cX2_isTold 29 = .ok (.iconst 1, 1) := by decide +kernel
theorem dX2_isTold_30 : decode cX2_isTold 30 = .ok (.ireturn, 1) := by decide +kernel
theorem dX2_isTold_31 : decode cX2_isTold 31 = .ok (.iinc 2 1, 3) := by decide +kernel
theorem dX2_isTold_34 : decode cX2_isTold 34 = .ok (.goto (-32), 3) := by decide +kernel
theorem dX2_isTold_37 : decode cX2_isTold 37 = .ok (.iconst 0, 1) := by decide +kernel
theorem dX2_isTold_38 : decode cX2_isTold 38 = .ok (.ireturn, 1) := by decide +kernel
set_option maxRecDepth 20000 in
theorem ggX2_takeColon_X2_fail : GoodIn wsX2_takeColon wsX2_fail := goodIn_r _ [7, 8, 9, 10, 11, 12, 13, 14, 15, 16, 17, 18, 19, 20, 21, 22, 23, 24, 25, 26, 27, 28] (by decide +kernel) (by decide +kernel)
set_option maxRecDepth 20000 in
theorem gX2_takeColon_X2_fail : GoodIn wsX2_takeColon (wsV RX2 92 RX2 yX2_fail wsX2_fail) := goodIn_app (goodIn_of _ (by decide +kernel)) ggX2_takeColon_X2_fail
theorem dX2_takeColon_0 : decode cX2_takeColon 0 = .ok (.iload_n 1, 1) := by decide +kernel
theorem dX2_takeColon_1 : decode cX2_takeColon 1 = .ok (.bipush 8, 2) := by decide +kernel
theorem dX2_takeColon_3 : decode cX2_takeColon 3 = .ok (.if_icmp .eq 11, 3) := by decide +kernel
theorem dX2_takeColon_6 : decode cX2_takeColon 6 = .ok (.aload_n 0, 1) := by decide +kernel
theorem dX2_takeColon_7 : decode cX2_takeColon 7 = .ok (.iconst 1, 1) := by decide +kernel
theorem dX2_takeColon_8 : decode cX2_takeColon 8 = .ok (.invokevirtual 92, 3) := by decide +kernel
theorem dX2_takeColon_11 : decode cX2_takeColon 11 = .ok (.goto 13, 3) := by decide +kernel
theorem dX2_takeColon_14 : decode cX2_takeColon 14 = .ok (.aload_n 0, 1) := by decide +kernel
theorem dX2_takeColon_15 : decode cX2_takeColon 15 = .ok (.iconst 0, 1) := by decide +kernel
theorem dX2_takeColon_16 : decode cX2_takeColon 16 = .ok (.putfield 40, 3) := by decide +kernel
theorem dX2_takeColon_19 : decode cX2_takeColon 19 = .ok (.aload_n 0, 1) := by decide +kernel
theorem dX2_takeColon_20 : decode cX2_takeColon 20 = .ok (.iconst 3, 1) := by decide +kernel
theorem dX2_takeColon_21 : decode cX2_takeColon 21 = .ok (.putfield 37, 3) := by decide +kernel
theorem dX2_takeColon_24 : decode cX2_takeColon 24 = .ok (.return_, 1) := by decide +kernel
set_option maxRecDepth 20000 in
theorem ggX2_takeAct_X2_beginAct : GoodIn wsX2_takeAct wsX2_beginAct := goodIn_r _ [12, 2, 5, 7, 13, 14, 15, 11, 16, 17, 18, 19, 20, 21, 22, 23, 24, 25, 26, 27, 28, 29, 30, 31, 32, 33, 34, 35, 36, 37, 38, 39, 40, 41, 42, 43, 44, 45, 46, 47, 48, 49] (by decide +kernel) (by decide +kernel)
set_option maxRecDepth 20000 in
theorem gX2_takeAct_X2_beginAct : GoodIn wsX2_takeAct (wsV RX2 106 RX2 yX2_beginAct wsX2_beginAct) := goodIn_app (goodIn_of _ (by decide +kernel)) ggX2_takeAct_X2_beginAct
set_option maxRecDepth 20000 in
theorem ggX2_takeAct_X2_fail : GoodIn wsX2_takeAct wsX2_fail := goodIn_r _ [16, 17, 18, 19, 20, 28, 29, 30, 31, 32, 33, 34, 35, 36, 37, 43, 44, 45, 46, 47, 48, 49] (by decide +kernel) (by decide +kernel)
set_option maxRecDepth 20000 in
theorem gX2_takeAct_X2_fail : GoodIn wsX2_takeAct (wsV RX2 92 RX2 yX2_fail wsX2_fail) := goodIn_app (goodIn_of _ (by decide +kernel)) ggX2_takeAct_X2_fail
theorem dX2_takeAct_0 : decode cX2_takeAct 0 = .ok (.iload_n 1, 1) := by decide +kernel
theorem dX2_takeAct_1 : decode cX2_takeAct 1 = .ok (.ifCond .lt 16, 3) := by decide +kernel
theorem dX2_takeAct_4 : decode cX2_takeAct 4 = .ok (.iload_n 1, 1) := by decide +kernel
theorem dX2_takeAct_5 : decode cX2_takeAct 5 = .ok (.iconst 4, 1) := by decide +kernel
theorem dX2_takeAct_6 : decode cX2_takeAct 6 = .ok (.if_icmp .gt 11, 3) := by decide +kernel
theorem dX2_takeAct_9 : decode cX2_takeAct 9 = .ok (.aload_n 0, 1) := by decide +kernel
theorem dX2_takeAct_10 : decode cX2_takeAct 10 = .ok (.iload_n 1, 1) := by decide +kernel
theorem dX2_takeAct_11 : decode cX2_takeAct 11 = .ok (.invokevirtual 106, 3) := by decide +kernel
theorem dX2_takeAct_14 : decode cX2_takeAct 14 = .ok (.goto 89, 3) := by decide +kernel
theorem dX2_takeAct_17 : decode cX2_takeAct 17 = .ok (.iload_n 1, 1) := by decide +kernel
theorem dX2_takeAct_18 : decode cX2_takeAct 18 = .ok (.bipush 11, 2) := by decide +kernel
theorem dX2_takeAct_20 : decode cX2_takeAct 20 = .ok (.if_icmp .ne 47, 3) := by decide +kernel
theorem dX2_takeAct_23 : decode cX2_takeAct 23 = .ok (.aload_n 0, 1) := by decide +kernel
theorem dX2_takeAct_24 : decode cX2_takeAct 24 = .ok (.getfield 40, 3) := by decide +kernel
theorem dX2_takeAct_27 : decode cX2_takeAct 27 = .ok (.ifCond .le 40, 3) := by decide +kernel
theorem dX2_takeAct_30 : decode cX2_takeAct 30 = .ok (.aload_n 0, 1) := by decide +kernel
theorem dX2_takeAct_31 : decode cX2_takeAct 31 = .ok (.dup, 1) := by decide +kernel
theorem dX2_takeAct_32 : decode cX2_takeAct 32 = .ok (.getfield 40, 3) := by decide +kernel
theorem dX2_takeAct_35 : decode cX2_takeAct 35 = .ok (.iconst 1, 1) := by decide +kernel
theorem dX2_takeAct_36 : decode cX2_takeAct 36 = .ok (.isub, 1) := by decide +kernel
theorem dX2_takeAct_37 : decode cX2_takeAct 37 = .ok (.putfield 40, 3) := by decide +kernel
theorem dX2_takeAct_40 : decode cX2_takeAct 40 = .ok (.aload_n 0, 1) := by decide +kernel
theorem dX2_takeAct_41 : decode cX2_takeAct 41 = .ok (.getfield 48, 3) := by decide +kernel
theorem dX2_takeAct_44 : decode cX2_takeAct 44 = .ok (.getfield 109, 3) := by decide +kernel
theorem dX2_takeAct_47 : decode cX2_takeAct 47 = .ok (.aload_n 0, 1) := by decide +kernel
theorem dX2_takeAct_48 : decode cX2_takeAct 48 = .ok (.getfield 43, 3) := by decide +kernel
theorem dX2_takeAct_51 : decode cX2_takeAct 51 = .ok (.aload_n 0, 1) := by decide +kernel
theorem dX2_takeAct_52 : decode cX2_takeAct 52 = .ok (.getfield 40, 3) := by decide +kernel
theorem dX2_takeAct_55 : decode cX2_takeAct 55 = .ok (.iaload, 1) := by decide +kernel
theorem dX2_takeAct_56 : decode cX2_takeAct 56 = .ok (.aload_n 0, 1) := by decide +kernel
theorem dX2_takeAct_57 : decode cX2_takeAct 57 = .ok (.getfield 48, 3) := by decide +kernel
theorem dX2_takeAct_60 : decode cX2_takeAct 60 = .ok (.getfield 112, 3) := by decide +kernel
theorem dX2_takeAct_63 : decode cX2_takeAct 63 = .ok (.iastore, 1) := by decide +kernel
theorem dX2_takeAct_64 : decode cX2_takeAct 64 = .ok (.goto 39, 3) := by decide +kernel
theorem dX2_takeAct_67 : decode cX2_takeAct 67 = .ok (.iload_n 1, 1) := by decide +kernel
theorem dX2_takeAct_68 : decode cX2_takeAct 68 = .ok (.bipush 9, 2) := by decide +kernel
theorem dX2_takeAct_70 : decode cX2_takeAct 70 = .ok (.if_icmp .ne 28, 3) := by decide +kernel
theorem dX2_takeAct_73 : decode cX2_takeAct 73 = .ok (.aload_n 0, 1) := by decide +kernel
theorem dX2_takeAct_74 : decode cX2_takeAct 74 = .ok (.getfield 40, 3) := by decide +kernel
theorem dX2_takeAct_77 : decode cX2_takeAct 77 = .ok (.ifCond .ne 21, 3) := by decide +kernel
theorem dX2_takeAct_80 : decode cX2_takeAct 80 = .ok (.aload_n 0, 1) := by decide +kernel
theorem dX2_takeAct_81 : decode cX2_takeAct 81 = .ok (.dup, 1) := by decide +kernel
theorem dX2_takeAct_82 : decode cX2_takeAct 82 = .ok (.getfield 34, 3) := by decide +kernel
theorem dX2_takeAct_85 : decode cX2_takeAct 85 = .ok (.iconst 1, 1) := by decide +kernel
theorem dX2_takeAct_86 : decode cX2_takeAct 86 = .ok (.iadd, 1) := by decide +kernel
theorem dX2_takeAct_87 : decode cX2_takeAct 87 = .ok (.putfield 34, 3) := by decide +kernel
theorem dX2_takeAct_90 : decode cX2_takeAct 90 = .ok (.aload_n 0, 1) := by decide +kernel
theorem dX2_takeAct_91 : decode cX2_takeAct 91 = .ok (.iconst 0, 1) := by decide +kernel
theorem dX2_takeAct_92 : decode cX2_takeAct 92 = .ok (.putfield 37, 3) := by decide +kernel
theorem dX2_takeAct_95 : decode cX2_takeAct 95 = .ok (.goto 8, 3) := by decide +kernel
theorem dX2_takeAct_98 : decode cX2_takeAct 98 = .ok (.aload_n 0, 1) := by decide +kernel
theorem dX2_takeAct_99 : decode cX2_takeAct 99 = .ok (.iconst 1, 1) := by decide +kernel
theorem dX2_takeAct_100 : decode cX2_takeAct 100 = .ok (.invokevirtual 92, 3) := by decide +kernel
theorem dX2_takeAct_103 : decode cX2_takeAct 103 = .ok (.return_, 1) := by decide +kernel
set_option maxRecDepth 20000 in
theorem ggX2_beginAct_X2_fail : GoodIn wsX2_beginAct wsX2_fail := goodIn_r _ [8, 9, 10, 11, 12, 20, 21, 22, 23, 24, 25, 26, 27, 28, 29, 35, 36, 37, 38, 39, 40, 41] (by decide +kernel) (by decide +kernel)
set_option maxRecDepth 20000 in
theorem gX2_beginAct_X2_fail : GoodIn wsX2_beginAct (wsV RX2 92 RX2 yX2_fail wsX2_fail) := goodIn_app (goodIn_of _ (by decide +kernel)) ggX2_beginAct_X2_fail
set_option maxRecDepth 20000 in
theorem ggX2_beginAct_X6_add : GoodIn wsX2_beginAct wsX6_add := goodIn_r _ [17, 18, 19, 30, 31, 32, 33, 34] (by decide +kernel) (by decide +kernel)
set_option maxRecDepth 20000 in
theorem gX2_beginAct_X6_add : GoodIn wsX2_beginAct (wsV RX2 113 RX6 yX6_add wsX6_add) := goodIn_app (goodIn_of _ (by decide +kernel)) ggX2_beginAct_X6_add
theorem dX2_beginAct_0 : decode cX2_beginAct 0 = .ok (.aload_n 0, 1) := by decide +kernel
theorem dX2_beginAct_1 : decode cX2_beginAct 1 = .ok (.getfield 48, 3) := by decide +kernel
theorem dX2_beginAct_4 : decode cX2_beginAct 4 = .ok (.getfield 112, 3) := by decide +kernel
theorem dX2_beginAct_7 : decode cX2_beginAct 7 = .ok (.bipush 30, 2) := by decide +kernel
theorem dX2_beginAct_9 : decode cX2_beginAct 9 = .ok (.if_icmp .lt 11, 3) := by decide +kernel
theorem dX2_beginAct_12 : decode cX2_beginAct 12 = .ok (.aload_n 0, 1) := by decide +kernel
theorem dX2_beginAct_13 : decode cX2_beginAct 13 = .ok (.iconst 4, 1) := by decide +kernel
theorem dX2_beginAct_14 : decode cX2_beginAct 14 = .ok (.invokevirtual 92, 3) := by decide +kernel
theorem dX2_beginAct_17 : decode cX2_beginAct 17 = .ok (.goto 16, 3) := by decide +kernel
theorem dX2_beginAct_20 : decode cX2_beginAct 20 = .ok (.aload_n 0, 1) := by decide +kernel
theorem dX2_beginAct_21 : decode cX2_beginAct 21 = .ok (.getfield 48, 3) := by decide +kernel
theorem dX2_beginAct_24 : decode cX2_beginAct 24 = .ok (.iload_n 1, 1) := by decide +kernel
theorem dX2_beginAct_25 : decode cX2_beginAct 25 = .ok (.invokevirtual 113, 3) := by decide +kernel
theorem dX2_beginAct_28 : decode cX2_beginAct 28 = .ok (.aload_n 0, 1) := by decide +kernel
theorem dX2_beginAct_29 : decode cX2_beginAct 29 = .ok (.iconst 4, 1) := by decide +kernel
theorem dX2_beginAct_30 : decode cX2_beginAct 30 = .ok (.putfield 37, 3) := by decide +kernel
theorem dX2_beginAct_33 : decode cX2_beginAct 33 = .ok (.return_, 1) := by decide +kernel
set_option maxRecDepth 20000 in
theorem ggX2_takeFirst_X2_canStand : GoodIn wsX2_takeFirst wsX2_canStand := goodIn_r _ [12, 5, 6, 13, 14, 15, 16, 11, 17, 18, 19, 20, 21, 22, 23, 24, 25, 26, 27, 28, 29, 35, 36, 37, 38, 39, 40, 41] (by decide +kernel) (by decide +kernel)
set_option maxRecDepth 20000 in
theorem gX2_takeFirst_X2_canStand : GoodIn wsX2_takeFirst (wsV RX2 125 RX2 yX2_canStand wsX2_canStand) := goodIn_app (goodIn_of _ (by decide +kernel)) ggX2_takeFirst_X2_canStand
theorem dX2_takeFirst_0 : decode cX2_takeFirst 0 = .ok (.aload_n 0, 1) := by decide +kernel
theorem dX2_takeFirst_1 : decode cX2_takeFirst 1 = .ok (.getfield 48, 3) := by decide +kernel
theorem dX2_takeFirst_4 : decode cX2_takeFirst 4 = .ok (.getfield 112, 3) := by decide +kernel
theorem dX2_takeFirst_7 : decode cX2_takeFirst 7 = .ok (.iconst 1, 1) := by decide +kernel
theorem dX2_takeFirst_8 : decode cX2_takeFirst 8 = .ok (.isub, 1) := by decide +kernel
theorem dX2_takeFirst_9 : decode cX2_takeFirst 9 = .ok (.istore_n 2, 1) := by decide +kernel
theorem dX2_takeFirst_10 : decode cX2_takeFirst 10 = .ok (.aload_n 0, 1) := by decide +kernel
theorem dX2_takeFirst_11 : decode cX2_takeFirst 11 = .ok (.getfield 48, 3) := by decide +kernel
theorem dX2_takeFirst_14 : decode cX2_takeFirst 14 = .ok (.getfield 116, 3) := by decide +kernel
theorem dX2_takeFirst_17 : decode cX2_takeFirst 17 = .ok (.iload_n 2, 1) := by decide +kernel
theorem dX2_takeFirst_18 : decode cX2_takeFirst 18 = .ok (.iaload, 1) := by decide +kernel
theorem dX2_takeFirst_19 : decode cX2_takeFirst 19 = .ok (.istore_n 3, 1) := by decide +kernel
theorem dX2_takeFirst_20 : decode cX2_takeFirst 20 = .ok (.aload_n 0, 1) := by decide +kernel
theorem dX2_takeFirst_21 : decode cX2_takeFirst 21 = .ok (.iload_n 1, 1) := by decide +kernel
theorem dX2_takeFirst_22 : decode cX2_takeFirst 22 = .ok (.getstatic 119, 3) := by decide +kernel
theorem dX2_takeFirst_25 : decode cX2_takeFirst 25 = .ok (.iload_n 3, 1) := by decide +kernel
theorem dX2_takeFirst_26 : decode cX2_takeFirst 26 = .ok (.iaload, 1) := by decide +kernel
theorem dX2_takeFirst_27 : decode cX2_takeFirst 27 = .ok (.getstatic 122, 3) := by decide +kernel
theorem dX2_takeFirst_30 : decode cX2_takeFirst 30 = .ok (.iload_n 3, 1) := by decide +kernel
theorem dX2_takeFirst_31 : decode cX2_takeFirst 31 = .ok (.iaload, 1) := by decide +kernel
theorem dX2_takeFirst_32 : decode cX2_takeFirst 32 = .ok (.invokevirtual 125, 3) := by decide +kernel
theorem dX2_takeFirst_35 : decode cX2_takeFirst 35 = .ok (.ifCond .ne 4, 3) := by decide +kernel
theorem dX2_takeFirst_38 : decode cX2_takeFirst 38 = .ok (.return_, 1) := by decide +kernel
theorem dX2_takeFirst_39 : decode cX2_takeFirst 39 = .ok (.aload_n 0, 1) := by decide +kernel
theorem dX2_takeFirst_40 : decode cX2_takeFirst 40 = .ok (.getfield 48, 3) := by decide +kernel
theorem dX2_takeFirst_43 : decode cX2_takeFirst 43 = .ok (.getfield 129, 3) := by decide +kernel
theorem dX2_takeFirst_46 : decode cX2_takeFirst 46 = .ok (.iload_n 2, 1) := by decide +kernel
theorem dX2_takeFirst_47 : decode cX2_takeFirst 47 = .ok (.aload_n 0, 1) := by decide +kernel
theorem dX2_takeFirst_48 : decode cX2_takeFirst 48 = .ok (.getfield 12, 3) := by decide +kernel
theorem dX2_takeFirst_51 : decode cX2_takeFirst 51 = .ok (.getfield 132, 3) := by decide +kernel
theorem dX2_takeFirst_54 : decode cX2_takeFirst 54 = .ok (.iastore, 1) := by decide +kernel
theorem dX2_takeFirst_55 : decode cX2_takeFirst 55 = .ok (.iload_n 3, 1) := by decide +kernel
theorem dX2_takeFirst_56 : decode cX2_takeFirst 56 = .ok (.lookupswitch 45 #[(1, 28), (4, 36)], 28) := by decide +kernel
theorem dX2_takeFirst_84 : decode cX2_takeFirst 84 = .ok (.aload_n 0, 1) := by decide +kernel
theorem dX2_takeFirst_85 : decode cX2_takeFirst 85 = .ok (.iconst 5, 1) := by decide +kernel
theorem dX2_takeFirst_86 : decode cX2_takeFirst 86 = .ok (.putfield 37, 3) := by decide +kernel
theorem dX2_takeFirst_89 : decode cX2_takeFirst 89 = .ok (.goto 17, 3) := by decide +kernel
theorem dX2_takeFirst_92 : decode cX2_takeFirst 92 = .ok (.aload_n 0, 1) := by decide +kernel
theorem dX2_takeFirst_93 : decode cX2_takeFirst 93 = .ok (.bipush 6, 2) := by decide +kernel
theorem dX2_takeFirst_95 : decode cX2_takeFirst 95 = .ok (.putfield 37, 3) := by decide +kernel
theorem dX2_takeFirst_98 : decode cX2_takeFirst 98 = .ok (.goto 8, 3) := by decide +kernel
theorem dX2_takeFirst_101 : decode cX2_takeFirst 101 = .ok (.aload_n 0, 1) := by decide +kernel
theorem dX2_takeFirst_102 : decode cX2_takeFirst 102 = .ok (.iconst 3, 1) := by decide +kernel
theorem dX2_takeFirst_103 : decode cX2_takeFirst 103 = .ok (.putfield 37, 3) := by decide +kernel
theorem dX2_takeFirst_106 : decode cX2_takeFirst 106 = .ok (.return_, 1) := by decide +kernel
set_option maxRecDepth 20000 in
theorem ggX2_takeSecond_X2_canStand : GoodIn wsX2_takeSecond wsX2_canStand := goodIn_r _ [11, 4, 5, 12, 13, 14, 15, 10, 16, 17, 18, 19, 20, 21, 22, 23, 24, 25, 26, 27, 28, 34, 35, 36, 37, 38, 39, 40] (by decide +kernel) (by decide +kernel)
set_option maxRecDepth 20000 in
theorem gX2_takeSecond_X2_canStand : GoodIn wsX2_takeSecond (wsV RX2 125 RX2 yX2_canStand wsX2_canStand) := goodIn_app (goodIn_of _ (by decide +kernel)) ggX2_takeSecond_X2_canStand
theorem dX2_takeSecond_0 : decode cX2_takeSecond 0 = .ok (.aload_n 0, 1) := by decide +kernel
theorem dX2_takeSecond_1 : decode cX2_takeSecond 1 = .ok (.iload_n 1, 1) := by decide +kernel
theorem dX2_takeSecond_2 : decode cX2_takeSecond 2 = .ok (.iconst 1, 1) := by decide +kernel
theorem dX2_takeSecond_3 : decode cX2_takeSecond 3 = .ok (.bipush 16, 2) := by decide +kernel
theorem dX2_takeSecond_5 : decode cX2_takeSecond 5 = .ok (.invokevirtual 125, 3) := by decide +kernel
theorem dX2_takeSecond_8 : decode cX2_takeSecond 8 = .ok (.ifCond .eq 32, 3) := by decide +kernel
theorem dX2_takeSecond_11 : decode cX2_takeSecond 11 = .ok (.aload_n 0, 1) := by decide +kernel
theorem dX2_takeSecond_12 : decode cX2_takeSecond 12 = .ok (.getfield 48, 3) := by decide +kernel
theorem dX2_takeSecond_15 : decode cX2_takeSecond 15 = .ok (.getfield 109, 3) := by decide +kernel
theorem dX2_takeSecond_18 : decode cX2_takeSecond 18 = .ok (.aload_n 0, 1) := by decide +kernel
theorem dX2_takeSecond_19 : decode cX2_takeSecond 19 = .ok (.getfield 48, 3) := by decide +kernel
theorem dX2_takeSecond_22 : decode cX2_takeSecond 22 = .ok (.getfield 112, 3) := by decide +kernel
theorem dX2_takeSecond_25 : decode cX2_takeSecond 25 = .ok (.iconst 1, 1) := by decide +kernel
theorem dX2_takeSecond_26 : decode cX2_takeSecond 26 = .ok (.isub, 1) := by decide +kernel
theorem dX2_takeSecond_27 : decode cX2_takeSecond 27 = .ok (.aload_n 0, 1) := by decide +kernel
theorem dX2_takeSecond_28 : decode cX2_takeSecond 28 = .ok (.getfield 12, 3) := by decide +kernel
theorem dX2_takeSecond_31 : decode cX2_takeSecond 31 = .ok (.getfield 132, 3) := by decide +kernel
theorem dX2_takeSecond_34 : decode cX2_takeSecond 34 = .ok (.iastore, 1) := by decide +kernel
theorem dX2_takeSecond_35 : decode cX2_takeSecond 35 = .ok (.aload_n 0, 1) := by decide +kernel
theorem dX2_takeSecond_36 : decode cX2_takeSecond 36 = .ok (.iconst 3, 1) := by decide +kernel
theorem dX2_takeSecond_37 : decode cX2_takeSecond 37 = .ok (.putfield 37, 3) := by decide +kernel
theorem dX2_takeSecond_40 : decode cX2_takeSecond 40 = .ok (.return_, 1) := by decide +kernel
set_option maxRecDepth 20000 in
theorem ggX2_canStand_X2_fail : GoodIn wsX2_canStand wsX2_fail := goodIn_r _ [8, 3, 1, 9, 10, 11, 12, 13, 14, 15, 16, 17, 18, 19, 20, 21, 22, 23, 24, 25, 26, 27] (by decide +kernel) (by decide +kernel)
set_option maxRecDepth 20000 in
theorem gX2_canStand_X2_fail : GoodIn wsX2_canStand (wsV RX2 92 RX2 yX2_fail wsX2_fail) := goodIn_app (goodIn_of _ (by decide +kernel)) ggX2_canStand_X2_fail
theorem dX2_canStand_0 : decode cX2_canStand 0 = .ok (.iload_n 1, 1) := by decide +kernel
theorem dX2_canStand_1 : decode cX2_canStand 1 = .ok (.bipush 7, 2) := by decide +kernel
theorem dX2_canStand_3 : decode cX2_canStand 3 = .ok (.if_icmp .eq 11, 3) := by decide +kernel
theorem dX2_canStand_6 : decode cX2_canStand 6 = .ok (.aload_n 0, 1) := by decide +kernel
theorem dX2_canStand_7 : decode cX2_canStand 7 = .ok (.iconst 1, 1) := by decide +kernel
theorem dX2_canStand_8 : decode cX2_canStand 8 = .ok (.invokevirtual 92, 3) := by decide +kernel
theorem dX2_canStand_11 : decode cX2_canStand 11 = .ok (.goto 30, 3) := by decide +kernel
theorem dX2_canStand_14 : decode cX2_canStand 14 = .ok (.aload_n 0, 1) := by decide +kernel
theorem dX2_canStand_15 : decode cX2_canStand 15 = .ok (.getfield 12, 3) := by decide +kernel
theorem dX2_canStand_18 : decode cX2_canStand 18 = .ok (.getfield 132, 3) := by decide +kernel
theorem dX2_canStand_21 : decode cX2_canStand 21 = .ok (.iload_n 2, 1) := by decide +kernel
theorem dX2_canStand_22 : decode cX2_canStand 22 = .ok (.if_icmp .lt 14, 3) := by decide +kernel
theorem dX2_canStand_25 : decode cX2_canStand 25 = .ok (.aload_n 0, 1) := by decide +kernel
theorem dX2_canStand_26 : decode cX2_canStand 26 = .ok (.getfield 12, 3) := by decide +kernel
theorem dX2_canStand_29 : decode cX2_canStand 29 = .ok (.getfield 132, 3) := by decide +kernel
theorem dX2_canStand_32 : decode cX2_canStand 32 = .ok (.iload_n 3, 1) := by decide +kernel
theorem dX2_canStand_33 : decode cX2_canStand 33 = .ok (.if_icmp .le 8, 3) := by decide +kernel
theorem dX2_canStand_36 : decode cX2_canStand 36 = .ok (.aload_n 0, 1) := by decide +kernel
theorem dX2_canStand_37 : decode cX2_canStand 37 = .ok (.iconst 3, 1) := by decide +kernel
theorem dX2_canStand_38 : decode cX2_canStand 38 = .ok (.invokevirtual 92, 3) := by decide +kernel
theorem dX2_canStand_41 : decode cX2_canStand 41 = .ok (.aload_n 0, 1) := by decide +kernel
theorem dX2_canStand_42 : decode cX2_canStand 42 = .ok (.getfield 28, 3) := by decide +kernel
theorem dX2_canStand_45 : decode cX2_canStand 45 = .ok (.ifCond .ne 7, 3) := by decide +kernel
theorem dX2_canStand_48 : decode cX2_canStand 48 = .ok (.iconst 1, 1) := by decide +kernel
theorem dX2_canStand_49 : decode cX2_canStand 49 = .ok (.goto 4, 3) := by decide +kernel
theorem dX2_canStand_52 : decode cX2_canStand 52 = .ok (.iconst 0, 1) := by decide +kernel
theorem dX2_canStand_53 : decode cX2_canStand 53 = .ok (.ireturn, 1) := by decide +kernel
set_option maxRecDepth 20000 in
theorem ggX2_takeBracket_X2_fail : GoodIn wsX2_takeBracket wsX2_fail := goodIn_r _ [10, 11, 12, 13, 14, 15, 16, 17, 18, 19, 20, 21, 22, 23, 24, 30, 31, 32, 33, 34, 35, 36] (by decide +kernel) (by decide +kernel)
set_option maxRecDepth 20000 in
theorem gX2_takeBracket_X2_fail : GoodIn wsX2_takeBracket (wsV RX2 92 RX2 yX2_fail wsX2_fail) := goodIn_app (goodIn_of _ (by decide +kernel)) ggX2_takeBracket_X2_fail
theorem dX2_takeBracket_0 : decode cX2_takeBracket 0 = .ok (.iload_n 1, 1) := by decide +kernel
theorem dX2_takeBracket_1 : decode cX2_takeBracket 1 = .ok (.bipush 10, 2) := by decide +kernel
theorem dX2_takeBracket_3 : decode cX2_takeBracket 3 = .ok (.if_icmp .eq 11, 3) := by decide +kernel
theorem dX2_takeBracket_6 : decode cX2_takeBracket 6 = .ok (.aload_n 0, 1) := by decide +kernel
theorem dX2_takeBracket_7 : decode cX2_takeBracket 7 = .ok (.iconst 1, 1) := by decide +kernel
theorem dX2_takeBracket_8 : decode cX2_takeBracket 8 = .ok (.invokevirtual 92, 3) := by decide +kernel
theorem dX2_takeBracket_11 : decode cX2_takeBracket 11 = .ok (.goto 52, 3) := by decide +kernel
theorem dX2_takeBracket_14 : decode cX2_takeBracket 14 = .ok (.aload_n 0, 1) := by decide +kernel
theorem dX2_takeBracket_15 : decode cX2_takeBracket 15 = .ok (.getfield 40, 3) := by decide +kernel
theorem dX2_takeBracket_18 : decode cX2_takeBracket 18 = .ok (.iconst 5, 1) := by decide +kernel
theorem dX2_takeBracket_19 : decode cX2_takeBracket 19 = .ok (.if_icmp .lt 11, 3) := by decide +kernel
theorem dX2_takeBracket_22 : decode cX2_takeBracket 22 = .ok (.aload_n 0, 1) := by decide +kernel
theorem dX2_takeBracket_23 : decode cX2_takeBracket 23 = .ok (.iconst 4, 1) := by decide +kernel
theorem dX2_takeBracket_24 : decode cX2_takeBracket 24 = .ok (.invokevirtual 92, 3) := by decide +kernel
theorem dX2_takeBracket_27 : decode cX2_takeBracket 27 = .ok (.goto 36, 3) := by decide +kernel
theorem dX2_takeBracket_30 : decode cX2_takeBracket 30 = .ok (.aload_n 0, 1) := by decide +kernel
theorem dX2_takeBracket_31 : decode cX2_takeBracket 31 = .ok (.getfield 43, 3) := by decide +kernel
theorem dX2_takeBracket_34 : decode cX2_takeBracket 34 = .ok (.aload_n 0, 1) := by decide +kernel
theorem dX2_takeBracket_35 : decode cX2_takeBracket 35 = .ok (.getfield 40, 3) := by decide +kernel
theorem dX2_takeBracket_38 : decode cX2_takeBracket 38 = .ok (.aload_n 0, 1) := by decide +kernel
theorem dX2_takeBracket_39 : decode cX2_takeBracket 39 = .ok (.getfield 48, 3) := by decide +kernel
theorem dX2_takeBracket_42 : decode cX2_takeBracket 42 = .ok (.getfield 112, 3) := by decide +kernel
theorem dX2_takeBracket_45 : decode cX2_takeBracket 45 = .ok (.iconst 1, 1) := by decide +kernel
theorem dX2_takeBracket_46 : decode cX2_takeBracket 46 = .ok (.isub, 1) := by decide +kernel
theorem dX2_takeBracket_47 : decode cX2_takeBracket 47 = .ok (.iastore, 1) := by decide +kernel
theorem dX2_takeBracket_48 : decode cX2_takeBracket 48 = .ok (.aload_n 0, 1) := by decide +kernel
theorem dX2_takeBracket_49 : decode cX2_takeBracket 49 = .ok (.dup, 1) := by decide +kernel
theorem dX2_takeBracket_50 : decode cX2_takeBracket 50 = .ok (.getfield 40, 3) := by decide +kernel
theorem dX2_takeBracket_53 : decode cX2_takeBracket 53 = .ok (.iconst 1, 1) := by decide +kernel
theorem dX2_takeBracket_54 : decode cX2_takeBracket 54 = .ok (.iadd, 1) := by decide +kernel
theorem dX2_takeBracket_55 : decode cX2_takeBracket 55 = .ok (.putfield 40, 3) := by decide +kernel
theorem dX2_takeBracket_58 : decode cX2_takeBracket 58 = .ok (.aload_n 0, 1) := by decide +kernel
theorem dX2_takeBracket_59 : decode cX2_takeBracket 59 = .ok (.iconst 3, 1) := by decide +kernel
theorem dX2_takeBracket_60 : decode cX2_takeBracket 60 = .ok (.putfield 37, 3) := by decide +kernel
theorem dX2_takeBracket_63 : decode cX2_takeBracket 63 = .ok (.return_, 1) := by decide +kernel
set_option maxRecDepth 20000 in
theorem ggX3_init_X5_init : GoodIn wsX3_init wsX5_init := goodIn_r _ [14, 15, 2, 3, 16, 17, 18, 19, 20, 21, 7, 22, 23, 24, 25, 29, 30, 31, 32, 33, 34, 35, 36, 37, 38] (by decide +kernel) (by decide +kernel)
set_option maxRecDepth 20000 in
theorem gX3_init_X5_init_n26 : GoodIn wsX3_init (wsX5_init) := ggX3_init_X5_init
theorem dX3_init_0 : decode cX3_init 0 = .ok (.aload_n 0, 1) := by decide +kernel
theorem dX3_init_1 : decode cX3_init 1 = .ok (.invokespecial 3, 3) := by decide +kernel
theorem dX3_init_4 : decode cX3_init 4 = .ok (.aload_n 0, 1) := by decide +kernel
theorem dX3_init_5 : decode cX3_init 5 = .ok (.bipush 8, 2) := by decide +kernel
theorem dX3_init_7 : decode cX3_init 7 = .ok (.anewarray 9, 3) := by decide +kernel
theorem dX3_init_10 : decode cX3_init 10 = .ok (.putfield 11, 3) := by decide +kernel
theorem dX3_init_13 : decode cX3_init 13 = .ok (.aload_n 0, 1) := by decide +kernel
theorem dX3_init_14 : decode cX3_init 14 = .ok (.iconst 4, 1) := by decide +kernel
theorem dX3_init_15 : decode cX3_init 15 = .ok (.bipush 48, 2) := by decide +kernel
theorem dX3_init_17 : decode cX3_init 17 = .ok (.multianewarray 17 2, 4) := by decide +kernel
theorem dX3_init_21 : decode cX3_init 21 = .ok (.putfield 19, 3) := by decide +kernel
theorem dX3_init_24 : decode cX3_init 24 = .ok (.aload_n 0, 1) := by decide +kernel
theorem dX3_init_25 : decode cX3_init 25 = .ok (.bipush 6, 2) := by decide +kernel
theorem dX3_init_27 : decode cX3_init 27 = .ok (.newarray .long, 2) := by decide +kernel
theorem dX3_init_29 : decode cX3_init 29 = .ok (.putfield 22, 3) := by decide +kernel
theorem dX3_init_32 : decode cX3_init 32 = .ok (.iconst 0, 1) := by decide +kernel
theorem dX3_init_33 : decode cX3_init 33 = .ok (.istore_n 1, 1) := by decide +kernel
theorem dX3_init_34 : decode cX3_init 34 = .ok (.iload_n 1, 1) := by decide +kernel
theorem dX3_init_35 : decode cX3_init 35 = .ok (.bipush 8, 2) := by decide +kernel
theorem dX3_init_37 : decode cX3_init 37 = .ok (.if_icmp .ge 22, 3) := by decide +kernel
theorem dX3_init_40 : decode cX3_init 40 = .ok (.aload_n 0, 1) := by decide +kernel
theorem dX3_init_41 : decode cX3_init 41 = .ok (.getfield 11, 3) := by decide +kernel
theorem dX3_init_44 : decode cX3_init 44 = .ok (.iload_n 1, 1) := by decide +kernel
theorem dX3_init_45 : decode cX3_init 45 = .ok (.new 9, 3) := by decide +kernel
theorem dX3_init_48 : decode cX3_init 48 = .ok (.dup, 1) := by decide +kernel
theorem dX3_init_49 : decode cX3_init 49 = .ok (.invokespecial 26, 3) := by decide +kernel
theorem dX3_init_52 : decode cX3_init 52 = .ok (.aastore, 1) := by decide +kernel
theorem dX3_init_53 : decode cX3_init 53 = .ok (.iinc 1 1, 3) := by decide +kernel
theorem dX3_init_56 : decode cX3_init 56 = .ok (.goto (-22), 3) := by decide +kernel
theorem dX3_init_59 : decode cX3_init 59 = .ok (.return_, 1) := by decide +kernel
set_option maxRecDepth 20000 in
theorem ggX3_layOutByRank_X3_clear : GoodIn wsX3_layOutByRank wsX3_clear := goodIn_r _ [8, 9, 10, 11, 12, 13, 14, 15, 16, 17, 118, 119, 120] (by decide +kernel) (by decide +kernel)
set_option maxRecDepth 20000 in
theorem gX3_layOutByRank_X3_clear : GoodIn wsX3_layOutByRank (wsV RX3 27 RX3 yX3_clear wsX3_clear) := goodIn_app (goodIn_of _ (by decide +kernel)) ggX3_layOutByRank_X3_clear
set_option maxRecDepth 20000 in
theorem ggX3_layOutByRank_X9_isThere : GoodIn wsX3_layOutByRank wsX9_isThere := goodIn_r _ [22, 23, 24, 25, 26, 27, 28, 29, 103, 104, 105, 106, 107, 108, 109, 110, 111, 112, 113, 114, 115, 116, 117] (by decide +kernel) (by decide +kernel)
set_option maxRecDepth 20000 in
theorem gX3_layOutByRank_X9_isThere : GoodIn wsX3_layOutByRank (wsV RX3 45 RX9 yX9_isThere wsX9_isThere) := goodIn_app (goodIn_of _ (by decide +kernel)) ggX3_layOutByRank_X9_isThere
set_option maxRecDepth 20000 in
theorem ggX3_layOutByRank_X3_addGuest : GoodIn wsX3_layOutByRank wsX3_addGuest := goodIn_r _ [33, 2, 34, 35, 36, 37, 38, 39, 40, 41, 42, 43, 44, 45, 46, 47, 48, 49, 50, 51, 52, 53, 54, 55, 56, 7, 57, 58, 59, 60, 61, 62, 63, 64, 65, 66, 67, 68, 69, 70, 71, 72, 73, 74, 75, 76, 9, 77, 78, 79, 80, 81, 82, 83, 84, 85, 86, 87, 88, 89, 90, 10, 91, 92, 93, 94, 95, 96, 97, 98, 99, 100, 101, 102, 103, 104, 105, 106, 107, 108, 121, 122, 123, 124, 125, 126, 127, 128, 129, 130, 109, 110, 111, 112, 113, 114, 115, 116, 117, 118, 119, 120, 131, 132, 133, 134, 135, 136, 137, 138, 139, 140, 141, 142, 143, 144, 145, 146, 147, 148, 149, 150, 151, 152, 153, 154, 155, 156] (by decide +kernel) (by decide +kernel)
set_option maxRecDepth 20000 in
theorem gX3_layOutByRank_X3_addGuest : GoodIn wsX3_layOutByRank (wsV RX3 49 RX3 yX3_addGuest wsX3_addGuest) := goodIn_app (goodIn_of _ (by decide +kernel)) ggX3_layOutByRank_X3_addGuest
theorem dX3_layOutByRank_0 : decode cX3_layOutByRank 0 = .ok (.aload_n 0, 1) := by decide +kernel
theorem dX3_layOutByRank_1 : decode cX3_layOutByRank 1 = .ok (.invokevirtual 27, 3) := by decide +kernel
theorem dX3_layOutByRank_4 : decode cX3_layOutByRank 4 = .ok (.iconst 0, 1) := by decide +kernel
theorem dX3_layOutByRank_5 : decode cX3_layOutByRank 5 = .ok (.istore_n 3, 1) := by decide +kernel
theorem dX3_layOutByRank_6 : decode cX3_layOutByRank 6 = .ok (.iload_n 3, 1) := by decide +kernel
theorem dX3_layOutByRank_7 : decode cX3_layOutByRank 7 = .ok (.iconst 4, 1) := by decide +kernel
theorem dX3_layOutByRank_8 : decode cX3_layOutByRank 8 = .ok (.if_icmp .ge 59, 3) := by decide +kernel
theorem dX3_layOutByRank_11 : decode cX3_layOutByRank 11 = .ok (.iconst 0, 1) := by decide +kernel
theorem dX3_layOutByRank_12 : decode cX3_layOutByRank 12 = .ok (.istore 4, 2) := by decide +kernel
theorem dX3_layOutByRank_14 : decode cX3_layOutByRank 14 = .ok (.iload 4, 2) := by decide +kernel
theorem dX3_layOutByRank_16 : decode cX3_layOutByRank 16 = .ok (.aload_n 1, 1) := by decide +kernel
theorem dX3_layOutByRank_17 : decode cX3_layOutByRank 17 = .ok (.getfield 30, 3) := by decide +kernel
theorem dX3_layOutByRank_20 : decode cX3_layOutByRank 20 = .ok (.if_icmp .ge 41, 3) := by decide +kernel
theorem dX3_layOutByRank_23 : decode cX3_layOutByRank 23 = .ok (.aload_n 1, 1) := by decide +kernel
theorem dX3_layOutByRank_24 : decode cX3_layOutByRank 24 = .ok (.getfield 36, 3) := by decide +kernel
theorem dX3_layOutByRank_27 : decode cX3_layOutByRank 27 = .ok (.iload 4, 2) := by decide +kernel
theorem dX3_layOutByRank_29 : decode cX3_layOutByRank 29 = .ok (.aaload, 1) := by decide +kernel
theorem dX3_layOutByRank_30 : decode cX3_layOutByRank 30 = .ok (.getfield 40, 3) := by decide +kernel
theorem dX3_layOutByRank_33 : decode cX3_layOutByRank 33 = .ok (.iload_n 3, 1) := by decide +kernel
theorem dX3_layOutByRank_34 : decode cX3_layOutByRank 34 = .ok (.if_icmp .ne 21, 3) := by decide +kernel
theorem dX3_layOutByRank_37 : decode cX3_layOutByRank 37 = .ok (.aload_n 1, 1) := by decide +kernel
theorem dX3_layOutByRank_38 : decode cX3_layOutByRank 38 = .ok (.iload 4, 2) := by decide +kernel
theorem dX3_layOutByRank_40 : decode cX3_layOutByRank 40 = .ok (.iload_n 2, 1) := by decide +kernel
theorem dX3_layOutByRank_41 : decode cX3_layOutByRank 41 = .ok (.invokevirtual 45, 3) := by decide +kernel
theorem dX3_layOutByRank_44 : decode cX3_layOutByRank 44 = .ok (.ifCond .eq 11, 3) := by decide +kernel
theorem dX3_layOutByRank_47 : decode cX3_layOutByRank 47 = .ok (.aload_n 0, 1) := by decide +kernel
theorem dX3_layOutByRank_48 : decode cX3_layOutByRank 48 = .ok (.aload_n 1, 1) := by decide +kernel
theorem dX3_layOutByRank_49 : decode cX3_layOutByRank 49 = .ok (.iload 4, 2) := by decide +kernel
theorem dX3_layOutByRank_51 : decode cX3_layOutByRank 51 = .ok (.iload_n 2, 1) := by decide +kernel
theorem dX3_layOutByRank_52 : decode cX3_layOutByRank 52 = .ok (.invokevirtual 49, 3) := by decide +kernel
theorem dX3_layOutByRank_55 : decode cX3_layOutByRank 55 = .ok (.iinc 4 1, 3) := by decide +kernel
theorem dX3_layOutByRank_58 : decode cX3_layOutByRank 58 = .ok (.goto (-44), 3) := by decide +kernel
theorem dX3_layOutByRank_61 : decode cX3_layOutByRank 61 = .ok (.iinc 3 1, 3) := by decide +kernel
theorem dX3_layOutByRank_64 : decode cX3_layOutByRank 64 = .ok (.goto (-58), 3) := by decide +kernel
theorem dX3_layOutByRank_67 : decode cX3_layOutByRank 67 = .ok (.return_, 1) := by decide +kernel
set_option maxRecDepth 20000 in
theorem ggX3_clear_J7_fill_53178 : GoodIn wsX3_clear wsJ7_fill_53178 := goodIn_r _ [6] (by decide +kernel) (by decide +kernel)
set_option maxRecDepth 20000 in
theorem gX3_clear_J7_fill_53178 : GoodIn wsX3_clear (va_wsS RX3 53 yJ7_fill_53178 wsJ7_fill_53178) := goodIn_app (goodIn_of _ (by decide +kernel)) ggX3_clear_J7_fill_53178
set_option maxRecDepth 20000 in
theorem ggX3_clear_J7_fill_d0a16 : GoodIn wsX3_clear wsJ7_fill_d0a16 := goodIn_r _ [9] (by decide +kernel) (by decide +kernel)
set_option maxRecDepth 20000 in
theorem gX3_clear_J7_fill_d0a16 : GoodIn wsX3_clear (va_wsS RX3 59 yJ7_fill_d0a16 wsJ7_fill_d0a16) := goodIn_app (goodIn_of _ (by decide +kernel)) ggX3_clear_J7_fill_d0a16
theorem dX3_clear_0 : decode cX3_clear 0 = .ok (.iconst 0, 1) := by decide +kernel
theorem dX3_clear_1 : decode cX3_clear 1 = .ok (.istore_n 1, 1) := by decide +kernel
theorem dX3_clear_2 : decode cX3_clear 2 = .ok (.iload_n 1, 1) := by decide +kernel
theorem dX3_clear_3 : decode cX3_clear 3 = .ok (.iconst 4, 1) := by decide +kernel
theorem dX3_clear_4 : decode cX3_clear 4 = .ok (.if_icmp .ge 19, 3) := by decide +kernel
theorem dX3_clear_7 : decode cX3_clear 7 = .ok (.aload_n 0, 1) := by decide +kernel
theorem dX3_clear_8 : decode cX3_clear 8 = .ok (.getfield 19, 3) := by decide +kernel
theorem dX3_clear_11 : decode cX3_clear 11 = .ok (.iload_n 1, 1) := by decide +kernel
theorem dX3_clear_12 : decode cX3_clear 12 = .ok (.aaload, 1) := by decide +kernel
theorem dX3_clear_13 : decode cX3_clear 13 = .ok (.iconst 0, 1) := by decide +kernel
theorem dX3_clear_14 : decode cX3_clear 14 = .ok (.invokestatic 53, 3) := by decide +kernel
theorem dX3_clear_17 : decode cX3_clear 17 = .ok (.iinc 1 1, 3) := by decide +kernel
theorem dX3_clear_20 : decode cX3_clear 20 = .ok (.goto (-18), 3) := by decide +kernel
theorem dX3_clear_23 : decode cX3_clear 23 = .ok (.aload_n 0, 1) := by decide +kernel
theorem dX3_clear_24 : decode cX3_clear 24 = .ok (.getfield 22, 3) := by decide +kernel
theorem dX3_clear_27 : decode cX3_clear 27 = .ok (.lconst 0, 1) := by decide +kernel
theorem dX3_clear_28 : decode cX3_clear 28 = .ok (.invokestatic 59, 3) := by decide +kernel
theorem dX3_clear_31 : decode cX3_clear 31 = .ok (.return_, 1) := by decide +kernel
set_option maxRecDepth 20000 in
theorem ggX3_addGuest_X5_clear : GoodIn wsX3_addGuest wsX5_clear := goodIn_r _ [16, 17, 18, 19, 20, 21, 22, 107, 108, 109, 110, 111, 112, 113, 114, 115, 116] (by decide +kernel) (by decide +kernel)
set_option maxRecDepth 20000 in
theorem gX3_addGuest_X5_clear : GoodIn wsX3_addGuest (wsV RX3 75 RX5 yX5_clear wsX5_clear) := goodIn_app (goodIn_of _ (by decide +kernel)) ggX3_addGuest_X5_clear
set_option maxRecDepth 20000 in
theorem ggX3_addGuest_X3_isMultiple : GoodIn wsX3_addGuest wsX3_isMultiple := goodIn_r _ [26] (by decide +kernel) (by decide +kernel)
set_option maxRecDepth 20000 in
theorem gX3_addGuest_X3_isMultiple : GoodIn wsX3_addGuest (va_wsS RX3 92 yX3_isMultiple wsX3_isMultiple) := goodIn_app (goodIn_of _ (by decide +kernel)) ggX3_addGuest_X3_isMultiple
set_option maxRecDepth 20000 in
theorem ggX3_addGuest_X3_addAct : GoodIn wsX3_addGuest wsX3_addAct := goodIn_r _ [30, 9, 8, 31, 32, 10, 33, 34, 35, 36, 37, 38, 39, 40, 25, 41, 42, 43, 44, 45, 46, 47, 7, 48, 49, 50, 51, 15, 52, 19, 53, 54, 55, 56, 20, 17, 57, 58, 59, 60, 61, 62, 63, 64, 65, 66, 67, 68, 69, 70, 71, 72, 73, 102, 103, 104, 105, 106, 74, 75, 76, 77, 78, 79, 107, 108, 109, 110, 111, 112, 113, 114, 115, 116, 117, 118, 119, 120, 121, 122, 123, 124, 125, 99, 100, 101, 126, 127] (by decide +kernel) (by decide +kernel)
set_option maxRecDepth 20000 in
theorem gX3_addGuest_X3_addAct : GoodIn wsX3_addGuest (wsV RX3 101 RX3 yX3_addAct wsX3_addAct) := goodIn_app (goodIn_of _ (by decide +kernel)) ggX3_addGuest_X3_addAct
theorem dX3_addGuest_0 : decode cX3_addGuest 0 = .ok (.aload_n 1, 1) := by decide +kernel
theorem dX3_addGuest_1 : decode cX3_addGuest 1 = .ok (.getfield 36, 3) := by decide +kernel
theorem dX3_addGuest_4 : decode cX3_addGuest 4 = .ok (.iload_n 2, 1) := by decide +kernel
theorem dX3_addGuest_5 : decode cX3_addGuest 5 = .ok (.aaload, 1) := by decide +kernel
theorem dX3_addGuest_6 : decode cX3_addGuest 6 = .ok (.astore 4, 2) := by decide +kernel
theorem dX3_addGuest_8 : decode cX3_addGuest 8 = .ok (.aload_n 1, 1) := by decide +kernel
theorem dX3_addGuest_9 : decode cX3_addGuest 9 = .ok (.getfield 62, 3) := by decide +kernel
theorem dX3_addGuest_12 : decode cX3_addGuest 12 = .ok (.getfield 66, 3) := by decide +kernel
theorem dX3_addGuest_15 : decode cX3_addGuest 15 = .ok (.aload 4, 2) := by decide +kernel
theorem dX3_addGuest_17 : decode cX3_addGuest 17 = .ok (.getfield 72, 3) := by decide +kernel
theorem dX3_addGuest_20 : decode cX3_addGuest 20 = .ok (.aaload, 1) := by decide +kernel
theorem dX3_addGuest_21 : decode cX3_addGuest 21 = .ok (.astore 5, 2) := by decide +kernel
theorem dX3_addGuest_23 : decode cX3_addGuest 23 = .ok (.aload_n 0, 1) := by decide +kernel
theorem dX3_addGuest_24 : decode cX3_addGuest 24 = .ok (.getfield 11, 3) := by decide +kernel
theorem dX3_addGuest_27 : decode cX3_addGuest 27 = .ok (.iload_n 2, 1) := by decide +kernel
theorem dX3_addGuest_28 : decode cX3_addGuest 28 = .ok (.aaload, 1) := by decide +kernel
theorem dX3_addGuest_29 : decode cX3_addGuest 29 = .ok (.astore 6, 2) := by decide +kernel
theorem dX3_addGuest_31 : decode cX3_addGuest 31 = .ok (.aload 6, 2) := by decide +kernel
theorem dX3_addGuest_33 : decode cX3_addGuest 33 = .ok (.invokevirtual 75, 3) := by decide +kernel
theorem dX3_addGuest_36 : decode cX3_addGuest 36 = .ok (.iconst 0, 1) := by decide +kernel
theorem dX3_addGuest_37 : decode cX3_addGuest 37 = .ok (.istore 7, 2) := by decide +kernel
theorem dX3_addGuest_39 : decode cX3_addGuest 39 = .ok (.iconst 0, 1) := by decide +kernel
theorem dX3_addGuest_40 : decode cX3_addGuest 40 = .ok (.istore 8, 2) := by decide +kernel
theorem dX3_addGuest_42 : decode cX3_addGuest 42 = .ok (.iload 8, 2) := by decide +kernel
theorem dX3_addGuest_44 : decode cX3_addGuest 44 = .ok (.aload 5, 2) := by decide +kernel
theorem dX3_addGuest_46 : decode cX3_addGuest 46 = .ok (.getfield 76, 3) := by decide +kernel
theorem dX3_addGuest_49 : decode cX3_addGuest 49 = .ok (.if_icmp .ge 90, 3) := by decide +kernel
theorem dX3_addGuest_52 : decode cX3_addGuest 52 = .ok (.aload 6, 2) := by decide +kernel
theorem dX3_addGuest_54 : decode cX3_addGuest 54 = .ok (.getfield 81, 3) := by decide +kernel
theorem dX3_addGuest_57 : decode cX3_addGuest 57 = .ok (.ifCond .ne 82, 3) := by decide +kernel
theorem dX3_addGuest_60 : decode cX3_addGuest 60 = .ok (.iload 8, 2) := by decide +kernel
theorem dX3_addGuest_62 : decode cX3_addGuest 62 = .ok (.iload 7, 2) := by decide +kernel
theorem dX3_addGuest_64 : decode cX3_addGuest 64 = .ok (.if_icmp .ge 6, 3) := by decide +kernel
theorem dX3_addGuest_67 : decode cX3_addGuest 67 = .ok (.goto 66, 3) := by decide +kernel
theorem dX3_addGuest_70 : decode cX3_addGuest 70 = .ok (.aload 5, 2) := by decide +kernel
theorem dX3_addGuest_72 : decode cX3_addGuest 72 = .ok (.getfield 85, 3) := by decide +kernel
theorem dX3_addGuest_75 : decode cX3_addGuest 75 = .ok (.iload 8, 2) := by decide +kernel
theorem dX3_addGuest_77 : decode cX3_addGuest 77 = .ok (.iaload, 1) := by decide +kernel
theorem dX3_addGuest_78 : decode cX3_addGuest 78 = .ok (.iconst 4, 1) := by decide +kernel
theorem dX3_addGuest_79 : decode cX3_addGuest 79 = .ok (.if_icmp .ne 38, 3) := by decide +kernel
theorem dX3_addGuest_82 : decode cX3_addGuest 82 = .ok (.iload_n 3, 1) := by decide +kernel
theorem dX3_addGuest_83 : decode cX3_addGuest 83 = .ok (.aload 5, 2) := by decide +kernel
theorem dX3_addGuest_85 : decode cX3_addGuest 85 = .ok (.getfield 89, 3) := by decide +kernel
theorem dX3_addGuest_88 : decode cX3_addGuest 88 = .ok (.iload 8, 2) := by decide +kernel
theorem dX3_addGuest_90 : decode cX3_addGuest 90 = .ok (.iaload, 1) := by decide +kernel
theorem dX3_addGuest_91 : decode cX3_addGuest 91 = .ok (.invokestatic 92, 3) := by decide +kernel
theorem dX3_addGuest_94 : decode cX3_addGuest 94 = .ok (.ifCond .eq 10, 3) := by decide +kernel
theorem dX3_addGuest_97 : decode cX3_addGuest 97 = .ok (.iload 8, 2) := by decide +kernel
theorem dX3_addGuest_99 : decode cX3_addGuest 99 = .ok (.iconst 1, 1) := by decide +kernel
theorem dX3_addGuest_100 : decode cX3_addGuest 100 = .ok (.iadd, 1) := by decide +kernel
theorem dX3_addGuest_101 : decode cX3_addGuest 101 = .ok (.goto 11, 3) := by decide +kernel
theorem dX3_addGuest_104 : decode cX3_addGuest 104 = .ok (.aload 5, 2) := by decide +kernel
theorem dX3_addGuest_106 : decode cX3_addGuest 106 = .ok (.getfield 95, 3) := by decide +kernel
theorem dX3_addGuest_109 : decode cX3_addGuest 109 = .ok (.iload 8, 2) := by decide +kernel
theorem dX3_addGuest_111 : decode cX3_addGuest 111 = .ok (.iaload, 1) := by decide +kernel
theorem dX3_addGuest_112 : decode cX3_addGuest 112 = .ok (.istore 7, 2) := by decide +kernel
theorem dX3_addGuest_114 : decode cX3_addGuest 114 = .ok (.goto 19, 3) := by decide +kernel
theorem dX3_addGuest_117 : decode cX3_addGuest 117 = .ok (.aload_n 0, 1) := by decide +kernel
theorem dX3_addGuest_118 : decode cX3_addGuest 118 = .ok (.aload_n 1, 1) := by decide +kernel
theorem dX3_addGuest_119 : decode cX3_addGuest 119 = .ok (.aload 6, 2) := by decide +kernel
theorem dX3_addGuest_121 : decode cX3_addGuest 121 = .ok (.aload 4, 2) := by decide +kernel
theorem dX3_addGuest_123 : decode cX3_addGuest 123 = .ok (.getfield 98, 3) := by decide +kernel
theorem dX3_addGuest_126 : decode cX3_addGuest 126 = .ok (.aload 5, 2) := by decide +kernel
theorem dX3_addGuest_128 : decode cX3_addGuest 128 = .ok (.iload 8, 2) := by decide +kernel
theorem dX3_addGuest_130 : decode cX3_addGuest 130 = .ok (.invokevirtual 101, 3) := by decide +kernel
theorem dX3_addGuest_133 : decode cX3_addGuest 133 = .ok (.iinc 8 1, 3) := by decide +kernel
theorem dX3_addGuest_136 : decode cX3_addGuest 136 = .ok (.goto (-94), 3) := by decide +kernel
theorem dX3_addGuest_139 : decode cX3_addGuest 139 = .ok (.return_, 1) := by decide +kernel
set_option maxRecDepth 20000 in
theorem ggX3_removeGuest_X3_bits : GoodIn wsX3_removeGuest wsX3_bits := goodIn_r _ [13] (by decide +kernel) (by decide +kernel)
set_option maxRecDepth 20000 in
theorem gX3_removeGuest_X3_bits : GoodIn wsX3_removeGuest (va_wsS RX3 118 yX3_bits wsX3_bits) := goodIn_app (goodIn_of _ (by decide +kernel)) ggX3_removeGuest_X3_bits
theorem dX3_removeGuest_0 : decode cX3_removeGuest 0 = .ok (.aload_n 0, 1) := by decide +kernel
theorem dX3_removeGuest_1 : decode cX3_removeGuest 1 = .ok (.getfield 11, 3) := by decide +kernel
theorem dX3_removeGuest_4 : decode cX3_removeGuest 4 = .ok (.iload_n 1, 1) := by decide +kernel
theorem dX3_removeGuest_5 : decode cX3_removeGuest 5 = .ok (.aaload, 1) := by decide +kernel
theorem dX3_removeGuest_6 : decode cX3_removeGuest 6 = .ok (.astore_n 2, 1) := by decide +kernel
theorem dX3_removeGuest_7 : decode cX3_removeGuest 7 = .ok (.iconst 0, 1) := by decide +kernel
theorem dX3_removeGuest_8 : decode cX3_removeGuest 8 = .ok (.istore_n 3, 1) := by decide +kernel
theorem dX3_removeGuest_9 : decode cX3_removeGuest 9 = .ok (.iload_n 3, 1) := by decide +kernel
theorem dX3_removeGuest_10 : decode cX3_removeGuest 10 = .ok (.aload_n 2, 1) := by decide +kernel
theorem dX3_removeGuest_11 : decode cX3_removeGuest 11 = .ok (.getfield 105, 3) := by decide +kernel
theorem dX3_removeGuest_14 : decode cX3_removeGuest 14 = .ok (.if_icmp .ge 86, 3) := by decide +kernel
theorem dX3_removeGuest_17 : decode cX3_removeGuest 17 = .ok (.aload_n 2, 1) := by decide +kernel
theorem dX3_removeGuest_18 : decode cX3_removeGuest 18 = .ok (.getfield 108, 3) := by decide +kernel
theorem dX3_removeGuest_21 : decode cX3_removeGuest 21 = .ok (.iload_n 3, 1) := by decide +kernel
theorem dX3_removeGuest_22 : decode cX3_removeGuest 22 = .ok (.iaload, 1) := by decide +kernel
theorem dX3_removeGuest_23 : decode cX3_removeGuest 23 = .ok (.ifCond .ne 28, 3) := by decide +kernel
theorem dX3_removeGuest_26 : decode cX3_removeGuest 26 = .ok (.aload_n 0, 1) := by decide +kernel
theorem dX3_removeGuest_27 : decode cX3_removeGuest 27 = .ok (.getfield 19, 3) := by decide +kernel
theorem dX3_removeGuest_30 : decode cX3_removeGuest 30 = .ok (.aload_n 2, 1) := by decide +kernel
theorem dX3_removeGuest_31 : decode cX3_removeGuest 31 = .ok (.getfield 109, 3) := by decide +kernel
theorem dX3_removeGuest_34 : decode cX3_removeGuest 34 = .ok (.iload_n 3, 1) := by decide +kernel
theorem dX3_removeGuest_35 : decode cX3_removeGuest 35 = .ok (.iaload, 1) := by decide +kernel
theorem dX3_removeGuest_36 : decode cX3_removeGuest 36 = .ok (.aaload, 1) := by decide +kernel
theorem dX3_removeGuest_37 : decode cX3_removeGuest 37 = .ok (.aload_n 2, 1) := by decide +kernel
theorem dX3_removeGuest_38 : decode cX3_removeGuest 38 = .ok (.getfield 112, 3) := by decide +kernel
theorem dX3_removeGuest_41 : decode cX3_removeGuest 41 = .ok (.iload_n 3, 1) := by decide +kernel
theorem dX3_removeGuest_42 : decode cX3_removeGuest 42 = .ok (.iaload, 1) := by decide +kernel
theorem dX3_removeGuest_43 : decode cX3_removeGuest 43 = .ok (.dup2, 1) := by decide +kernel
theorem dX3_removeGuest_44 : decode cX3_removeGuest 44 = .ok (.iaload, 1) := by decide +kernel
theorem dX3_removeGuest_45 : decode cX3_removeGuest 45 = .ok (.iconst 1, 1) := by decide +kernel
theorem dX3_removeGuest_46 : decode cX3_removeGuest 46 = .ok (.isub, 1) := by decide +kernel
theorem dX3_removeGuest_47 : decode cX3_removeGuest 47 = .ok (.iastore, 1) := by decide +kernel
theorem dX3_removeGuest_48 : decode cX3_removeGuest 48 = .ok (.goto 46, 3) := by decide +kernel
theorem dX3_removeGuest_51 : decode cX3_removeGuest 51 = .ok (.aload_n 2, 1) := by decide +kernel
theorem dX3_removeGuest_52 : decode cX3_removeGuest 52 = .ok (.getfield 108, 3) := by decide +kernel
theorem dX3_removeGuest_55 : decode cX3_removeGuest 55 = .ok (.iload_n 3, 1) := by decide +kernel
theorem dX3_removeGuest_56 : decode cX3_removeGuest 56 = .ok (.iaload, 1) := by decide +kernel
theorem dX3_removeGuest_57 : decode cX3_removeGuest 57 = .ok (.iconst 1, 1) := by decide +kernel
theorem dX3_removeGuest_58 : decode cX3_removeGuest 58 = .ok (.if_icmp .ne 36, 3) := by decide +kernel
theorem dX3_removeGuest_61 : decode cX3_removeGuest 61 = .ok (.aload_n 0, 1) := by decide +kernel
theorem dX3_removeGuest_62 : decode cX3_removeGuest 62 = .ok (.getfield 22, 3) := by decide +kernel
theorem dX3_removeGuest_65 : decode cX3_removeGuest 65 = .ok (.aload_n 2, 1) := by decide +kernel
theorem dX3_removeGuest_66 : decode cX3_removeGuest 66 = .ok (.getfield 109, 3) := by decide +kernel
theorem dX3_removeGuest_69 : decode cX3_removeGuest 69 = .ok (.iload_n 3, 1) := by decide +kernel
theorem dX3_removeGuest_70 : decode cX3_removeGuest 70 = .ok (.iaload, 1) := by decide +kernel
theorem dX3_removeGuest_71 : decode cX3_removeGuest 71 = .ok (.dup2, 1) := by decide +kernel
theorem dX3_removeGuest_72 : decode cX3_removeGuest 72 = .ok (.laload, 1) := by decide +kernel
theorem dX3_removeGuest_73 : decode cX3_removeGuest 73 = .ok (.aload_n 2, 1) := by decide +kernel
theorem dX3_removeGuest_74 : decode cX3_removeGuest 74 = .ok (.getfield 112, 3) := by decide +kernel
theorem dX3_removeGuest_77 : decode cX3_removeGuest 77 = .ok (.iload_n 3, 1) := by decide +kernel
theorem dX3_removeGuest_78 : decode cX3_removeGuest 78 = .ok (.iaload, 1) := by decide +kernel
theorem dX3_removeGuest_79 : decode cX3_removeGuest 79 = .ok (.aload_n 2, 1) := by decide +kernel
theorem dX3_removeGuest_80 : decode cX3_removeGuest 80 = .ok (.getfield 115, 3) := by decide +kernel
theorem dX3_removeGuest_83 : decode cX3_removeGuest 83 = .ok (.iload_n 3, 1) := by decide +kernel
theorem dX3_removeGuest_84 : decode cX3_removeGuest 84 = .ok (.iaload, 1) := by decide +kernel
theorem dX3_removeGuest_85 : decode cX3_removeGuest 85 = .ok (.invokestatic 118, 3) := by decide +kernel
theorem dX3_removeGuest_88 : decode cX3_removeGuest 88 = .ok (.ldc2_w 122, 3) := by decide +kernel
theorem dX3_removeGuest_91 : decode cX3_removeGuest 91 = .ok (.lxor, 1) := by decide +kernel
theorem dX3_removeGuest_92 : decode cX3_removeGuest 92 = .ok (.land, 1) := by decide +kernel
theorem dX3_removeGuest_93 : decode cX3_removeGuest 93 = .ok (.lastore, 1) := by decide +kernel
theorem dX3_removeGuest_94 : decode cX3_removeGuest 94 = .ok (.iinc 3 1, 3) := by decide +kernel
theorem dX3_removeGuest_97 : decode cX3_removeGuest 97 = .ok (.goto (-88), 3) := by decide +kernel
theorem dX3_removeGuest_100 : decode cX3_removeGuest 100 = .ok (.return_, 1) := by decide +kernel
theorem dX3_countTaken_0 : decode cX3_countTaken 0 = .ok (.iconst 0, 1) := by decide +kernel
theorem dX3_countTaken_1 : decode cX3_countTaken 1 = .ok (.istore_n 2, 1) := by decide +kernel
theorem dX3_countTaken_2 : decode cX3_countTaken 2 = .ok (.iconst 0, 1) := by decide +kernel
theorem dX3_countTaken_3 : decode cX3_countTaken 3 = .ok (.istore_n 3, 1) := by decide +kernel
theorem dX3_countTaken_4 : decode cX3_countTaken 4 = .ok (.iload_n 3, 1) := by decide +kernel
theorem dX3_countTaken_5 : decode cX3_countTaken 5 = .ok (.bipush 48, 2) := by decide +kernel
theorem dX3_countTaken_7 : decode cX3_countTaken 7 = .ok (.if_icmp .ge 20, 3) := by decide +kernel
theorem dX3_countTaken_10 : decode cX3_countTaken 10 = .ok (.iload_n 2, 1) := by decide +kernel
theorem dX3_countTaken_11 : decode cX3_countTaken 11 = .ok (.aload_n 0, 1) := by decide +kernel
theorem dX3_countTaken_12 : decode cX3_countTaken 12 = .ok (.getfield 19, 3) := by decide +kernel
theorem dX3_countTaken_15 : decode cX3_countTaken 15 = .ok (.iload_n 1, 1) := by decide +kernel
theorem dX3_countTaken_16 : decode cX3_countTaken 16 = .ok (.aaload, 1) := by decide +kernel
theorem dX3_countTaken_17 : decode cX3_countTaken 17 = .ok (.iload_n 3, 1) := by decide +kernel
theorem dX3_countTaken_18 : decode cX3_countTaken 18 = .ok (.iaload, 1) := by decide +kernel
theorem dX3_countTaken_19 : decode cX3_countTaken 19 = .ok (.iadd, 1) := by decide +kernel
theorem dX3_countTaken_20 : decode cX3_countTaken 20 = .ok (.istore_n 2, 1) := by decide +kernel
theorem dX3_countTaken_21 : decode cX3_countTaken 21 = .ok (.iinc 3 1, 3) := by decide +kernel
theorem dX3_countTaken_24 : decode cX3_countTaken 24 = .ok (.goto (-20), 3) := by decide +kernel
theorem dX3_countTaken_27 : decode cX3_countTaken 27 = .ok (.iload_n 2, 1) := by decide +kernel
theorem dX3_countTaken_28 : decode cX3_countTaken 28 = .ok (.ireturn, 1) := by decide +kernel
theorem dX3_isMultiple_0 : decode cX3_isMultiple 0 = .ok (.iload_n 1, 1) := by decide +kernel
theorem dX3_isMultiple_1 : decode cX3_isMultiple 1 = .ok (.ifCond .le 13, 3) := by decide +kernel
theorem dX3_isMultiple_4 : decode cX3_isMultiple 4 = .ok (.iload_n 0, 1) := by decide +kernel
theorem dX3_isMultiple_5 : decode cX3_isMultiple 5 = .ok (.iload_n 1, 1) := by decide +kernel
theorem dX3_isMultiple_6 : decode cX3_isMultiple 6 = .ok (.irem, 1) := by decide +kernel
theorem dX3_isMultiple_7 : decode cX3_isMultiple 7 = .ok (.ifCond .ne 7, 3) := by decide +kernel
theorem dX3_isMultiple_10 : decode cX3_isMultiple 10 = .ok (.iconst 1, 1) := by decide +kernel
theorem dX3_isMultiple_11 : decode cX3_isMultiple 11 = .ok (.goto 4, 3) := by decide +kernel
theorem dX3_isMultiple_14 : decode cX3_isMultiple 14 = .ok (.iconst 0, 1) := by decide +kernel
theorem dX3_isMultiple_15 : decode cX3_isMultiple 15 = .ok (.ireturn, 1) := by decide +kernel
theorem dX3_bits_0 : decode cX3_bits 0 = .ok (.lconst 1, 1) := by decide +kernel
theorem dX3_bits_1 : decode cX3_bits 1 = .ok (.iload_n 1, 1) := by decide +kernel
theorem dX3_bits_2 : decode cX3_bits 2 = .ok (.lshl, 1) := by decide +kernel
theorem dX3_bits_3 : decode cX3_bits 3 = .ok (.lconst 1, 1) := by decide +kernel
theorem dX3_bits_4 : decode cX3_bits 4 = .ok (.lsub, 1) := by decide +kernel
theorem dX3_bits_5 : decode cX3_bits 5 = .ok (.iload_n 0, 1) := by decide +kernel
theorem dX3_bits_6 : decode cX3_bits 6 = .ok (.lshl, 1) := by decide +kernel
theorem dX3_bits_7 : decode cX3_bits 7 = .ok (.lreturn, 1) := by decide +kernel
set_option maxRecDepth 20000 in
theorem ggX3_addAct_X3_addGlass : GoodIn wsX3_addAct wsX3_addGlass := goodIn_r _ [15, 16, 17, 6, 18, 7, 8, 9, 10, 19, 20, 21, 22, 23, 24, 25, 26, 27, 28, 29, 30, 31, 32, 33, 34, 35, 64, 65, 66, 67, 68, 69, 70, 71, 72, 73, 74, 75, 76, 77, 78, 79, 80, 81, 82, 83, 84, 85] (by decide +kernel) (by decide +kernel)
set_option maxRecDepth 20000 in
theorem gX3_addAct_X3_addGlass : GoodIn wsX3_addAct (wsV RX3 128 RX3 yX3_addGlass wsX3_addGlass) := goodIn_app (goodIn_of _ (by decide +kernel)) ggX3_addAct_X3_addGlass
set_option maxRecDepth 20000 in
theorem ggX3_addAct_X3_addBath : GoodIn wsX3_addAct wsX3_addBath := goodIn_r _ [39, 6, 40, 22, 41, 42, 14, 43, 44, 45, 46, 47, 48, 49, 24, 25, 26, 27, 28, 29, 30, 31, 32, 33, 34, 35, 64, 65, 66, 67, 68, 69, 70, 71, 72, 73, 83, 84, 85, 86, 87] (by decide +kernel) (by decide +kernel)
set_option maxRecDepth 20000 in
theorem gX3_addAct_X3_addBath : GoodIn wsX3_addAct (wsV RX3 136 RX3 yX3_addBath wsX3_addBath) := goodIn_app (goodIn_of _ (by decide +kernel)) ggX3_addAct_X3_addBath
set_option maxRecDepth 20000 in
theorem ggX3_addAct_X3_addRest : GoodIn wsX3_addAct wsX3_addRest := goodIn_r _ [52, 6, 22, 24, 25, 26, 27, 28, 29, 30, 31, 32, 33, 34, 35, 64, 65, 66, 67, 68, 69, 70, 71, 72, 73] (by decide +kernel) (by decide +kernel)
set_option maxRecDepth 20000 in
theorem gX3_addAct_X3_addRest : GoodIn wsX3_addAct (va_wsS RX3 140 yX3_addRest wsX3_addRest) := goodIn_app (goodIn_of _ (by decide +kernel)) ggX3_addAct_X3_addRest
theorem dX3_addAct_0 : decode cX3_addAct 0 = .ok (.aload 4, 2) := by decide +kernel
theorem dX3_addAct_2 : decode cX3_addAct 2 = .ok (.getfield 89, 3) := by decide +kernel
theorem dX3_addAct_5 : decode cX3_addAct 5 = .ok (.iload 5, 2) := by decide +kernel
theorem dX3_addAct_7 : decode cX3_addAct 7 = .ok (.iaload, 1) := by decide +kernel
theorem dX3_addAct_8 : decode cX3_addAct 8 = .ok (.istore 6, 2) := by decide +kernel
theorem dX3_addAct_10 : decode cX3_addAct 10 = .ok (.aload 4, 2) := by decide +kernel
theorem dX3_addAct_12 : decode cX3_addAct 12 = .ok (.getfield 85, 3) := by decide +kernel
theorem dX3_addAct_15 : decode cX3_addAct 15 = .ok (.iload 5, 2) := by decide +kernel
theorem dX3_addAct_17 : decode cX3_addAct 17 = .ok (.iaload, 1) := by decide +kernel
theorem dX3_addAct_18 : decode cX3_addAct 18 = .ok (.tableswitch 75 0 2 #[26, 44, 66], 26) := by decide +kernel
theorem dX3_addAct_44 : decode cX3_addAct 44 = .ok (.aload_n 0, 1) := by decide +kernel
theorem dX3_addAct_45 : decode cX3_addAct 45 = .ok (.aload_n 1, 1) := by decide +kernel
theorem dX3_addAct_46 : decode cX3_addAct 46 = .ok (.getfield 124, 3) := by decide +kernel
theorem dX3_addAct_49 : decode cX3_addAct 49 = .ok (.iload 6, 2) := by decide +kernel
theorem dX3_addAct_51 : decode cX3_addAct 51 = .ok (.aaload, 1) := by decide +kernel
theorem dX3_addAct_52 : decode cX3_addAct 52 = .ok (.aload_n 2, 1) := by decide +kernel
theorem dX3_addAct_53 : decode cX3_addAct 53 = .ok (.iload_n 3, 1) := by decide +kernel
theorem dX3_addAct_54 : decode cX3_addAct 54 = .ok (.iload 6, 2) := by decide +kernel
theorem dX3_addAct_56 : decode cX3_addAct 56 = .ok (.invokevirtual 128, 3) := by decide +kernel
theorem dX3_addAct_59 : decode cX3_addAct 59 = .ok (.goto 47, 3) := by decide +kernel
theorem dX3_addAct_62 : decode cX3_addAct 62 = .ok (.aload_n 0, 1) := by decide +kernel
theorem dX3_addAct_63 : decode cX3_addAct 63 = .ok (.aload_n 1, 1) := by decide +kernel
theorem dX3_addAct_64 : decode cX3_addAct 64 = .ok (.getfield 132, 3) := by decide +kernel
theorem dX3_addAct_67 : decode cX3_addAct 67 = .ok (.aload_n 2, 1) := by decide +kernel
theorem dX3_addAct_68 : decode cX3_addAct 68 = .ok (.iload 6, 2) := by decide +kernel
theorem dX3_addAct_70 : decode cX3_addAct 70 = .ok (.aload 4, 2) := by decide +kernel
theorem dX3_addAct_72 : decode cX3_addAct 72 = .ok (.getfield 95, 3) := by decide +kernel
theorem dX3_addAct_75 : decode cX3_addAct 75 = .ok (.iload 5, 2) := by decide +kernel
theorem dX3_addAct_77 : decode cX3_addAct 77 = .ok (.iaload, 1) := by decide +kernel
theorem dX3_addAct_78 : decode cX3_addAct 78 = .ok (.invokevirtual 136, 3) := by decide +kernel
theorem dX3_addAct_81 : decode cX3_addAct 81 = .ok (.goto 25, 3) := by decide +kernel
theorem dX3_addAct_84 : decode cX3_addAct 84 = .ok (.aload_n 2, 1) := by decide +kernel
theorem dX3_addAct_85 : decode cX3_addAct 85 = .ok (.iload 6, 2) := by decide +kernel
theorem dX3_addAct_87 : decode cX3_addAct 87 = .ok (.invokestatic 140, 3) := by decide +kernel
theorem dX3_addAct_90 : decode cX3_addAct 90 = .ok (.goto 16, 3) := by decide +kernel
theorem dX3_addAct_93 : decode cX3_addAct 93 = .ok (.aload_n 2, 1) := by decide +kernel
theorem dX3_addAct_94 : decode cX3_addAct 94 = .ok (.aload_n 2, 1) := by decide +kernel
theorem dX3_addAct_95 : decode cX3_addAct 95 = .ok (.getfield 144, 3) := by decide +kernel
theorem dX3_addAct_98 : decode cX3_addAct 98 = .ok (.iload 6, 2) := by decide +kernel
theorem dX3_addAct_100 : decode cX3_addAct 100 = .ok (.invokestatic 147, 3) := by decide +kernel
theorem dX3_addAct_103 : decode cX3_addAct 103 = .ok (.putfield 144, 3) := by decide +kernel
theorem dX3_addAct_106 : decode cX3_addAct 106 = .ok (.return_, 1) := by decide +kernel
set_option maxRecDepth 20000 in
theorem ggX3_addGlass_X5_note : GoodIn wsX3_addGlass wsX5_note := goodIn_r _ [18, 19, 20, 21, 22, 23, 24, 25, 26, 27, 28, 29, 30, 31, 32, 33, 34, 35] (by decide +kernel) (by decide +kernel)
set_option maxRecDepth 20000 in
theorem gX3_addGlass_X5_note : GoodIn wsX3_addGlass (wsV RX3 169 RX5 yX5_note wsX5_note) := goodIn_app (goodIn_of _ (by decide +kernel)) ggX3_addGlass_X5_note
theorem dX3_addGlass_0 : decode cX3_addGlass 0 = .ok (.aload_n 2, 1) := by decide +kernel
theorem dX3_addGlass_1 : decode cX3_addGlass 1 = .ok (.getfield 153, 3) := by decide +kernel
theorem dX3_addGlass_4 : decode cX3_addGlass 4 = .ok (.aload_n 1, 1) := by decide +kernel
theorem dX3_addGlass_5 : decode cX3_addGlass 5 = .ok (.getfield 156, 3) := by decide +kernel
theorem dX3_addGlass_8 : decode cX3_addGlass 8 = .ok (.iadd, 1) := by decide +kernel
theorem dX3_addGlass_9 : decode cX3_addGlass 9 = .ok (.iload_n 3, 1) := by decide +kernel
theorem dX3_addGlass_10 : decode cX3_addGlass 10 = .ok (.if_icmp .le 4, 3) := by decide +kernel
theorem dX3_addGlass_13 : decode cX3_addGlass 13 = .ok (.return_, 1) := by decide +kernel
theorem dX3_addGlass_14 : decode cX3_addGlass 14 = .ok (.aload_n 2, 1) := by decide +kernel
theorem dX3_addGlass_15 : decode cX3_addGlass 15 = .ok (.getfield 144, 3) := by decide +kernel
theorem dX3_addGlass_18 : decode cX3_addGlass 18 = .ok (.aload_n 1, 1) := by decide +kernel
theorem dX3_addGlass_19 : decode cX3_addGlass 19 = .ok (.getfield 159, 3) := by decide +kernel
theorem dX3_addGlass_22 : decode cX3_addGlass 22 = .ok (.invokestatic 147, 3) := by decide +kernel
theorem dX3_addGlass_25 : decode cX3_addGlass 25 = .ok (.istore 5, 2) := by decide +kernel
theorem dX3_addGlass_27 : decode cX3_addGlass 27 = .ok (.iload 5, 2) := by decide +kernel
theorem dX3_addGlass_29 : decode cX3_addGlass 29 = .ok (.aload_n 1, 1) := by decide +kernel
theorem dX3_addGlass_30 : decode cX3_addGlass 30 = .ok (.getfield 162, 3) := by decide +kernel
theorem dX3_addGlass_33 : decode cX3_addGlass 33 = .ok (.if_icmp .ge 26, 3) := by decide +kernel
theorem dX3_addGlass_36 : decode cX3_addGlass 36 = .ok (.aload_n 0, 1) := by decide +kernel
theorem dX3_addGlass_37 : decode cX3_addGlass 37 = .ok (.getfield 19, 3) := by decide +kernel
theorem dX3_addGlass_40 : decode cX3_addGlass 40 = .ok (.iload 4, 2) := by decide +kernel
theorem dX3_addGlass_42 : decode cX3_addGlass 42 = .ok (.aaload, 1) := by decide +kernel
theorem dX3_addGlass_43 : decode cX3_addGlass 43 = .ok (.iload 5, 2) := by decide +kernel
theorem dX3_addGlass_45 : decode cX3_addGlass 45 = .ok (.iaload, 1) := by decide +kernel
theorem dX3_addGlass_46 : decode cX3_addGlass 46 = .ok (.aload_n 1, 1) := by decide +kernel
theorem dX3_addGlass_47 : decode cX3_addGlass 47 = .ok (.getfield 165, 3) := by decide +kernel
theorem dX3_addGlass_50 : decode cX3_addGlass 50 = .ok (.if_icmp .lt 9, 3) := by decide +kernel
theorem dX3_addGlass_53 : decode cX3_addGlass 53 = .ok (.iinc 5 1, 3) := by decide +kernel
theorem dX3_addGlass_56 : decode cX3_addGlass 56 = .ok (.goto (-29), 3) := by decide +kernel
theorem dX3_addGlass_59 : decode cX3_addGlass 59 = .ok (.iload 5, 2) := by decide +kernel
theorem dX3_addGlass_61 : decode cX3_addGlass 61 = .ok (.aload_n 1, 1) := by decide +kernel
theorem dX3_addGlass_62 : decode cX3_addGlass 62 = .ok (.getfield 162, 3) := by decide +kernel
theorem dX3_addGlass_65 : decode cX3_addGlass 65 = .ok (.if_icmp .lt 9, 3) := by decide +kernel
theorem dX3_addGlass_68 : decode cX3_addGlass 68 = .ok (.aload_n 2, 1) := by decide +kernel
theorem dX3_addGlass_69 : decode cX3_addGlass 69 = .ok (.iconst 1, 1) := by decide +kernel
theorem dX3_addGlass_70 : decode cX3_addGlass 70 = .ok (.putfield 81, 3) := by decide +kernel
theorem dX3_addGlass_73 : decode cX3_addGlass 73 = .ok (.return_, 1) := by decide +kernel
theorem dX3_addGlass_74 : decode cX3_addGlass 74 = .ok (.aload_n 0, 1) := by decide +kernel
theorem dX3_addGlass_75 : decode cX3_addGlass 75 = .ok (.getfield 19, 3) := by decide +kernel
theorem dX3_addGlass_78 : decode cX3_addGlass 78 = .ok (.iload 4, 2) := by decide +kernel
theorem dX3_addGlass_80 : decode cX3_addGlass 80 = .ok (.aaload, 1) := by decide +kernel
theorem dX3_addGlass_81 : decode cX3_addGlass 81 = .ok (.iload 5, 2) := by decide +kernel
theorem dX3_addGlass_83 : decode cX3_addGlass 83 = .ok (.dup2, 1) := by decide +kernel
theorem dX3_addGlass_84 : decode cX3_addGlass 84 = .ok (.iaload, 1) := by decide +kernel
theorem dX3_addGlass_85 : decode cX3_addGlass 85 = .ok (.iconst 1, 1) := by decide +kernel
theorem dX3_addGlass_86 : decode cX3_addGlass 86 = .ok (.iadd, 1) := by decide +kernel
theorem dX3_addGlass_87 : decode cX3_addGlass 87 = .ok (.iastore, 1) := by decide +kernel
theorem dX3_addGlass_88 : decode cX3_addGlass 88 = .ok (.aload_n 2, 1) := by decide +kernel
theorem dX3_addGlass_89 : decode cX3_addGlass 89 = .ok (.dup, 1) := by decide +kernel
theorem dX3_addGlass_90 : decode cX3_addGlass 90 = .ok (.getfield 153, 3) := by decide +kernel
theorem dX3_addGlass_93 : decode cX3_addGlass 93 = .ok (.aload_n 1, 1) := by decide +kernel
theorem dX3_addGlass_94 : decode cX3_addGlass 94 = .ok (.getfield 156, 3) := by decide +kernel
