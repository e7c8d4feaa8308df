theorem dX11_best_11 : decode cX11_best 11 = .ok (.aload_n 0, 1) := by decide +kernel
theorem dX11_best_12 : decode cX11_best 12 = .ok (.iload_n 1, 1) := by decide +kernel
theorem dX11_best_13 : decode cX11_best 13 = .ok (.invokevirtual 262, 3) := by decide +kernel
theorem dX11_best_16 : decode cX11_best 16 = .ok (.bipush 6, 2) := by decide +kernel
theorem dX11_best_18 : decode cX11_best 18 = .ok (.if_icmp .le 5, 3) := by decide +kernel
theorem dX11_best_21 : decode cX11_best 21 = .ok (.iconst (-1), 1) := by decide +kernel
theorem dX11_best_22 : decode cX11_best 22 = .ok (.ireturn, 1) := by decide +kernel
theorem dX11_best_23 : decode cX11_best 23 = .ok (.aload_n 0, 1) := by decide +kernel
theorem dX11_best_24 : decode cX11_best 24 = .ok (.iload_n 1, 1) := by decide +kernel
theorem dX11_best_25 : decode cX11_best 25 = .ok (.invokevirtual 288, 3) := by decide +kernel
theorem dX11_best_28 : decode cX11_best 28 = .ok (.iload_n 2, 1) := by decide +kernel
theorem dX11_best_29 : decode cX11_best 29 = .ok (.ifCond .ne 10, 3) := by decide +kernel
theorem dX11_best_32 : decode cX11_best 32 = .ok (.aload_n 0, 1) := by decide +kernel
theorem dX11_best_33 : decode cX11_best 33 = .ok (.getfield 279, 3) := by decide +kernel
theorem dX11_best_36 : decode cX11_best 36 = .ok (.goto 45, 3) := by decide +kernel
theorem dX11_best_39 : decode cX11_best 39 = .ok (.iload_n 2, 1) := by decide +kernel
theorem dX11_best_40 : decode cX11_best 40 = .ok (.iconst 1, 1) := by decide +kernel
theorem dX11_best_41 : decode cX11_best 41 = .ok (.if_icmp .ne 10, 3) := by decide +kernel
theorem dX11_best_44 : decode cX11_best 44 = .ok (.aload_n 0, 1) := by decide +kernel
theorem dX11_best_45 : decode cX11_best 45 = .ok (.getfield 282, 3) := by decide +kernel
theorem dX11_best_48 : decode cX11_best 48 = .ok (.goto 33, 3) := by decide +kernel
theorem dX11_best_51 : decode cX11_best 51 = .ok (.iload_n 2, 1) := by decide +kernel
theorem dX11_best_52 : decode cX11_best 52 = .ok (.bipush 10, 2) := by decide +kernel
theorem dX11_best_54 : decode cX11_best 54 = .ok (.bipush 9, 2) := by decide +kernel
theorem dX11_best_56 : decode cX11_best 56 = .ok (.aload_n 0, 1) := by decide +kernel
theorem dX11_best_57 : decode cX11_best 57 = .ok (.iload_n 1, 1) := by decide +kernel
theorem dX11_best_58 : decode cX11_best 58 = .ok (.invokevirtual 262, 3) := by decide +kernel
theorem dX11_best_61 : decode cX11_best 61 = .ok (.iadd, 1) := by decide +kernel
theorem dX11_best_62 : decode cX11_best 62 = .ok (.invokestatic 136, 3) := by decide +kernel
theorem dX11_best_65 : decode cX11_best 65 = .ok (.ifCond .eq 15, 3) := by decide +kernel
theorem dX11_best_68 : decode cX11_best 68 = .ok (.aload_n 0, 1) := by decide +kernel
theorem dX11_best_69 : decode cX11_best 69 = .ok (.getfield 118, 3) := by decide +kernel
theorem dX11_best_72 : decode cX11_best 72 = .ok (.iload_n 2, 1) := by decide +kernel
theorem dX11_best_73 : decode cX11_best 73 = .ok (.bipush 10, 2) := by decide +kernel
theorem dX11_best_75 : decode cX11_best 75 = .ok (.isub, 1) := by decide +kernel
theorem dX11_best_76 : decode cX11_best 76 = .ok (.iaload, 1) := by decide +kernel
theorem dX11_best_77 : decode cX11_best 77 = .ok (.goto 4, 3) := by decide +kernel
theorem dX11_best_80 : decode cX11_best 80 = .ok (.iconst (-1), 1) := by decide +kernel
theorem dX11_best_81 : decode cX11_best 81 = .ok (.ireturn, 1) := by decide +kernel
set_option maxRecDepth 20000 in
theorem ggX11_keep_X11_here : GoodIn wsX11_keep wsX11_here := goodIn_r _ [7, 8, 9, 10, 11, 6, 12, 13, 14, 15, 16, 17, 18, 19, 20, 21, 22, 23, 24, 25, 26, 27, 28, 29, 30, 31, 32, 33, 34, 35, 36, 37, 38, 39, 40, 41, 42, 43, 44, 45, 46, 47, 48, 49, 50, 51, 52, 53, 54, 55, 56, 57, 58, 59, 60, 61, 62, 63, 64, 65, 66, 67, 68, 69, 70, 71, 72, 73, 74, 75, 76, 77, 78] (by decide +kernel) (by decide +kernel)
set_option maxRecDepth 20000 in
theorem gX11_keep_X11_here : GoodIn wsX11_keep (wsV RX11 262 RX11 yX11_here wsX11_here) := goodIn_app (goodIn_of _ (by decide +kernel)) ggX11_keep_X11_here
theorem dX11_keep_0 : decode cX11_keep 0 = .ok (.aload_n 0, 1) := by decide +kernel
theorem dX11_keep_1 : decode cX11_keep 1 = .ok (.aload_n 0, 1) := by decide +kernel
theorem dX11_keep_2 : decode cX11_keep 2 = .ok (.getfield 230, 3) := by decide +kernel
theorem dX11_keep_5 : decode cX11_keep 5 = .ok (.invokevirtual 262, 3) := by decide +kernel
theorem dX11_keep_8 : decode cX11_keep 8 = .ok (.bipush 6, 2) := by decide +kernel
theorem dX11_keep_10 : decode cX11_keep 10 = .ok (.if_icmp .le 5, 3) := by decide +kernel
theorem dX11_keep_13 : decode cX11_keep 13 = .ok (.iconst 0, 1) := by decide +kernel
theorem dX11_keep_14 : decode cX11_keep 14 = .ok (.ireturn, 1) := by decide +kernel
theorem dX11_keep_15 : decode cX11_keep 15 = .ok (.aload_n 0, 1) := by decide +kernel
theorem dX11_keep_16 : decode cX11_keep 16 = .ok (.iload_n 1, 1) := by decide +kernel
theorem dX11_keep_17 : decode cX11_keep 17 = .ok (.putfield 291, 3) := by decide +kernel
theorem dX11_keep_20 : decode cX11_keep 20 = .ok (.iconst 1, 1) := by decide +kernel
theorem dX11_keep_21 : decode cX11_keep 21 = .ok (.ireturn, 1) := by decide +kernel
set_option maxRecDepth 20000 in
theorem ggX11_next_X11_ranks : GoodIn wsX11_next wsX11_ranks := goodIn_r _ [28, 14, 18, 3, 29, 30, 31, 27, 32, 33, 34, 35, 36, 37, 98, 99, 100, 101, 102, 103, 104, 105, 106, 107, 108, 109, 110, 111, 112, 113, 114, 115, 116, 117, 118, 119, 120, 121, 122, 123, 124, 125, 126, 127, 128, 129, 130, 131, 132, 133, 134, 135, 136, 137, 138, 139, 140, 141, 142, 143, 144, 145, 146, 147, 148, 149, 150, 151, 152, 153, 154, 155, 156, 157, 158] (by decide +kernel) (by decide +kernel)
set_option maxRecDepth 20000 in
theorem gX11_next_X11_ranks : GoodIn wsX11_next (wsV RX11 272 RX11 yX11_ranks wsX11_ranks) := goodIn_app (goodIn_of _ (by decide +kernel)) ggX11_next_X11_ranks
set_option maxRecDepth 20000 in
theorem ggX11_next_X11_here : GoodIn wsX11_next wsX11_here := goodIn_r _ [41, 14, 29, 30, 31, 27, 32, 33, 34, 35, 36, 37, 98, 99, 100, 101, 102, 103, 104, 105, 106, 107, 108, 109, 110, 111, 112, 113, 114, 115, 116, 117, 118, 119, 120, 121, 122, 123, 124, 125, 126, 127, 128, 129, 130, 131, 132, 133, 134, 135, 136, 137, 138, 139, 140, 141, 142, 143, 144, 145, 146, 147, 148, 149, 150, 151, 152, 153, 154, 155, 156, 157, 158] (by decide +kernel) (by decide +kernel)
set_option maxRecDepth 20000 in
theorem gX11_next_X11_here : GoodIn wsX11_next (wsV RX11 262 RX11 yX11_here wsX11_here) := goodIn_app (goodIn_of _ (by decide +kernel)) ggX11_next_X11_here
set_option maxRecDepth 20000 in
theorem ggX11_next_X11_finds : GoodIn wsX11_next wsX11_finds := goodIn_r _ [45, 14, 3, 46, 22, 47, 48, 4, 29, 30, 31, 27, 32, 33, 34, 35, 36, 37, 49, 50, 51, 52, 53, 54, 55, 56, 8, 57, 38, 39, 40, 41, 58, 59, 60, 61, 20, 62, 63, 64, 65, 66, 67, 68, 69, 70, 71, 72, 73, 74, 75, 76, 7, 6, 5, 77, 78, 79, 80, 81, 82, 83, 84, 85, 86, 87, 88, 89, 90, 91, 92, 93, 94, 95, 96, 97, 98, 99, 100, 101, 102, 103, 104, 105, 106, 107, 108, 109, 110, 111, 112, 113, 114, 115, 116, 117, 118, 119, 120, 121, 122, 123, 124, 125, 126, 127, 128, 129, 130, 131, 132, 133, 134, 135, 136, 137, 138, 139, 140, 141, 142, 143, 144, 145, 146, 147, 148, 149, 150, 151, 152, 153, 154, 155, 156, 157, 158] (by decide +kernel) (by decide +kernel)
set_option maxRecDepth 20000 in
theorem gX11_next_X11_finds : GoodIn wsX11_next (wsV RX11 288 RX11 yX11_finds wsX11_finds) := goodIn_app (goodIn_of _ (by decide +kernel)) ggX11_next_X11_finds
set_option maxRecDepth 20000 in
theorem ggX11_next_X11_lays : GoodIn wsX11_next wsX11_lays := goodIn_r _ [52, 3, 53, 54, 55, 27, 56, 8, 57, 38, 39, 40, 41, 14, 29, 30, 31, 32, 33, 34, 35, 36, 37, 58, 59, 60, 61, 22, 47, 20, 62, 63, 64, 65, 66, 67, 68, 69, 70, 71, 72, 73, 74, 75, 76, 7, 6, 5, 77, 78, 79, 80, 81, 82, 83, 84, 85, 86, 87, 88, 89, 90, 91, 92, 93, 98, 99, 100, 101, 102, 103, 104, 105, 106, 107, 108, 109, 110, 111, 112, 113, 114, 115, 116, 117, 118, 119, 120, 121, 122, 123, 124, 125, 126, 127, 128, 129, 130, 131, 132, 133, 134, 135, 136, 137, 138, 139, 140, 141, 142, 143, 144, 145, 146, 147, 148, 149, 150, 151, 152, 153, 154, 155, 156, 157, 158] (by decide +kernel) (by decide +kernel)
set_option maxRecDepth 20000 in
theorem gX11_next_X11_lays : GoodIn wsX11_next (wsV RX11 276 RX11 yX11_lays wsX11_lays) := goodIn_app (goodIn_of _ (by decide +kernel)) ggX11_next_X11_lays
set_option maxRecDepth 20000 in
theorem ggX11_next_X11_isHere : GoodIn wsX11_next wsX11_isHere := goodIn_r _ [32, 14, 33, 34, 35, 36, 27, 37, 98, 99, 100, 101, 102, 103, 104, 105, 106, 107, 108, 109, 110, 111, 112, 113, 114, 115, 116, 117, 118, 119, 120, 121, 122, 123, 124, 125, 126, 127, 128, 129, 130, 131, 132, 133, 134, 135, 136, 137, 138, 139, 140, 141, 142, 143, 144, 145, 146, 147, 148, 149, 150, 151, 152, 153, 154, 155, 156, 157, 158] (by decide +kernel) (by decide +kernel)
set_option maxRecDepth 20000 in
theorem gX11_next_X11_isHere : GoodIn wsX11_next (wsV RX11 236 RX11 yX11_isHere wsX11_isHere) := goodIn_app (goodIn_of _ (by decide +kernel)) ggX11_next_X11_isHere
theorem dX11_next_0 : decode cX11_next 0 = .ok (.aload_n 0, 1) := by decide +kernel
theorem dX11_next_1 : decode cX11_next 1 = .ok (.getfield 230, 3) := by decide +kernel
theorem dX11_next_4 : decode cX11_next 4 = .ok (.bipush 99, 2) := by decide +kernel
theorem dX11_next_6 : decode cX11_next 6 = .ok (.if_icmp .ne 5, 3) := by decide +kernel
theorem dX11_next_9 : decode cX11_next 9 = .ok (.iconst (-1), 1) := by decide +kernel
theorem dX11_next_10 : decode cX11_next 10 = .ok (.ireturn, 1) := by decide +kernel
theorem dX11_next_11 : decode cX11_next 11 = .ok (.aload_n 0, 1) := by decide +kernel
theorem dX11_next_12 : decode cX11_next 12 = .ok (.aload_n 0, 1) := by decide +kernel
theorem dX11_next_13 : decode cX11_next 13 = .ok (.getfield 230, 3) := by decide +kernel
theorem dX11_next_16 : decode cX11_next 16 = .ok (.invokevirtual 272, 3) := by decide +kernel
theorem dX11_next_19 : decode cX11_next 19 = .ok (.aload_n 0, 1) := by decide +kernel
theorem dX11_next_20 : decode cX11_next 20 = .ok (.getfield 291, 3) := by decide +kernel
theorem dX11_next_23 : decode cX11_next 23 = .ok (.ifCond .eq 56, 3) := by decide +kernel
theorem dX11_next_26 : decode cX11_next 26 = .ok (.aload_n 0, 1) := by decide +kernel
theorem dX11_next_27 : decode cX11_next 27 = .ok (.aload_n 0, 1) := by decide +kernel
theorem dX11_next_28 : decode cX11_next 28 = .ok (.getfield 230, 3) := by decide +kernel
theorem dX11_next_31 : decode cX11_next 31 = .ok (.invokevirtual 262, 3) := by decide +kernel
theorem dX11_next_34 : decode cX11_next 34 = .ok (.bipush 6, 2) := by decide +kernel
theorem dX11_next_36 : decode cX11_next 36 = .ok (.if_icmp .gt 43, 3) := by decide +kernel
theorem dX11_next_39 : decode cX11_next 39 = .ok (.aload_n 0, 1) := by decide +kernel
theorem dX11_next_40 : decode cX11_next 40 = .ok (.aload_n 0, 1) := by decide +kernel
theorem dX11_next_41 : decode cX11_next 41 = .ok (.getfield 230, 3) := by decide +kernel
theorem dX11_next_44 : decode cX11_next 44 = .ok (.invokevirtual 288, 3) := by decide +kernel
theorem dX11_next_47 : decode cX11_next 47 = .ok (.iconst 0, 1) := by decide +kernel
theorem dX11_next_48 : decode cX11_next 48 = .ok (.istore_n 1, 1) := by decide +kernel
theorem dX11_next_49 : decode cX11_next 49 = .ok (.iload_n 1, 1) := by decide +kernel
theorem dX11_next_50 : decode cX11_next 50 = .ok (.aload_n 0, 1) := by decide +kernel
theorem dX11_next_51 : decode cX11_next 51 = .ok (.aload_n 0, 1) := by decide +kernel
theorem dX11_next_52 : decode cX11_next 52 = .ok (.getfield 230, 3) := by decide +kernel
theorem dX11_next_55 : decode cX11_next 55 = .ok (.invokevirtual 262, 3) := by decide +kernel
theorem dX11_next_58 : decode cX11_next 58 = .ok (.if_icmp .ge 21, 3) := by decide +kernel
theorem dX11_next_61 : decode cX11_next 61 = .ok (.aload_n 0, 1) := by decide +kernel
theorem dX11_next_62 : decode cX11_next 62 = .ok (.getfield 91, 3) := by decide +kernel
theorem dX11_next_65 : decode cX11_next 65 = .ok (.iload_n 1, 1) := by decide +kernel
theorem dX11_next_66 : decode cX11_next 66 = .ok (.aload_n 0, 1) := by decide +kernel
theorem dX11_next_67 : decode cX11_next 67 = .ok (.getfield 118, 3) := by decide +kernel
theorem dX11_next_70 : decode cX11_next 70 = .ok (.iload_n 1, 1) := by decide +kernel
theorem dX11_next_71 : decode cX11_next 71 = .ok (.iaload, 1) := by decide +kernel
theorem dX11_next_72 : decode cX11_next 72 = .ok (.iastore, 1) := by decide +kernel
theorem dX11_next_73 : decode cX11_next 73 = .ok (.iinc 1 1, 3) := by decide +kernel
theorem dX11_next_76 : decode cX11_next 76 = .ok (.goto (-27), 3) := by decide +kernel
theorem dX11_next_79 : decode cX11_next 79 = .ok (.aload_n 0, 1) := by decide +kernel
theorem dX11_next_80 : decode cX11_next 80 = .ok (.aload_n 0, 1) := by decide +kernel
theorem dX11_next_81 : decode cX11_next 81 = .ok (.getfield 230, 3) := by decide +kernel
theorem dX11_next_84 : decode cX11_next 84 = .ok (.invokevirtual 276, 3) := by decide +kernel
theorem dX11_next_87 : decode cX11_next 87 = .ok (.iconst 0, 1) := by decide +kernel
theorem dX11_next_88 : decode cX11_next 88 = .ok (.istore_n 1, 1) := by decide +kernel
theorem dX11_next_89 : decode cX11_next 89 = .ok (.iload_n 1, 1) := by decide +kernel
theorem dX11_next_90 : decode cX11_next 90 = .ok (.iconst 4, 1) := by decide +kernel
theorem dX11_next_91 : decode cX11_next 91 = .ok (.if_icmp .ge 133, 3) := by decide +kernel
theorem dX11_next_94 : decode cX11_next 94 = .ok (.aload_n 0, 1) := by decide +kernel
theorem dX11_next_95 : decode cX11_next 95 = .ok (.getfield 7, 3) := by decide +kernel
theorem dX11_next_98 : decode cX11_next 98 = .ok (.iload_n 1, 1) := by decide +kernel
theorem dX11_next_99 : decode cX11_next 99 = .ok (.iaload, 1) := by decide +kernel
theorem dX11_next_100 : decode cX11_next 100 = .ok (.aload_n 0, 1) := by decide +kernel
theorem dX11_next_101 : decode cX11_next 101 = .ok (.getfield 16, 3) := by decide +kernel
theorem dX11_next_104 : decode cX11_next 104 = .ok (.iload_n 1, 1) := by decide +kernel
theorem dX11_next_105 : decode cX11_next 105 = .ok (.iaload, 1) := by decide +kernel
theorem dX11_next_106 : decode cX11_next 106 = .ok (.aload_n 0, 1) := by decide +kernel
theorem dX11_next_107 : decode cX11_next 107 = .ok (.getfield 13, 3) := by decide +kernel
theorem dX11_next_110 : decode cX11_next 110 = .ok (.iload_n 1, 1) := by decide +kernel
theorem dX11_next_111 : decode cX11_next 111 = .ok (.iaload, 1) := by decide +kernel
theorem dX11_next_112 : decode cX11_next 112 = .ok (.isub, 1) := by decide +kernel
theorem dX11_next_113 : decode cX11_next 113 = .ok (.imul, 1) := by decide +kernel
theorem dX11_next_114 : decode cX11_next 114 = .ok (.istore_n 2, 1) := by decide +kernel
theorem dX11_next_115 : decode cX11_next 115 = .ok (.iconst 0, 1) := by decide +kernel
theorem dX11_next_116 : decode cX11_next 116 = .ok (.istore_n 3, 1) := by decide +kernel
theorem dX11_next_117 : decode cX11_next 117 = .ok (.iconst 0, 1) := by decide +kernel
theorem dX11_next_118 : decode cX11_next 118 = .ok (.istore 4, 2) := by decide +kernel
theorem dX11_next_120 : decode cX11_next 120 = .ok (.iload 4, 2) := by decide +kernel
theorem dX11_next_122 : decode cX11_next 122 = .ok (.bipush 48, 2) := by decide +kernel
theorem dX11_next_124 : decode cX11_next 124 = .ok (.if_icmp .ge 24, 3) := by decide +kernel
theorem dX11_next_127 : decode cX11_next 127 = .ok (.iload_n 3, 1) := by decide +kernel
theorem dX11_next_128 : decode cX11_next 128 = .ok (.aload_n 0, 1) := by decide +kernel
theorem dX11_next_129 : decode cX11_next 129 = .ok (.getfield 88, 3) := by decide +kernel
theorem dX11_next_132 : decode cX11_next 132 = .ok (.bipush 48, 2) := by decide +kernel
theorem dX11_next_134 : decode cX11_next 134 = .ok (.iload_n 1, 1) := by decide +kernel
theorem dX11_next_135 : decode cX11_next 135 = .ok (.imul, 1) := by decide +kernel
theorem dX11_next_136 : decode cX11_next 136 = .ok (.iload 4, 2) := by decide +kernel
theorem dX11_next_138 : decode cX11_next 138 = .ok (.iadd, 1) := by decide +kernel
theorem dX11_next_139 : decode cX11_next 139 = .ok (.iaload, 1) := by decide +kernel
theorem dX11_next_140 : decode cX11_next 140 = .ok (.iadd, 1) := by decide +kernel
theorem dX11_next_141 : decode cX11_next 141 = .ok (.istore_n 3, 1) := by decide +kernel
theorem dX11_next_142 : decode cX11_next 142 = .ok (.iinc 4 1, 3) := by decide +kernel
theorem dX11_next_145 : decode cX11_next 145 = .ok (.goto (-25), 3) := by decide +kernel
theorem dX11_next_148 : decode cX11_next 148 = .ok (.aload_n 0, 1) := by decide +kernel
theorem dX11_next_149 : decode cX11_next 149 = .ok (.getfield 124, 3) := by decide +kernel
theorem dX11_next_152 : decode cX11_next 152 = .ok (.iload_n 1, 1) := by decide +kernel
theorem dX11_next_153 : decode cX11_next 153 = .ok (.dup2, 1) := by decide +kernel
theorem dX11_next_154 : decode cX11_next 154 = .ok (.iaload, 1) := by decide +kernel
theorem dX11_next_155 : decode cX11_next 155 = .ok (.iload_n 2, 1) := by decide +kernel
theorem dX11_next_156 : decode cX11_next 156 = .ok (.iadd, 1) := by decide +kernel
theorem dX11_next_157 : decode cX11_next 157 = .ok (.iastore, 1) := by decide +kernel
theorem dX11_next_158 : decode cX11_next 158 = .ok (.aload_n 0, 1) := by decide +kernel
theorem dX11_next_159 : decode cX11_next 159 = .ok (.getfield 127, 3) := by decide +kernel
theorem dX11_next_162 : decode cX11_next 162 = .ok (.iload_n 1, 1) := by decide +kernel
theorem dX11_next_163 : decode cX11_next 163 = .ok (.dup2, 1) := by decide +kernel
theorem dX11_next_164 : decode cX11_next 164 = .ok (.iaload, 1) := by decide +kernel
theorem dX11_next_165 : decode cX11_next 165 = .ok (.iload_n 3, 1) := by decide +kernel
theorem dX11_next_166 : decode cX11_next 166 = .ok (.iadd, 1) := by decide +kernel
theorem dX11_next_167 : decode cX11_next 167 = .ok (.iastore, 1) := by decide +kernel
theorem dX11_next_168 : decode cX11_next 168 = .ok (.aload_n 0, 1) := by decide +kernel
theorem dX11_next_169 : decode cX11_next 169 = .ok (.getfield 121, 3) := by decide +kernel
theorem dX11_next_172 : decode cX11_next 172 = .ok (.bipush 100, 2) := by decide +kernel
theorem dX11_next_174 : decode cX11_next 174 = .ok (.iload_n 1, 1) := by decide +kernel
theorem dX11_next_175 : decode cX11_next 175 = .ok (.imul, 1) := by decide +kernel
theorem dX11_next_176 : decode cX11_next 176 = .ok (.aload_n 0, 1) := by decide +kernel
theorem dX11_next_177 : decode cX11_next 177 = .ok (.getfield 230, 3) := by decide +kernel
theorem dX11_next_180 : decode cX11_next 180 = .ok (.iadd, 1) := by decide +kernel
theorem dX11_next_181 : decode cX11_next 181 = .ok (.iload_n 2, 1) := by decide +kernel
theorem dX11_next_182 : decode cX11_next 182 = .ok (.iload_n 3, 1) := by decide +kernel
theorem dX11_next_183 : decode cX11_next 183 = .ok (.isub, 1) := by decide +kernel
theorem dX11_next_184 : decode cX11_next 184 = .ok (.bipush 10, 2) := by decide +kernel
theorem dX11_next_186 : decode cX11_next 186 = .ok (.idiv, 1) := by decide +kernel
theorem dX11_next_187 : decode cX11_next 187 = .ok (.iastore, 1) := by decide +kernel
theorem dX11_next_188 : decode cX11_next 188 = .ok (.aload_n 0, 1) := by decide +kernel
theorem dX11_next_189 : decode cX11_next 189 = .ok (.getfield 130, 3) := by decide +kernel
theorem dX11_next_192 : decode cX11_next 192 = .ok (.iload_n 1, 1) := by decide +kernel
theorem dX11_next_193 : decode cX11_next 193 = .ok (.dup2, 1) := by decide +kernel
theorem dX11_next_194 : decode cX11_next 194 = .ok (.iaload, 1) := by decide +kernel
theorem dX11_next_195 : decode cX11_next 195 = .ok (.iload_n 2, 1) := by decide +kernel
theorem dX11_next_196 : decode cX11_next 196 = .ok (.iload_n 3, 1) := by decide +kernel
theorem dX11_next_197 : decode cX11_next 197 = .ok (.isub, 1) := by decide +kernel
theorem dX11_next_198 : decode cX11_next 198 = .ok (.bipush 10, 2) := by decide +kernel
theorem dX11_next_200 : decode cX11_next 200 = .ok (.idiv, 1) := by decide +kernel
theorem dX11_next_201 : decode cX11_next 201 = .ok (.iadd, 1) := by decide +kernel
theorem dX11_next_202 : decode cX11_next 202 = .ok (.iastore, 1) := by decide +kernel
theorem dX11_next_203 : decode cX11_next 203 = .ok (.aload_n 0, 1) := by decide +kernel
theorem dX11_next_204 : decode cX11_next 204 = .ok (.getfield 133, 3) := by decide +kernel
theorem dX11_next_207 : decode cX11_next 207 = .ok (.iload_n 1, 1) := by decide +kernel
theorem dX11_next_208 : decode cX11_next 208 = .ok (.dup2, 1) := by decide +kernel
theorem dX11_next_209 : decode cX11_next 209 = .ok (.iaload, 1) := by decide +kernel
theorem dX11_next_210 : decode cX11_next 210 = .ok (.iload_n 2, 1) := by decide +kernel
theorem dX11_next_211 : decode cX11_next 211 = .ok (.iload_n 3, 1) := by decide +kernel
theorem dX11_next_212 : decode cX11_next 212 = .ok (.isub, 1) := by decide +kernel
theorem dX11_next_213 : decode cX11_next 213 = .ok (.bipush 10, 2) := by decide +kernel
theorem dX11_next_215 : decode cX11_next 215 = .ok (.irem, 1) := by decide +kernel
theorem dX11_next_216 : decode cX11_next 216 = .ok (.iadd, 1) := by decide +kernel
theorem dX11_next_217 : decode cX11_next 217 = .ok (.iastore, 1) := by decide +kernel
theorem dX11_next_218 : decode cX11_next 218 = .ok (.iinc 1 1, 3) := by decide +kernel
theorem dX11_next_221 : decode cX11_next 221 = .ok (.goto (-132), 3) := by decide +kernel
theorem dX11_next_224 : decode cX11_next 224 = .ok (.iconst 0, 1) := by decide +kernel
theorem dX11_next_225 : decode cX11_next 225 = .ok (.istore_n 1, 1) := by decide +kernel
theorem dX11_next_226 : decode cX11_next 226 = .ok (.iload_n 1, 1) := by decide +kernel
theorem dX11_next_227 : decode cX11_next 227 = .ok (.aload_n 0, 1) := by decide +kernel
theorem dX11_next_228 : decode cX11_next 228 = .ok (.getfield 233, 3) := by decide +kernel
theorem dX11_next_231 : decode cX11_next 231 = .ok (.if_icmp .ge 84, 3) := by decide +kernel
theorem dX11_next_234 : decode cX11_next 234 = .ok (.aload_n 0, 1) := by decide +kernel
theorem dX11_next_235 : decode cX11_next 235 = .ok (.iload_n 1, 1) := by decide +kernel
theorem dX11_next_236 : decode cX11_next 236 = .ok (.aload_n 0, 1) := by decide +kernel
theorem dX11_next_237 : decode cX11_next 237 = .ok (.getfield 230, 3) := by decide +kernel
theorem dX11_next_240 : decode cX11_next 240 = .ok (.invokevirtual 236, 3) := by decide +kernel
theorem dX11_next_243 : decode cX11_next 243 = .ok (.ifCond .ne 6, 3) := by decide +kernel
theorem dX11_next_246 : decode cX11_next 246 = .ok (.goto 63, 3) := by decide +kernel
theorem dX11_next_249 : decode cX11_next 249 = .ok (.aload_n 0, 1) := by decide +kernel
theorem dX11_next_250 : decode cX11_next 250 = .ok (.getfield 76, 3) := by decide +kernel
theorem dX11_next_253 : decode cX11_next 253 = .ok (.iload_n 1, 1) := by decide +kernel
theorem dX11_next_254 : decode cX11_next 254 = .ok (.dup2, 1) := by decide +kernel
theorem dX11_next_255 : decode cX11_next 255 = .ok (.iaload, 1) := by decide +kernel
theorem dX11_next_256 : decode cX11_next 256 = .ok (.iconst 1, 1) := by decide +kernel
theorem dX11_next_257 : decode cX11_next 257 = .ok (.iadd, 1) := by decide +kernel
theorem dX11_next_258 : decode cX11_next 258 = .ok (.iastore, 1) := by decide +kernel
theorem dX11_next_259 : decode cX11_next 259 = .ok (.aload_n 0, 1) := by decide +kernel
theorem dX11_next_260 : decode cX11_next 260 = .ok (.getfield 79, 3) := by decide +kernel
theorem dX11_next_263 : decode cX11_next 263 = .ok (.iload_n 1, 1) := by decide +kernel
theorem dX11_next_264 : decode cX11_next 264 = .ok (.dup2, 1) := by decide +kernel
theorem dX11_next_265 : decode cX11_next 265 = .ok (.iaload, 1) := by decide +kernel
theorem dX11_next_266 : decode cX11_next 266 = .ok (.aload_n 0, 1) := by decide +kernel
theorem dX11_next_267 : decode cX11_next 267 = .ok (.getfield 25, 3) := by decide +kernel
theorem dX11_next_270 : decode cX11_next 270 = .ok (.aload_n 0, 1) := by decide +kernel
theorem dX11_next_271 : decode cX11_next 271 = .ok (.getfield 61, 3) := by decide +kernel
theorem dX11_next_274 : decode cX11_next 274 = .ok (.iload_n 1, 1) := by decide +kernel
theorem dX11_next_275 : decode cX11_next 275 = .ok (.iaload, 1) := by decide +kernel
theorem dX11_next_276 : decode cX11_next 276 = .ok (.iaload, 1) := by decide +kernel
theorem dX11_next_277 : decode cX11_next 277 = .ok (.iadd, 1) := by decide +kernel
theorem dX11_next_278 : decode cX11_next 278 = .ok (.iastore, 1) := by decide +kernel
theorem dX11_next_279 : decode cX11_next 279 = .ok (.aload_n 0, 1) := by decide +kernel
theorem dX11_next_280 : decode cX11_next 280 = .ok (.getfield 82, 3) := by decide +kernel
theorem dX11_next_283 : decode cX11_next 283 = .ok (.iload_n 1, 1) := by decide +kernel
theorem dX11_next_284 : decode cX11_next 284 = .ok (.dup2, 1) := by decide +kernel
theorem dX11_next_285 : decode cX11_next 285 = .ok (.iaload, 1) := by decide +kernel
theorem dX11_next_286 : decode cX11_next 286 = .ok (.aload_n 0, 1) := by decide +kernel
theorem dX11_next_287 : decode cX11_next 287 = .ok (.getfield 100, 3) := by decide +kernel
theorem dX11_next_290 : decode cX11_next 290 = .ok (.iload_n 1, 1) := by decide +kernel
theorem dX11_next_291 : decode cX11_next 291 = .ok (.iaload, 1) := by decide +kernel
theorem dX11_next_292 : decode cX11_next 292 = .ok (.iadd, 1) := by decide +kernel
theorem dX11_next_293 : decode cX11_next 293 = .ok (.iastore, 1) := by decide +kernel
theorem dX11_next_294 : decode cX11_next 294 = .ok (.aload_n 0, 1) := by decide +kernel
theorem dX11_next_295 : decode cX11_next 295 = .ok (.getfield 85, 3) := by decide +kernel
theorem dX11_next_298 : decode cX11_next 298 = .ok (.iload_n 1, 1) := by decide +kernel
theorem dX11_next_299 : decode cX11_next 299 = .ok (.dup2, 1) := by decide +kernel
theorem dX11_next_300 : decode cX11_next 300 = .ok (.iaload, 1) := by decide +kernel
theorem dX11_next_301 : decode cX11_next 301 = .ok (.aload_n 0, 1) := by decide +kernel
theorem dX11_next_302 : decode cX11_next 302 = .ok (.getfield 94, 3) := by decide +kernel
theorem dX11_next_305 : decode cX11_next 305 = .ok (.iload_n 1, 1) := by decide +kernel
theorem dX11_next_306 : decode cX11_next 306 = .ok (.iaload, 1) := by decide +kernel
theorem dX11_next_307 : decode cX11_next 307 = .ok (.iadd, 1) := by decide +kernel
theorem dX11_next_308 : decode cX11_next 308 = .ok (.iastore, 1) := by decide +kernel
theorem dX11_next_309 : decode cX11_next 309 = .ok (.iinc 1 1, 3) := by decide +kernel
theorem dX11_next_312 : decode cX11_next 312 = .ok (.goto (-86), 3) := by decide +kernel
theorem dX11_next_315 : decode cX11_next 315 = .ok (.aload_n 0, 1) := by decide +kernel
theorem dX11_next_316 : decode cX11_next 316 = .ok (.dup, 1) := by decide +kernel
theorem dX11_next_317 : decode cX11_next 317 = .ok (.getfield 230, 3) := by decide +kernel
theorem dX11_next_320 : decode cX11_next 320 = .ok (.iconst 1, 1) := by decide +kernel
theorem dX11_next_321 : decode cX11_next 321 = .ok (.iadd, 1) := by decide +kernel
theorem dX11_next_322 : decode cX11_next 322 = .ok (.putfield 230, 3) := by decide +kernel
theorem dX11_next_325 : decode cX11_next 325 = .ok (.aload_n 0, 1) := by decide +kernel
theorem dX11_next_326 : decode cX11_next 326 = .ok (.iconst 0, 1) := by decide +kernel
theorem dX11_next_327 : decode cX11_next 327 = .ok (.putfield 291, 3) := by decide +kernel
theorem dX11_next_330 : decode cX11_next 330 = .ok (.iconst 0, 1) := by decide +kernel
theorem dX11_next_331 : decode cX11_next 331 = .ok (.istore_n 1, 1) := by decide +kernel
theorem dX11_next_332 : decode cX11_next 332 = .ok (.iload_n 1, 1) := by decide +kernel
theorem dX11_next_333 : decode cX11_next 333 = .ok (.iconst 4, 1) := by decide +kernel
theorem dX11_next_334 : decode cX11_next 334 = .ok (.if_icmp .ge 62, 3) := by decide +kernel
theorem dX11_next_337 : decode cX11_next 337 = .ok (.aload_n 0, 1) := by decide +kernel
theorem dX11_next_338 : decode cX11_next 338 = .ok (.getfield 230, 3) := by decide +kernel
theorem dX11_next_341 : decode cX11_next 341 = .ok (.bipush 20, 2) := by decide +kernel
theorem dX11_next_343 : decode cX11_next 343 = .ok (.if_icmp .lt 53, 3) := by decide +kernel
theorem dX11_next_346 : decode cX11_next 346 = .ok (.aload_n 0, 1) := by decide +kernel
theorem dX11_next_347 : decode cX11_next 347 = .ok (.dup, 1) := by decide +kernel
theorem dX11_next_348 : decode cX11_next 348 = .ok (.getfield 295, 3) := by decide +kernel
theorem dX11_next_351 : decode cX11_next 351 = .ok (.aload_n 0, 1) := by decide +kernel
theorem dX11_next_352 : decode cX11_next 352 = .ok (.getfield 121, 3) := by decide +kernel
theorem dX11_next_355 : decode cX11_next 355 = .ok (.bipush 100, 2) := by decide +kernel
theorem dX11_next_357 : decode cX11_next 357 = .ok (.iload_n 1, 1) := by decide +kernel
theorem dX11_next_358 : decode cX11_next 358 = .ok (.imul, 1) := by decide +kernel
theorem dX11_next_359 : decode cX11_next 359 = .ok (.aload_n 0, 1) := by decide +kernel
theorem dX11_next_360 : decode cX11_next 360 = .ok (.getfield 230, 3) := by decide +kernel
theorem dX11_next_363 : decode cX11_next 363 = .ok (.iadd, 1) := by decide +kernel
theorem dX11_next_364 : decode cX11_next 364 = .ok (.bipush 20, 2) := by decide +kernel
theorem dX11_next_366 : decode cX11_next 366 = .ok (.isub, 1) := by decide +kernel
theorem dX11_next_367 : decode cX11_next 367 = .ok (.iaload, 1) := by decide +kernel
theorem dX11_next_368 : decode cX11_next 368 = .ok (.iadd, 1) := by decide +kernel
theorem dX11_next_369 : decode cX11_next 369 = .ok (.putfield 295, 3) := by decide +kernel
theorem dX11_next_372 : decode cX11_next 372 = .ok (.aload_n 0, 1) := by decide +kernel
theorem dX11_next_373 : decode cX11_next 373 = .ok (.getfield 121, 3) := by decide +kernel
theorem dX11_next_376 : decode cX11_next 376 = .ok (.bipush 100, 2) := by decide +kernel
theorem dX11_next_378 : decode cX11_next 378 = .ok (.iload_n 1, 1) := by decide +kernel
theorem dX11_next_379 : decode cX11_next 379 = .ok (.imul, 1) := by decide +kernel
theorem dX11_next_380 : decode cX11_next 380 = .ok (.aload_n 0, 1) := by decide +kernel
theorem dX11_next_381 : decode cX11_next 381 = .ok (.getfield 230, 3) := by decide +kernel
theorem dX11_next_384 : decode cX11_next 384 = .ok (.iadd, 1) := by decide +kernel
theorem dX11_next_385 : decode cX11_next 385 = .ok (.bipush 20, 2) := by decide +kernel
theorem dX11_next_387 : decode cX11_next 387 = .ok (.isub, 1) := by decide +kernel
theorem dX11_next_388 : decode cX11_next 388 = .ok (.iconst 0, 1) := by decide +kernel
theorem dX11_next_389 : decode cX11_next 389 = .ok (.iastore, 1) := by decide +kernel
theorem dX11_next_390 : decode cX11_next 390 = .ok (.iinc 1 1, 3) := by decide +kernel
theorem dX11_next_393 : decode cX11_next 393 = .ok (.goto (-61), 3) := by decide +kernel
theorem dX11_next_396 : decode cX11_next 396 = .ok (.aload_n 0, 1) := by decide +kernel
theorem dX11_next_397 : decode cX11_next 397 = .ok (.getfield 230, 3) := by decide +kernel
theorem dX11_next_400 : decode cX11_next 400 = .ok (.ireturn, 1) := by decide +kernel
set_option maxRecDepth 20000 in
theorem ggX11_water_X11_isSpring : GoodIn wsX11_water wsX11_isSpring := goodIn_r _ [8, 9, 10, 7, 11] (by decide +kernel) (by decide +kernel)
set_option maxRecDepth 20000 in
theorem gX11_water_X11_isSpring : GoodIn wsX11_water (va_wsS RX11 140 yX11_isSpring wsX11_isSpring) := goodIn_app (goodIn_of _ (by decide +kernel)) ggX11_water_X11_isSpring
theorem dX11_water_0 : decode cX11_water 0 = .ok (.iload_n 1, 1) := by decide +kernel
theorem dX11_water_1 : decode cX11_water 1 = .ok (.invokestatic 140, 3) := by decide +kernel
theorem dX11_water_4 : decode cX11_water 4 = .ok (.ifCond .ne 5, 3) := by decide +kernel
theorem dX11_water_7 : decode cX11_water 7 = .ok (.iconst (-1), 1) := by decide +kernel
theorem dX11_water_8 : decode cX11_water 8 = .ok (.ireturn, 1) := by decide +kernel
theorem dX11_water_9 : decode cX11_water 9 = .ok (.iload_n 2, 1) := by decide +kernel
theorem dX11_water_10 : decode cX11_water 10 = .ok (.ifCond .ne 12, 3) := by decide +kernel
theorem dX11_water_13 : decode cX11_water 13 = .ok (.aload_n 0, 1) := by decide +kernel
theorem dX11_water_14 : decode cX11_water 14 = .ok (.getfield 124, 3) := by decide +kernel
theorem dX11_water_17 : decode cX11_water 17 = .ok (.iload_n 1, 1) := by decide +kernel
theorem dX11_water_18 : decode cX11_water 18 = .ok (.iaload, 1) := by decide +kernel
theorem dX11_water_19 : decode cX11_water 19 = .ok (.goto 46, 3) := by decide +kernel
theorem dX11_water_22 : decode cX11_water 22 = .ok (.iload_n 2, 1) := by decide +kernel
theorem dX11_water_23 : decode cX11_water 23 = .ok (.iconst 1, 1) := by decide +kernel
theorem dX11_water_24 : decode cX11_water 24 = .ok (.if_icmp .ne 12, 3) := by decide +kernel
theorem dX11_water_27 : decode cX11_water 27 = .ok (.aload_n 0, 1) := by decide +kernel
theorem dX11_water_28 : decode cX11_water 28 = .ok (.getfield 127, 3) := by decide +kernel
theorem dX11_water_31 : decode cX11_water 31 = .ok (.iload_n 1, 1) := by decide +kernel
theorem dX11_water_32 : decode cX11_water 32 = .ok (.iaload, 1) := by decide +kernel
theorem dX11_water_33 : decode cX11_water 33 = .ok (.goto 32, 3) := by decide +kernel
theorem dX11_water_36 : decode cX11_water 36 = .ok (.iload_n 2, 1) := by decide +kernel
theorem dX11_water_37 : decode cX11_water 37 = .ok (.iconst 2, 1) := by decide +kernel
theorem dX11_water_38 : decode cX11_water 38 = .ok (.if_icmp .ne 12, 3) := by decide +kernel
theorem dX11_water_41 : decode cX11_water 41 = .ok (.aload_n 0, 1) := by decide +kernel
theorem dX11_water_42 : decode cX11_water 42 = .ok (.getfield 130, 3) := by decide +kernel
theorem dX11_water_45 : decode cX11_water 45 = .ok (.iload_n 1, 1) := by decide +kernel
theorem dX11_water_46 : decode cX11_water 46 = .ok (.iaload, 1) := by decide +kernel
theorem dX11_water_47 : decode cX11_water 47 = .ok (.goto 18, 3) := by decide +kernel
theorem dX11_water_50 : decode cX11_water 50 = .ok (.iload_n 2, 1) := by decide +kernel
theorem dX11_water_51 : decode cX11_water 51 = .ok (.iconst 3, 1) := by decide +kernel
theorem dX11_water_52 : decode cX11_water 52 = .ok (.if_icmp .ne 12, 3) := by decide +kernel
theorem dX11_water_55 : decode cX11_water 55 = .ok (.aload_n 0, 1) := by decide +kernel
theorem dX11_water_56 : decode cX11_water 56 = .ok (.getfield 133, 3) := by decide +kernel
theorem dX11_water_59 : decode cX11_water 59 = .ok (.iload_n 1, 1) := by decide +kernel
theorem dX11_water_60 : decode cX11_water 60 = .ok (.iaload, 1) := by decide +kernel
theorem dX11_water_61 : decode cX11_water 61 = .ok (.goto 4, 3) := by decide +kernel
theorem dX11_water_64 : decode cX11_water 64 = .ok (.iconst (-1), 1) := by decide +kernel
theorem dX11_water_65 : decode cX11_water 65 = .ok (.ireturn, 1) := by decide +kernel
set_option maxRecDepth 20000 in
theorem ggX11_bottles_X11_isSpring : GoodIn wsX11_bottles wsX11_isSpring := goodIn_r _ [5, 6, 7, 4, 8] (by decide +kernel) (by decide +kernel)
set_option maxRecDepth 20000 in
theorem gX11_bottles_X11_isSpring : GoodIn wsX11_bottles (va_wsS RX11 140 yX11_isSpring wsX11_isSpring) := goodIn_app (goodIn_of _ (by decide +kernel)) ggX11_bottles_X11_isSpring
set_option maxRecDepth 20000 in
theorem ggX11_bottles_X11_isDay : GoodIn wsX11_bottles wsX11_isDay := goodIn_r _ [11, 6, 7, 4, 8] (by decide +kernel) (by decide +kernel)
set_option maxRecDepth 20000 in
theorem gX11_bottles_X11_isDay : GoodIn wsX11_bottles (va_wsS RX11 269 yX11_isDay wsX11_isDay) := goodIn_app (goodIn_of _ (by decide +kernel)) ggX11_bottles_X11_isDay
theorem dX11_bottles_0 : decode cX11_bottles 0 = .ok (.iload_n 1, 1) := by decide +kernel
theorem dX11_bottles_1 : decode cX11_bottles 1 = .ok (.invokestatic 140, 3) := by decide +kernel
theorem dX11_bottles_4 : decode cX11_bottles 4 = .ok (.ifCond .eq 25, 3) := by decide +kernel
theorem dX11_bottles_7 : decode cX11_bottles 7 = .ok (.iload_n 2, 1) := by decide +kernel
theorem dX11_bottles_8 : decode cX11_bottles 8 = .ok (.iconst 0, 1) := by decide +kernel
theorem dX11_bottles_9 : decode cX11_bottles 9 = .ok (.invokestatic 269, 3) := by decide +kernel
theorem dX11_bottles_12 : decode cX11_bottles 12 = .ok (.ifCond .eq 17, 3) := by decide +kernel
theorem dX11_bottles_15 : decode cX11_bottles 15 = .ok (.aload_n 0, 1) := by decide +kernel
theorem dX11_bottles_16 : decode cX11_bottles 16 = .ok (.getfield 121, 3) := by decide +kernel
theorem dX11_bottles_19 : decode cX11_bottles 19 = .ok (.bipush 100, 2) := by decide +kernel
theorem dX11_bottles_21 : decode cX11_bottles 21 = .ok (.iload_n 1, 1) := by decide +kernel
theorem dX11_bottles_22 : decode cX11_bottles 22 = .ok (.imul, 1) := by decide +kernel
theorem dX11_bottles_23 : decode cX11_bottles 23 = .ok (.iload_n 2, 1) := by decide +kernel
theorem dX11_bottles_24 : decode cX11_bottles 24 = .ok (.iadd, 1) := by decide +kernel
theorem dX11_bottles_25 : decode cX11_bottles 25 = .ok (.iaload, 1) := by decide +kernel
theorem dX11_bottles_26 : decode cX11_bottles 26 = .ok (.goto 4, 3) := by decide +kernel
theorem dX11_bottles_29 : decode cX11_bottles 29 = .ok (.iconst (-1), 1) := by decide +kernel
theorem dX11_bottles_30 : decode cX11_bottles 30 = .ok (.ireturn, 1) := by decide +kernel
set_option maxRecDepth 20000 in
theorem ggX11_sell_X11_isIn : GoodIn wsX11_sell wsX11_isIn := goodIn_r _ [6] (by decide +kernel) (by decide +kernel)
set_option maxRecDepth 20000 in
theorem gX11_sell_X11_isIn : GoodIn wsX11_sell (va_wsS RX11 136 yX11_isIn wsX11_isIn) := goodIn_app (goodIn_of _ (by decide +kernel)) ggX11_sell_X11_isIn
theorem dX11_sell_0 : decode cX11_sell 0 = .ok (.iload_n 1, 1) := by decide +kernel
theorem dX11_sell_1 : decode cX11_sell 1 = .ok (.iconst 1, 1) := by decide +kernel
theorem dX11_sell_2 : decode cX11_sell 2 = .ok (.sipush 999, 3) := by decide +kernel
theorem dX11_sell_5 : decode cX11_sell 5 = .ok (.invokestatic 136, 3) := by decide +kernel
theorem dX11_sell_8 : decode cX11_sell 8 = .ok (.ifCond .ne 5, 3) := by decide +kernel
theorem dX11_sell_11 : decode cX11_sell 11 = .ok (.iconst (-1), 1) := by decide +kernel
theorem dX11_sell_12 : decode cX11_sell 12 = .ok (.ireturn, 1) := by decide +kernel
theorem dX11_sell_13 : decode cX11_sell 13 = .ok (.iload_n 1, 1) := by decide +kernel
theorem dX11_sell_14 : decode cX11_sell 14 = .ok (.istore_n 2, 1) := by decide +kernel
theorem dX11_sell_15 : decode cX11_sell 15 = .ok (.iconst 0, 1) := by decide +kernel
theorem dX11_sell_16 : decode cX11_sell 16 = .ok (.istore_n 3, 1) := by decide +kernel
theorem dX11_sell_17 : decode cX11_sell 17 = .ok (.iload_n 3, 1) := by decide +kernel
theorem dX11_sell_18 : decode cX11_sell 18 = .ok (.bipush 100, 2) := by decide +kernel
theorem dX11_sell_20 : decode cX11_sell 20 = .ok (.if_icmp .ge 80, 3) := by decide +kernel
theorem dX11_sell_23 : decode cX11_sell 23 = .ok (.iconst 0, 1) := by decide +kernel
theorem dX11_sell_24 : decode cX11_sell 24 = .ok (.istore 4, 2) := by decide +kernel
theorem dX11_sell_26 : decode cX11_sell 26 = .ok (.iload 4, 2) := by decide +kernel
theorem dX11_sell_28 : decode cX11_sell 28 = .ok (.iconst 4, 1) := by decide +kernel
theorem dX11_sell_29 : decode cX11_sell 29 = .ok (.if_icmp .ge 65, 3) := by decide +kernel
theorem dX11_sell_32 : decode cX11_sell 32 = .ok (.aload_n 0, 1) := by decide +kernel
theorem dX11_sell_33 : decode cX11_sell 33 = .ok (.getfield 121, 3) := by decide +kernel
theorem dX11_sell_36 : decode cX11_sell 36 = .ok (.bipush 100, 2) := by decide +kernel
theorem dX11_sell_38 : decode cX11_sell 38 = .ok (.iload 4, 2) := by decide +kernel
theorem dX11_sell_40 : decode cX11_sell 40 = .ok (.imul, 1) := by decide +kernel
theorem dX11_sell_41 : decode cX11_sell 41 = .ok (.iload_n 3, 1) := by decide +kernel
theorem dX11_sell_42 : decode cX11_sell 42 = .ok (.iadd, 1) := by decide +kernel
theorem dX11_sell_43 : decode cX11_sell 43 = .ok (.iaload, 1) := by decide +kernel
theorem dX11_sell_44 : decode cX11_sell 44 = .ok (.iload_n 2, 1) := by decide +kernel
theorem dX11_sell_45 : decode cX11_sell 45 = .ok (.if_icmp .ge 18, 3) := by decide +kernel
theorem dX11_sell_48 : decode cX11_sell 48 = .ok (.aload_n 0, 1) := by decide +kernel
theorem dX11_sell_49 : decode cX11_sell 49 = .ok (.getfield 121, 3) := by decide +kernel
theorem dX11_sell_52 : decode cX11_sell 52 = .ok (.bipush 100, 2) := by decide +kernel
theorem dX11_sell_54 : decode cX11_sell 54 = .ok (.iload 4, 2) := by decide +kernel
theorem dX11_sell_56 : decode cX11_sell 56 = .ok (.imul, 1) := by decide +kernel
theorem dX11_sell_57 : decode cX11_sell 57 = .ok (.iload_n 3, 1) := by decide +kernel
theorem dX11_sell_58 : decode cX11_sell 58 = .ok (.iadd, 1) := by decide +kernel
theorem dX11_sell_59 : decode cX11_sell 59 = .ok (.iaload, 1) := by decide +kernel
theorem dX11_sell_60 : decode cX11_sell 60 = .ok (.goto 4, 3) := by decide +kernel
theorem dX11_sell_63 : decode cX11_sell 63 = .ok (.iload_n 2, 1) := by decide +kernel
theorem dX11_sell_64 : decode cX11_sell 64 = .ok (.istore 5, 2) := by decide +kernel
theorem dX11_sell_66 : decode cX11_sell 66 = .ok (.aload_n 0, 1) := by decide +kernel
theorem dX11_sell_67 : decode cX11_sell 67 = .ok (.getfield 121, 3) := by decide +kernel
theorem dX11_sell_70 : decode cX11_sell 70 = .ok (.bipush 100, 2) := by decide +kernel
theorem dX11_sell_72 : decode cX11_sell 72 = .ok (.iload 4, 2) := by decide +kernel
theorem dX11_sell_74 : decode cX11_sell 74 = .ok (.imul, 1) := by decide +kernel
theorem dX11_sell_75 : decode cX11_sell 75 = .ok (.iload_n 3, 1) := by decide +kernel
theorem dX11_sell_76 : decode cX11_sell 76 = .ok (.iadd, 1) := by decide +kernel
theorem dX11_sell_77 : decode cX11_sell 77 = .ok (.dup2, 1) := by decide +kernel
theorem dX11_sell_78 : decode cX11_sell 78 = .ok (.iaload, 1) := by decide +kernel
theorem dX11_sell_79 : decode cX11_sell 79 = .ok (.iload 5, 2) := by decide +kernel
theorem dX11_sell_81 : decode cX11_sell 81 = .ok (.isub, 1) := by decide +kernel
theorem dX11_sell_82 : decode cX11_sell 82 = .ok (.iastore, 1) := by decide +kernel
theorem dX11_sell_83 : decode cX11_sell 83 = .ok (.iload_n 2, 1) := by decide +kernel
theorem dX11_sell_84 : decode cX11_sell 84 = .ok (.iload 5, 2) := by decide +kernel
theorem dX11_sell_86 : decode cX11_sell 86 = .ok (.isub, 1) := by decide +kernel
theorem dX11_sell_87 : decode cX11_sell 87 = .ok (.istore_n 2, 1) := by decide +kernel
theorem dX11_sell_88 : decode cX11_sell 88 = .ok (.iinc 4 1, 3) := by decide +kernel
theorem dX11_sell_91 : decode cX11_sell 91 = .ok (.goto (-65), 3) := by decide +kernel
theorem dX11_sell_94 : decode cX11_sell 94 = .ok (.iinc 3 1, 3) := by decide +kernel
theorem dX11_sell_97 : decode cX11_sell 97 = .ok (.goto (-80), 3) := by decide +kernel
theorem dX11_sell_100 : decode cX11_sell 100 = .ok (.aload_n 0, 1) := by decide +kernel
theorem dX11_sell_101 : decode cX11_sell 101 = .ok (.dup, 1) := by decide +kernel
theorem dX11_sell_102 : decode cX11_sell 102 = .ok (.getfield 298, 3) := by decide +kernel
theorem dX11_sell_105 : decode cX11_sell 105 = .ok (.iload_n 1, 1) := by decide +kernel
theorem dX11_sell_106 : decode cX11_sell 106 = .ok (.iload_n 2, 1) := by decide +kernel
theorem dX11_sell_107 : decode cX11_sell 107 = .ok (.isub, 1) := by decide +kernel
theorem dX11_sell_108 : decode cX11_sell 108 = .ok (.iadd, 1) := by decide +kernel
theorem dX11_sell_109 : decode cX11_sell 109 = .ok (.putfield 298, 3) := by decide +kernel
theorem dX11_sell_112 : decode cX11_sell 112 = .ok (.iload_n 1, 1) := by decide +kernel
theorem dX11_sell_113 : decode cX11_sell 113 = .ok (.iload_n 2, 1) := by decide +kernel
theorem dX11_sell_114 : decode cX11_sell 114 = .ok (.isub, 1) := by decide +kernel
theorem dX11_sell_115 : decode cX11_sell 115 = .ok (.ireturn, 1) := by decide +kernel
set_option maxRecDepth 20000 in
theorem ggX11_bill_X11_isIn : GoodIn wsX11_bill wsX11_isIn := goodIn_r _ [9] (by decide +kernel) (by decide +kernel)
set_option maxRecDepth 20000 in
theorem gX11_bill_X11_isIn : GoodIn wsX11_bill (va_wsS RX11 136 yX11_isIn wsX11_isIn) := goodIn_app (goodIn_of _ (by decide +kernel)) ggX11_bill_X11_isIn
theorem dX11_bill_0 : decode cX11_bill 0 = .ok (.iload_n 1, 1) := by decide +kernel
theorem dX11_bill_1 : decode cX11_bill 1 = .ok (.iconst 0, 1) := by decide +kernel
theorem dX11_bill_2 : decode cX11_bill 2 = .ok (.aload_n 0, 1) := by decide +kernel
theorem dX11_bill_3 : decode cX11_bill 3 = .ok (.getfield 233, 3) := by decide +kernel
theorem dX11_bill_6 : decode cX11_bill 6 = .ok (.iconst 1, 1) := by decide +kernel
theorem dX11_bill_7 : decode cX11_bill 7 = .ok (.isub, 1) := by decide +kernel
theorem dX11_bill_8 : decode cX11_bill 8 = .ok (.invokestatic 136, 3) := by decide +kernel
theorem dX11_bill_11 : decode cX11_bill 11 = .ok (.ifCond .ne 5, 3) := by decide +kernel
theorem dX11_bill_14 : decode cX11_bill 14 = .ok (.iconst (-1), 1) := by decide +kernel
theorem dX11_bill_15 : decode cX11_bill 15 = .ok (.ireturn, 1) := by decide +kernel
theorem dX11_bill_16 : decode cX11_bill 16 = .ok (.iload_n 2, 1) := by decide +kernel
theorem dX11_bill_17 : decode cX11_bill 17 = .ok (.ifCond .ne 12, 3) := by decide +kernel
theorem dX11_bill_20 : decode cX11_bill 20 = .ok (.aload_n 0, 1) := by decide +kernel
theorem dX11_bill_21 : decode cX11_bill 21 = .ok (.getfield 76, 3) := by decide +kernel
theorem dX11_bill_24 : decode cX11_bill 24 = .ok (.iload_n 1, 1) := by decide +kernel
theorem dX11_bill_25 : decode cX11_bill 25 = .ok (.iaload, 1) := by decide +kernel
theorem dX11_bill_26 : decode cX11_bill 26 = .ok (.goto 46, 3) := by decide +kernel
theorem dX11_bill_29 : decode cX11_bill 29 = .ok (.iload_n 2, 1) := by decide +kernel
theorem dX11_bill_30 : decode cX11_bill 30 = .ok (.iconst 1, 1) := by decide +kernel
theorem dX11_bill_31 : decode cX11_bill 31 = .ok (.if_icmp .ne 12, 3) := by decide +kernel
theorem dX11_bill_34 : decode cX11_bill 34 = .ok (.aload_n 0, 1) := by decide +kernel
theorem dX11_bill_35 : decode cX11_bill 35 = .ok (.getfield 79, 3) := by decide +kernel
theorem dX11_bill_38 : decode cX11_bill 38 = .ok (.iload_n 1, 1) := by decide +kernel
theorem dX11_bill_39 : decode cX11_bill 39 = .ok (.iaload, 1) := by decide +kernel
theorem dX11_bill_40 : decode cX11_bill 40 = .ok (.goto 32, 3) := by decide +kernel
theorem dX11_bill_43 : decode cX11_bill 43 = .ok (.iload_n 2, 1) := by decide +kernel
theorem dX11_bill_44 : decode cX11_bill 44 = .ok (.iconst 2, 1) := by decide +kernel
theorem dX11_bill_45 : decode cX11_bill 45 = .ok (.if_icmp .ne 12, 3) := by decide +kernel
theorem dX11_bill_48 : decode cX11_bill 48 = .ok (.aload_n 0, 1) := by decide +kernel
theorem dX11_bill_49 : decode cX11_bill 49 = .ok (.getfield 82, 3) := by decide +kernel
theorem dX11_bill_52 : decode cX11_bill 52 = .ok (.iload_n 1, 1) := by decide +kernel
theorem dX11_bill_53 : decode cX11_bill 53 = .ok (.iaload, 1) := by decide +kernel
theorem dX11_bill_54 : decode cX11_bill 54 = .ok (.goto 18, 3) := by decide +kernel
theorem dX11_bill_57 : decode cX11_bill 57 = .ok (.iload_n 2, 1) := by decide +kernel
theorem dX11_bill_58 : decode cX11_bill 58 = .ok (.iconst 3, 1) := by decide +kernel
theorem dX11_bill_59 : decode cX11_bill 59 = .ok (.if_icmp .ne 12, 3) := by decide +kernel
theorem dX11_bill_62 : decode cX11_bill 62 = .ok (.aload_n 0, 1) := by decide +kernel
theorem dX11_bill_63 : decode cX11_bill 63 = .ok (.getfield 85, 3) := by decide +kernel
theorem dX11_bill_66 : decode cX11_bill 66 = .ok (.iload_n 1, 1) := by decide +kernel
theorem dX11_bill_67 : decode cX11_bill 67 = .ok (.iaload, 1) := by decide +kernel
theorem dX11_bill_68 : decode cX11_bill 68 = .ok (.goto 4, 3) := by decide +kernel
theorem dX11_bill_71 : decode cX11_bill 71 = .ok (.iconst (-1), 1) := by decide +kernel
theorem dX11_bill_72 : decode cX11_bill 72 = .ok (.ireturn, 1) := by decide +kernel
set_option maxRecDepth 20000 in
theorem ggX11_look_X11_here : GoodIn wsX11_look wsX11_here := goodIn_r _ [11, 3, 12, 13, 14, 10, 15, 16, 17, 18, 19, 20, 21, 22, 23, 24, 25, 26, 27, 28, 29, 30, 31, 32, 33, 34, 35, 36, 37, 38, 39, 40, 41, 42, 43, 44, 45, 46, 47, 48, 49, 50, 51, 52, 53, 54, 55, 56, 57, 58, 59, 60, 61, 62, 63, 64, 65, 66, 67, 68, 69, 70, 71, 72, 73, 74, 75, 76, 77, 78, 79, 80, 81] (by decide +kernel) (by decide +kernel)
set_option maxRecDepth 20000 in
theorem gX11_look_X11_here : GoodIn wsX11_look (wsV RX11 262 RX11 yX11_here wsX11_here) := goodIn_app (goodIn_of _ (by decide +kernel)) ggX11_look_X11_here
theorem dX11_look_0 : decode cX11_look 0 = .ok (.iconst 0, 1) := by decide +kernel
theorem dX11_look_1 : decode cX11_look 1 = .ok (.istore_n 2, 1) := by decide +kernel
theorem dX11_look_2 : decode cX11_look 2 = .ok (.iload_n 1, 1) := by decide +kernel
theorem dX11_look_3 : decode cX11_look 3 = .ok (.tableswitch 101 0 6 #[41, 46, 51, 56, 65, 91, 96], 41) := by decide +kernel
theorem dX11_look_44 : decode cX11_look 44 = .ok (.aload_n 0, 1) := by decide +kernel
theorem dX11_look_45 : decode cX11_look 45 = .ok (.getfield 230, 3) := by decide +kernel
theorem dX11_look_48 : decode cX11_look 48 = .ok (.ireturn, 1) := by decide +kernel
theorem dX11_look_49 : decode cX11_look 49 = .ok (.aload_n 0, 1) := by decide +kernel
theorem dX11_look_50 : decode cX11_look 50 = .ok (.getfield 207, 3) := by decide +kernel
theorem dX11_look_53 : decode cX11_look 53 = .ok (.ireturn, 1) := by decide +kernel
theorem dX11_look_54 : decode cX11_look 54 = .ok (.aload_n 0, 1) := by decide +kernel
theorem dX11_look_55 : decode cX11_look 55 = .ok (.getfield 233, 3) := by decide +kernel
theorem dX11_look_58 : decode cX11_look 58 = .ok (.ireturn, 1) := by decide +kernel
theorem dX11_look_59 : decode cX11_look 59 = .ok (.aload_n 0, 1) := by decide +kernel
theorem dX11_look_60 : decode cX11_look 60 = .ok (.aload_n 0, 1) := by decide +kernel
theorem dX11_look_61 : decode cX11_look 61 = .ok (.getfield 230, 3) := by decide +kernel
theorem dX11_look_64 : decode cX11_look 64 = .ok (.invokevirtual 262, 3) := by decide +kernel
theorem dX11_look_67 : decode cX11_look 67 = .ok (.ireturn, 1) := by decide +kernel
theorem dX11_look_68 : decode cX11_look 68 = .ok (.iconst 0, 1) := by decide +kernel
theorem dX11_look_69 : decode cX11_look 69 = .ok (.istore_n 3, 1) := by decide +kernel
theorem dX11_look_70 : decode cX11_look 70 = .ok (.iload_n 3, 1) := by decide +kernel
theorem dX11_look_71 : decode cX11_look 71 = .ok (.sipush 400, 3) := by decide +kernel
theorem dX11_look_74 : decode cX11_look 74 = .ok (.if_icmp .ge 18, 3) := by decide +kernel
theorem dX11_look_77 : decode cX11_look 77 = .ok (.iload_n 2, 1) := by decide +kernel
theorem dX11_look_78 : decode cX11_look 78 = .ok (.aload_n 0, 1) := by decide +kernel
theorem dX11_look_79 : decode cX11_look 79 = .ok (.getfield 121, 3) := by decide +kernel
theorem dX11_look_82 : decode cX11_look 82 = .ok (.iload_n 3, 1) := by decide +kernel
theorem dX11_look_83 : decode cX11_look 83 = .ok (.iaload, 1) := by decide +kernel
theorem dX11_look_84 : decode cX11_look 84 = .ok (.iadd, 1) := by decide +kernel
theorem dX11_look_85 : decode cX11_look 85 = .ok (.istore_n 2, 1) := by decide +kernel
theorem dX11_look_86 : decode cX11_look 86 = .ok (.iinc 3 1, 3) := by decide +kernel
theorem dX11_look_89 : decode cX11_look 89 = .ok (.goto (-19), 3) := by decide +kernel
theorem dX11_look_92 : decode cX11_look 92 = .ok (.iload_n 2, 1) := by decide +kernel
theorem dX11_look_93 : decode cX11_look 93 = .ok (.ireturn, 1) := by decide +kernel
theorem dX11_look_94 : decode cX11_look 94 = .ok (.aload_n 0, 1) := by decide +kernel
theorem dX11_look_95 : decode cX11_look 95 = .ok (.getfield 298, 3) := by decide +kernel
theorem dX11_look_98 : decode cX11_look 98 = .ok (.ireturn, 1) := by decide +kernel
theorem dX11_look_99 : decode cX11_look 99 = .ok (.aload_n 0, 1) := by decide +kernel
theorem dX11_look_100 : decode cX11_look 100 = .ok (.getfield 295, 3) := by decide +kernel
theorem dX11_look_103 : decode cX11_look 103 = .ok (.ireturn, 1) := by decide +kernel
theorem dX11_look_104 : decode cX11_look 104 = .ok (.iconst (-1), 1) := by decide +kernel
theorem dX11_look_105 : decode cX11_look 105 = .ok (.ireturn, 1) := by decide +kernel
theorem dJ9_max_7cf53_0 : decode cJ9_max_7cf53 0 = .ok (.iload_n 0, 1) := by decide +kernel
theorem dJ9_max_7cf53_1 : decode cJ9_max_7cf53 1 = .ok (.iload_n 1, 1) := by decide +kernel
theorem dJ9_max_7cf53_2 : decode cJ9_max_7cf53 2 = .ok (.if_icmp .lt 7, 3) := by decide +kernel
theorem dJ9_max_7cf53_5 : decode cJ9_max_7cf53 5 = .ok (.iload_n 0, 1) := by decide +kernel
theorem dJ9_max_7cf53_6 : decode cJ9_max_7cf53 6 = .ok (.goto 4, 3) := by decide +kernel
theorem dJ9_max_7cf53_9 : decode cJ9_max_7cf53 9 = .ok (.iload_n 1, 1) := by decide +kernel
theorem dJ9_max_7cf53_10 : decode cJ9_max_7cf53 10 = .ok (.ireturn, 1) := by decide +kernel
theorem dJ9_min_7cf53_0 : decode cJ9_min_7cf53 0 = .ok (.iload_n 0, 1) := by decide +kernel
theorem dJ9_min_7cf53_1 : decode cJ9_min_7cf53 1 = .ok (.iload_n 1, 1) := by decide +kernel
theorem dJ9_min_7cf53_2 : decode cJ9_min_7cf53 2 = .ok (.if_icmp .gt 7, 3) := by decide +kernel
theorem dJ9_min_7cf53_5 : decode cJ9_min_7cf53 5 = .ok (.iload_n 0, 1) := by decide +kernel
theorem dJ9_min_7cf53_6 : decode cJ9_min_7cf53 6 = .ok (.goto 4, 3) := by decide +kernel
theorem dJ9_min_7cf53_9 : decode cJ9_min_7cf53 9 = .ok (.iload_n 1, 1) := by decide +kernel
theorem dJ9_min_7cf53_10 : decode cJ9_min_7cf53 10 = .ok (.ireturn, 1) := by decide +kernel
set_option maxRecDepth 20000 in
theorem ggJ0_length_8abf5_J0_coder_7d493 : GoodIn wsJ0_length_8abf5 wsJ0_coder_7d493 := goodIn_r _ [6, 7, 8] (by decide +kernel) (by decide +kernel)
set_option maxRecDepth 20000 in
theorem gJ0_length_8abf5_J0_coder_7d493 : GoodIn wsJ0_length_8abf5 (wsV RJ0 335 RJ0 yJ0_coder_7d493 wsJ0_coder_7d493) := goodIn_app (goodIn_of _ (by decide +kernel)) ggJ0_length_8abf5_J0_coder_7d493
theorem dJ0_length_8abf5_0 : decode cJ0_length_8abf5 0 = .ok (.aload_n 0, 1) := by decide +kernel
theorem dJ0_length_8abf5_1 : decode cJ0_length_8abf5 1 = .ok (.getfield 9, 3) := by decide +kernel
theorem dJ0_length_8abf5_4 : decode cJ0_length_8abf5 4 = .ok (.arraylength, 1) := by decide +kernel
theorem dJ0_length_8abf5_5 : decode cJ0_length_8abf5 5 = .ok (.aload_n 0, 1) := by decide +kernel
theorem dJ0_length_8abf5_6 : decode cJ0_length_8abf5 6 = .ok (.invokevirtual 335, 3) := by decide +kernel
theorem dJ0_length_8abf5_9 : decode cJ0_length_8abf5 9 = .ok (.ishr, 1) := by decide +kernel
theorem dJ0_length_8abf5_10 : decode cJ0_length_8abf5 10 = .ok (.ireturn, 1) := by decide +kernel
set_option maxRecDepth 20000 in
theorem ggJ0_charAt_5068e_J0_isLatin1_aae02 : GoodIn wsJ0_charAt_5068e wsJ0_isLatin1_aae02 := goodIn_r _ [6, 7, 8] (by decide +kernel) (by decide +kernel)
set_option maxRecDepth 20000 in
theorem gJ0_charAt_5068e_J0_isLatin1_aae02 : GoodIn wsJ0_charAt_5068e (wsV RJ0 492 RJ0 yJ0_isLatin1_aae02 wsJ0_isLatin1_aae02) := goodIn_app (goodIn_of _ (by decide +kernel)) ggJ0_charAt_5068e_J0_isLatin1_aae02
set_option maxRecDepth 20000 in
theorem ggJ0_charAt_5068e_J1_charAt_3b067 : GoodIn wsJ0_charAt_5068e wsJ1_charAt_3b067 := goodIn_r _ [12, 13, 14, 5, 15, 16, 17, 18, 19, 20] (by decide +kernel) (by decide +kernel)
set_option maxRecDepth 20000 in
theorem gJ0_charAt_5068e_J1_charAt_3b067 : GoodIn wsJ0_charAt_5068e (va_wsS RJ0 495 yJ1_charAt_3b067 wsJ1_charAt_3b067) := goodIn_app (goodIn_of _ (by decide +kernel)) ggJ0_charAt_5068e_J1_charAt_3b067
set_option maxRecDepth 20000 in
theorem ggJ0_charAt_5068e_J2_charAt_3b067 : GoodIn wsJ0_charAt_5068e wsJ2_charAt_3b067 := goodIn_r _ [24, 25, 26, 23, 27, 28, 29, 30, 31, 14, 5, 15, 16, 17, 18, 19, 20, 32, 33, 34, 35, 36, 37] (by decide +kernel) (by decide +kernel)
set_option maxRecDepth 20000 in
theorem gJ0_charAt_5068e_J2_charAt_3b067 : GoodIn wsJ0_charAt_5068e (va_wsS RJ0 498 yJ2_charAt_3b067 wsJ2_charAt_3b067) := goodIn_app (goodIn_of _ (by decide +kernel)) ggJ0_charAt_5068e_J2_charAt_3b067
theorem dJ0_charAt_5068e_0 : decode cJ0_charAt_5068e 0 = .ok (.aload_n 0, 1) := by decide +kernel
theorem dJ0_charAt_5068e_1 : decode cJ0_charAt_5068e 1 = .ok (.invokevirtual 492, 3) := by decide +kernel
theorem dJ0_charAt_5068e_4 : decode cJ0_charAt_5068e 4 = .ok (.ifCond .eq 12, 3) := by decide +kernel
theorem dJ0_charAt_5068e_7 : decode cJ0_charAt_5068e 7 = .ok (.aload_n 0, 1) := by decide +kernel
theorem dJ0_charAt_5068e_8 : decode cJ0_charAt_5068e 8 = .ok (.getfield 9, 3) := by decide +kernel
theorem dJ0_charAt_5068e_11 : decode cJ0_charAt_5068e 11 = .ok (.iload_n 1, 1) := by decide +kernel
theorem dJ0_charAt_5068e_12 : decode cJ0_charAt_5068e 12 = .ok (.invokestatic 495, 3) := by decide +kernel
theorem dJ0_charAt_5068e_15 : decode cJ0_charAt_5068e 15 = .ok (.ireturn, 1) := by decide +kernel
theorem dJ0_charAt_5068e_16 : decode cJ0_charAt_5068e 16 = .ok (.aload_n 0, 1) := by decide +kernel
theorem dJ0_charAt_5068e_17 : decode cJ0_charAt_5068e 17 = .ok (.getfield 9, 3) := by decide +kernel
theorem dJ0_charAt_5068e_20 : decode cJ0_charAt_5068e 20 = .ok (.iload_n 1, 1) := by decide +kernel
theorem dJ0_charAt_5068e_21 : decode cJ0_charAt_5068e 21 = .ok (.invokestatic 498, 3) := by decide +kernel
theorem dJ0_charAt_5068e_24 : decode cJ0_charAt_5068e 24 = .ok (.ireturn, 1) := by decide +kernel
theorem dJ0_coder_7d493_0 : decode cJ0_coder_7d493 0 = .ok (.getstatic 38, 3) := by decide +kernel
theorem dJ0_coder_7d493_3 : decode cJ0_coder_7d493 3 = .ok (.ifCond .eq 10, 3) := by decide +kernel
theorem dJ0_coder_7d493_6 : decode cJ0_coder_7d493 6 = .ok (.aload_n 0, 1) := by decide +kernel
theorem dJ0_coder_7d493_7 : decode cJ0_coder_7d493 7 = .ok (.getfield 15, 3) := by decide +kernel
theorem dJ0_coder_7d493_10 : decode cJ0_coder_7d493 10 = .ok (.goto 4, 3) := by decide +kernel
theorem dJ0_coder_7d493_13 : decode cJ0_coder_7d493 13 = .ok (.iconst 1, 1) := by decide +kernel
theorem dJ0_coder_7d493_14 : decode cJ0_coder_7d493 14 = .ok (.ireturn, 1) := by decide +kernel
theorem dJ0_isLatin1_aae02_0 : decode cJ0_isLatin1_aae02 0 = .ok (.getstatic 38, 3) := by decide +kernel
theorem dJ0_isLatin1_aae02_3 : decode cJ0_isLatin1_aae02 3 = .ok (.ifCond .eq 14, 3) := by decide +kernel
theorem dJ0_isLatin1_aae02_6 : decode cJ0_isLatin1_aae02 6 = .ok (.aload_n 0, 1) := by decide +kernel
theorem dJ0_isLatin1_aae02_7 : decode cJ0_isLatin1_aae02 7 = .ok (.getfield 15, 3) := by decide +kernel
theorem dJ0_isLatin1_aae02_10 : decode cJ0_isLatin1_aae02 10 = .ok (.ifCond .ne 7, 3) := by decide +kernel
theorem dJ0_isLatin1_aae02_13 : decode cJ0_isLatin1_aae02 13 = .ok (.iconst 1, 1) := by decide +kernel
theorem dJ0_isLatin1_aae02_14 : decode cJ0_isLatin1_aae02 14 = .ok (.goto 4, 3) := by decide +kernel
theorem dJ0_isLatin1_aae02_17 : decode cJ0_isLatin1_aae02 17 = .ok (.iconst 0, 1) := by decide +kernel
theorem dJ0_isLatin1_aae02_18 : decode cJ0_isLatin1_aae02 18 = .ok (.ireturn, 1) := by decide +kernel
set_option maxRecDepth 20000 in
theorem ggJ0_checkIndex_df160_J3_checkIndex_8e157 : GoodIn wsJ0_checkIndex_df160 wsJ3_checkIndex_8e157 := goodIn_r _ [5] (by decide +kernel) (by decide +kernel)
set_option maxRecDepth 20000 in
theorem gJ0_checkIndex_df160_J3_checkIndex_8e157 : GoodIn wsJ0_checkIndex_df160 (va_wsS RJ0 1059 yJ3_checkIndex_8e157 wsJ3_checkIndex_8e157) := goodIn_app (goodIn_of _ (by decide +kernel)) ggJ0_checkIndex_df160_J3_checkIndex_8e157
theorem dJ0_checkIndex_df160_0 : decode cJ0_checkIndex_df160 0 = .ok (.iload_n 0, 1) := by decide +kernel
theorem dJ0_checkIndex_df160_1 : decode cJ0_checkIndex_df160 1 = .ok (.iload_n 1, 1) := by decide +kernel
theorem dJ0_checkIndex_df160_2 : decode cJ0_checkIndex_df160 2 = .ok (.getstatic 1053, 3) := by decide +kernel
theorem dJ0_checkIndex_df160_5 : decode cJ0_checkIndex_df160 5 = .ok (.invokestatic 1059, 3) := by decide +kernel
theorem dJ0_checkIndex_df160_8 : decode cJ0_checkIndex_df160 8 = .ok (.pop, 1) := by decide +kernel
theorem dJ0_checkIndex_df160_9 : decode cJ0_checkIndex_df160 9 = .ok (.return_, 1) := by decide +kernel
set_option maxRecDepth 20000 in
theorem ggJ1_charAt_3b067_J0_checkIndex_df160 : GoodIn wsJ1_charAt_3b067 wsJ0_checkIndex_df160 := goodIn_r _ [4, 5, 6, 7, 8, 9] (by decide +kernel) (by decide +kernel)
set_option maxRecDepth 20000 in
theorem gJ1_charAt_3b067_J0_checkIndex_df160 : GoodIn wsJ1_charAt_3b067 (va_wsS RJ1 9 yJ0_checkIndex_df160 wsJ0_checkIndex_df160) := goodIn_app (goodIn_of _ (by decide +kernel)) ggJ1_charAt_3b067_J0_checkIndex_df160
theorem dJ1_charAt_3b067_0 : decode cJ1_charAt_3b067 0 = .ok (.iload_n 1, 1) := by decide +kernel
theorem dJ1_charAt_3b067_1 : decode cJ1_charAt_3b067 1 = .ok (.aload_n 0, 1) := by decide +kernel
theorem dJ1_charAt_3b067_2 : decode cJ1_charAt_3b067 2 = .ok (.arraylength, 1) := by decide +kernel
theorem dJ1_charAt_3b067_3 : decode cJ1_charAt_3b067 3 = .ok (.invokestatic 9, 3) := by decide +kernel
theorem dJ1_charAt_3b067_6 : decode cJ1_charAt_3b067 6 = .ok (.aload_n 0, 1) := by decide +kernel
theorem dJ1_charAt_3b067_7 : decode cJ1_charAt_3b067 7 = .ok (.iload_n 1, 1) := by decide +kernel
theorem dJ1_charAt_3b067_8 : decode cJ1_charAt_3b067 8 = .ok (.baload, 1) := by decide +kernel
theorem dJ1_charAt_3b067_9 : decode cJ1_charAt_3b067 9 = .ok (.sipush 255, 3) := by decide +kernel
theorem dJ1_charAt_3b067_12 : decode cJ1_charAt_3b067 12 = .ok (.iand, 1) := by decide +kernel
theorem dJ1_charAt_3b067_13 : decode cJ1_charAt_3b067 13 = .ok (.i2c, 1) := by decide +kernel
theorem dJ1_charAt_3b067_14 : decode cJ1_charAt_3b067 14 = .ok (.ireturn, 1) := by decide +kernel
set_option maxRecDepth 20000 in
theorem ggJ2_getChar_3b067_J2_length_9d52b : GoodIn wsJ2_getChar_3b067 wsJ2_length_9d52b := goodIn_r _ [7] (by decide +kernel) (by decide +kernel)
set_option maxRecDepth 20000 in
theorem gJ2_getChar_3b067_J2_length_9d52b : GoodIn wsJ2_getChar_3b067 (va_wsS RJ2 48 yJ2_length_9d52b wsJ2_length_9d52b) := goodIn_app (goodIn_of _ (by decide +kernel)) ggJ2_getChar_3b067_J2_length_9d52b
theorem dJ2_getChar_3b067_0 : decode cJ2_getChar_3b067 0 = .ok (.getstatic 44, 3) := by decide +kernel
theorem dJ2_getChar_3b067_3 : decode cJ2_getChar_3b067 3 = .ok (.ifCond .ne 25, 3) := by decide +kernel
theorem dJ2_getChar_3b067_6 : decode cJ2_getChar_3b067 6 = .ok (.iload_n 1, 1) := by decide +kernel
theorem dJ2_getChar_3b067_7 : decode cJ2_getChar_3b067 7 = .ok (.ifCond .lt 11, 3) := by decide +kernel
theorem dJ2_getChar_3b067_10 : decode cJ2_getChar_3b067 10 = .ok (.iload_n 1, 1) := by decide +kernel
theorem dJ2_getChar_3b067_11 : decode cJ2_getChar_3b067 11 = .ok (.aload_n 0, 1) := by decide +kernel
theorem dJ2_getChar_3b067_12 : decode cJ2_getChar_3b067 12 = .ok (.invokestatic 48, 3) := by decide +kernel
theorem dJ2_getChar_3b067_15 : decode cJ2_getChar_3b067 15 = .ok (.if_icmp .lt 13, 3) := by decide +kernel
theorem dJ2_getChar_3b067_18 : decode cJ2_getChar_3b067 18 = .ok (.new 52, 3) := by decide +kernel
theorem dJ2_getChar_3b067_21 : decode cJ2_getChar_3b067 21 = .ok (.dup, 1) := by decide +kernel
theorem dJ2_getChar_3b067_22 : decode cJ2_getChar_3b067 22 = .ok (.ldc 54, 2) := by decide +kernel
theorem dJ2_getChar_3b067_24 : decode cJ2_getChar_3b067 24 = .ok (.invokespecial 56, 3) := by decide +kernel
theorem dJ2_getChar_3b067_27 : decode cJ2_getChar_3b067 27 = .ok (.athrow, 1) := by decide +kernel
theorem dJ2_getChar_3b067_28 : decode cJ2_getChar_3b067 28 = .ok (.iload_n 1, 1) := by decide +kernel
theorem dJ2_getChar_3b067_29 : decode cJ2_getChar_3b067 29 = .ok (.iconst 1, 1) := by decide +kernel
theorem dJ2_getChar_3b067_30 : decode cJ2_getChar_3b067 30 = .ok (.ishl, 1) := by decide +kernel
theorem dJ2_getChar_3b067_31 : decode cJ2_getChar_3b067 31 = .ok (.istore_n 1, 1) := by decide +kernel
theorem dJ2_getChar_3b067_32 : decode cJ2_getChar_3b067 32 = .ok (.aload_n 0, 1) := by decide +kernel
theorem dJ2_getChar_3b067_33 : decode cJ2_getChar_3b067 33 = .ok (.iload_n 1, 1) := by decide +kernel
theorem dJ2_getChar_3b067_34 : decode cJ2_getChar_3b067 34 = .ok (.iinc 1 1, 3) := by decide +kernel
theorem dJ2_getChar_3b067_37 : decode cJ2_getChar_3b067 37 = .ok (.baload, 1) := by decide +kernel
theorem dJ2_getChar_3b067_38 : decode cJ2_getChar_3b067 38 = .ok (.sipush 255, 3) := by decide +kernel
theorem dJ2_getChar_3b067_41 : decode cJ2_getChar_3b067 41 = .ok (.iand, 1) := by decide +kernel
theorem dJ2_getChar_3b067_42 : decode cJ2_getChar_3b067 42 = .ok (.getstatic 59, 3) := by decide +kernel
theorem dJ2_getChar_3b067_45 : decode cJ2_getChar_3b067 45 = .ok (.ishl, 1) := by decide +kernel
theorem dJ2_getChar_3b067_46 : decode cJ2_getChar_3b067 46 = .ok (.aload_n 0, 1) := by decide +kernel
theorem dJ2_getChar_3b067_47 : decode cJ2_getChar_3b067 47 = .ok (.iload_n 1, 1) := by decide +kernel
theorem dJ2_getChar_3b067_48 : decode cJ2_getChar_3b067 48 = .ok (.baload, 1) := by decide +kernel
theorem dJ2_getChar_3b067_49 : decode cJ2_getChar_3b067 49 = .ok (.sipush 255, 3) := by decide +kernel
theorem dJ2_getChar_3b067_52 : decode cJ2_getChar_3b067 52 = .ok (.iand, 1) := by decide +kernel
theorem dJ2_getChar_3b067_53 : decode cJ2_getChar_3b067 53 = .ok (.getstatic 63, 3) := by decide +kernel
theorem dJ2_getChar_3b067_56 : decode cJ2_getChar_3b067 56 = .ok (.ishl, 1) := by decide +kernel
theorem dJ2_getChar_3b067_57 : decode cJ2_getChar_3b067 57 = .ok (.ior, 1) := by decide +kernel
theorem dJ2_getChar_3b067_58 : decode cJ2_getChar_3b067 58 = .ok (.i2c, 1) := by decide +kernel
theorem dJ2_getChar_3b067_59 : decode cJ2_getChar_3b067 59 = .ok (.ireturn, 1) := by decide +kernel
theorem dJ2_length_9d52b_0 : decode cJ2_length_9d52b 0 = .ok (.aload_n 0, 1) := by decide +kernel
theorem dJ2_length_9d52b_1 : decode cJ2_length_9d52b 1 = .ok (.arraylength, 1) := by decide +kernel
theorem dJ2_length_9d52b_2 : decode cJ2_length_9d52b 2 = .ok (.iconst 1, 1) := by decide +kernel
theorem dJ2_length_9d52b_3 : decode cJ2_length_9d52b 3 = .ok (.ishr, 1) := by decide +kernel
theorem dJ2_length_9d52b_4 : decode cJ2_length_9d52b 4 = .ok (.ireturn, 1) := by decide +kernel
set_option maxRecDepth 20000 in
theorem ggJ2_charAt_3b067_J2_checkIndex_2214a : GoodIn wsJ2_charAt_3b067 wsJ2_checkIndex_2214a := goodIn_r _ [4, 5, 6, 3, 7, 8, 9, 10, 11, 12, 13, 14, 15, 16] (by decide +kernel) (by decide +kernel)
