theorem dX8_readLetters_115 : decode cX8_readLetters 115 = .ok (.aload_n 0, 1) := by decide +kernel
theorem dX8_readLetters_116 : decode cX8_readLetters 116 = .ok (.invokevirtual 54, 3) := by decide +kernel
theorem dX8_readLetters_119 : decode cX8_readLetters 119 = .ok (.goto 5, 3) := by decide +kernel
theorem dX8_readLetters_122 : decode cX8_readLetters 122 = .ok (.bipush 13, 2) := by decide +kernel
theorem dX8_readLetters_124 : decode cX8_readLetters 124 = .ok (.putfield 19, 3) := by decide +kernel
theorem dX8_readLetters_127 : decode cX8_readLetters 127 = .ok (.return_, 1) := by decide +kernel
set_option maxRecDepth 20000 in
theorem ggX8_readDigits_X8_isDigit : GoodIn wsX8_readDigits wsX8_isDigit := goodIn_r _ [10] (by decide +kernel) (by decide +kernel)
set_option maxRecDepth 20000 in
theorem gX8_readDigits_X8_isDigit : GoodIn wsX8_readDigits (va_wsS RX8 44 yX8_isDigit wsX8_isDigit) := goodIn_app (goodIn_of _ (by decide +kernel)) ggX8_readDigits_X8_isDigit
theorem dX8_readDigits_0 : decode cX8_readDigits 0 = .ok (.aload_n 0, 1) := by decide +kernel
theorem dX8_readDigits_1 : decode cX8_readDigits 1 = .ok (.iconst 0, 1) := by decide +kernel
theorem dX8_readDigits_2 : decode cX8_readDigits 2 = .ok (.putfield 28, 3) := by decide +kernel
theorem dX8_readDigits_5 : decode cX8_readDigits 5 = .ok (.aload_n 0, 1) := by decide +kernel
theorem dX8_readDigits_6 : decode cX8_readDigits 6 = .ok (.getfield 25, 3) := by decide +kernel
theorem dX8_readDigits_9 : decode cX8_readDigits 9 = .ok (.aload_n 0, 1) := by decide +kernel
theorem dX8_readDigits_10 : decode cX8_readDigits 10 = .ok (.getfield 15, 3) := by decide +kernel
theorem dX8_readDigits_13 : decode cX8_readDigits 13 = .ok (.if_icmp .ge 55, 3) := by decide +kernel
theorem dX8_readDigits_16 : decode cX8_readDigits 16 = .ok (.aload_n 0, 1) := by decide +kernel
theorem dX8_readDigits_17 : decode cX8_readDigits 17 = .ok (.getfield 9, 3) := by decide +kernel
theorem dX8_readDigits_20 : decode cX8_readDigits 20 = .ok (.aload_n 0, 1) := by decide +kernel
theorem dX8_readDigits_21 : decode cX8_readDigits 21 = .ok (.getfield 25, 3) := by decide +kernel
theorem dX8_readDigits_24 : decode cX8_readDigits 24 = .ok (.baload, 1) := by decide +kernel
theorem dX8_readDigits_25 : decode cX8_readDigits 25 = .ok (.invokestatic 44, 3) := by decide +kernel
theorem dX8_readDigits_28 : decode cX8_readDigits 28 = .ok (.ifCond .eq 40, 3) := by decide +kernel
theorem dX8_readDigits_31 : decode cX8_readDigits 31 = .ok (.aload_n 0, 1) := by decide +kernel
theorem dX8_readDigits_32 : decode cX8_readDigits 32 = .ok (.aload_n 0, 1) := by decide +kernel
theorem dX8_readDigits_33 : decode cX8_readDigits 33 = .ok (.getfield 28, 3) := by decide +kernel
theorem dX8_readDigits_36 : decode cX8_readDigits 36 = .ok (.bipush 10, 2) := by decide +kernel
theorem dX8_readDigits_38 : decode cX8_readDigits 38 = .ok (.imul, 1) := by decide +kernel
theorem dX8_readDigits_39 : decode cX8_readDigits 39 = .ok (.aload_n 0, 1) := by decide +kernel
theorem dX8_readDigits_40 : decode cX8_readDigits 40 = .ok (.getfield 9, 3) := by decide +kernel
theorem dX8_readDigits_43 : decode cX8_readDigits 43 = .ok (.aload_n 0, 1) := by decide +kernel
theorem dX8_readDigits_44 : decode cX8_readDigits 44 = .ok (.getfield 25, 3) := by decide +kernel
theorem dX8_readDigits_47 : decode cX8_readDigits 47 = .ok (.baload, 1) := by decide +kernel
theorem dX8_readDigits_48 : decode cX8_readDigits 48 = .ok (.bipush 48, 2) := by decide +kernel
theorem dX8_readDigits_50 : decode cX8_readDigits 50 = .ok (.isub, 1) := by decide +kernel
theorem dX8_readDigits_51 : decode cX8_readDigits 51 = .ok (.iadd, 1) := by decide +kernel
theorem dX8_readDigits_52 : decode cX8_readDigits 52 = .ok (.putfield 28, 3) := by decide +kernel
theorem dX8_readDigits_55 : decode cX8_readDigits 55 = .ok (.aload_n 0, 1) := by decide +kernel
theorem dX8_readDigits_56 : decode cX8_readDigits 56 = .ok (.dup, 1) := by decide +kernel
theorem dX8_readDigits_57 : decode cX8_readDigits 57 = .ok (.getfield 25, 3) := by decide +kernel
theorem dX8_readDigits_60 : decode cX8_readDigits 60 = .ok (.iconst 1, 1) := by decide +kernel
theorem dX8_readDigits_61 : decode cX8_readDigits 61 = .ok (.iadd, 1) := by decide +kernel
theorem dX8_readDigits_62 : decode cX8_readDigits 62 = .ok (.putfield 25, 3) := by decide +kernel
theorem dX8_readDigits_65 : decode cX8_readDigits 65 = .ok (.goto (-60), 3) := by decide +kernel
theorem dX8_readDigits_68 : decode cX8_readDigits 68 = .ok (.aload_n 0, 1) := by decide +kernel
theorem dX8_readDigits_69 : decode cX8_readDigits 69 = .ok (.aload_n 0, 1) := by decide +kernel
theorem dX8_readDigits_70 : decode cX8_readDigits 70 = .ok (.getfield 25, 3) := by decide +kernel
theorem dX8_readDigits_73 : decode cX8_readDigits 73 = .ok (.aload_n 0, 1) := by decide +kernel
theorem dX8_readDigits_74 : decode cX8_readDigits 74 = .ok (.getfield 22, 3) := by decide +kernel
theorem dX8_readDigits_77 : decode cX8_readDigits 77 = .ok (.isub, 1) := by decide +kernel
theorem dX8_readDigits_78 : decode cX8_readDigits 78 = .ok (.iconst 2, 1) := by decide +kernel
theorem dX8_readDigits_79 : decode cX8_readDigits 79 = .ok (.if_icmp .gt 8, 3) := by decide +kernel
theorem dX8_readDigits_82 : decode cX8_readDigits 82 = .ok (.bipush 7, 2) := by decide +kernel
theorem dX8_readDigits_84 : decode cX8_readDigits 84 = .ok (.goto 5, 3) := by decide +kernel
theorem dX8_readDigits_87 : decode cX8_readDigits 87 = .ok (.bipush 13, 2) := by decide +kernel
theorem dX8_readDigits_89 : decode cX8_readDigits 89 = .ok (.putfield 19, 3) := by decide +kernel
theorem dX8_readDigits_92 : decode cX8_readDigits 92 = .ok (.return_, 1) := by decide +kernel
set_option maxRecDepth 20000 in
theorem ggX8_wordToken_X8_isWord : GoodIn wsX8_wordToken wsX8_isWord := goodIn_r _ [5, 6, 7, 8, 9, 10, 11, 12, 13, 14, 15, 16, 17, 18, 19, 20, 21, 22, 23, 24, 25, 26, 27, 28, 29, 30, 31, 32, 33, 34, 35, 36, 37, 38, 39, 40, 41, 42, 43, 44, 45, 46, 47, 48, 49, 50, 51, 52, 53, 54, 55, 56, 57, 58, 59, 60, 61, 62, 63, 64] (by decide +kernel) (by decide +kernel)
set_option maxRecDepth 20000 in
theorem gX8_wordToken_X8_isWord : GoodIn wsX8_wordToken (wsV RX8 60 RX8 yX8_isWord wsX8_isWord) := goodIn_app (goodIn_of _ (by decide +kernel)) ggX8_wordToken_X8_isWord
theorem dX8_wordToken_0 : decode cX8_wordToken 0 = .ok (.aload_n 0, 1) := by decide +kernel
theorem dX8_wordToken_1 : decode cX8_wordToken 1 = .ok (.ldc 58, 2) := by decide +kernel
theorem dX8_wordToken_3 : decode cX8_wordToken 3 = .ok (.invokevirtual 60, 3) := by decide +kernel
theorem dX8_wordToken_6 : decode cX8_wordToken 6 = .ok (.ifCond .eq 5, 3) := by decide +kernel
theorem dX8_wordToken_9 : decode cX8_wordToken 9 = .ok (.iconst 0, 1) := by decide +kernel
theorem dX8_wordToken_10 : decode cX8_wordToken 10 = .ok (.ireturn, 1) := by decide +kernel
theorem dX8_wordToken_11 : decode cX8_wordToken 11 = .ok (.aload_n 0, 1) := by decide +kernel
theorem dX8_wordToken_12 : decode cX8_wordToken 12 = .ok (.ldc 64, 2) := by decide +kernel
theorem dX8_wordToken_14 : decode cX8_wordToken 14 = .ok (.invokevirtual 60, 3) := by decide +kernel
theorem dX8_wordToken_17 : decode cX8_wordToken 17 = .ok (.ifCond .eq 5, 3) := by decide +kernel
theorem dX8_wordToken_20 : decode cX8_wordToken 20 = .ok (.iconst 1, 1) := by decide +kernel
theorem dX8_wordToken_21 : decode cX8_wordToken 21 = .ok (.ireturn, 1) := by decide +kernel
theorem dX8_wordToken_22 : decode cX8_wordToken 22 = .ok (.aload_n 0, 1) := by decide +kernel
theorem dX8_wordToken_23 : decode cX8_wordToken 23 = .ok (.ldc 66, 2) := by decide +kernel
theorem dX8_wordToken_25 : decode cX8_wordToken 25 = .ok (.invokevirtual 60, 3) := by decide +kernel
theorem dX8_wordToken_28 : decode cX8_wordToken 28 = .ok (.ifCond .eq 5, 3) := by decide +kernel
theorem dX8_wordToken_31 : decode cX8_wordToken 31 = .ok (.iconst 2, 1) := by decide +kernel
theorem dX8_wordToken_32 : decode cX8_wordToken 32 = .ok (.ireturn, 1) := by decide +kernel
theorem dX8_wordToken_33 : decode cX8_wordToken 33 = .ok (.aload_n 0, 1) := by decide +kernel
theorem dX8_wordToken_34 : decode cX8_wordToken 34 = .ok (.ldc 68, 2) := by decide +kernel
theorem dX8_wordToken_36 : decode cX8_wordToken 36 = .ok (.invokevirtual 60, 3) := by decide +kernel
theorem dX8_wordToken_39 : decode cX8_wordToken 39 = .ok (.ifCond .eq 5, 3) := by decide +kernel
theorem dX8_wordToken_42 : decode cX8_wordToken 42 = .ok (.iconst 3, 1) := by decide +kernel
theorem dX8_wordToken_43 : decode cX8_wordToken 43 = .ok (.ireturn, 1) := by decide +kernel
theorem dX8_wordToken_44 : decode cX8_wordToken 44 = .ok (.aload_n 0, 1) := by decide +kernel
theorem dX8_wordToken_45 : decode cX8_wordToken 45 = .ok (.ldc 70, 2) := by decide +kernel
theorem dX8_wordToken_47 : decode cX8_wordToken 47 = .ok (.invokevirtual 60, 3) := by decide +kernel
theorem dX8_wordToken_50 : decode cX8_wordToken 50 = .ok (.ifCond .eq 5, 3) := by decide +kernel
theorem dX8_wordToken_53 : decode cX8_wordToken 53 = .ok (.iconst 4, 1) := by decide +kernel
theorem dX8_wordToken_54 : decode cX8_wordToken 54 = .ok (.ireturn, 1) := by decide +kernel
theorem dX8_wordToken_55 : decode cX8_wordToken 55 = .ok (.aload_n 0, 1) := by decide +kernel
theorem dX8_wordToken_56 : decode cX8_wordToken 56 = .ok (.ldc 72, 2) := by decide +kernel
theorem dX8_wordToken_58 : decode cX8_wordToken 58 = .ok (.invokevirtual 60, 3) := by decide +kernel
theorem dX8_wordToken_61 : decode cX8_wordToken 61 = .ok (.ifCond .eq 7, 3) := by decide +kernel
theorem dX8_wordToken_64 : decode cX8_wordToken 64 = .ok (.iconst 5, 1) := by decide +kernel
theorem dX8_wordToken_65 : decode cX8_wordToken 65 = .ok (.goto 5, 3) := by decide +kernel
theorem dX8_wordToken_68 : decode cX8_wordToken 68 = .ok (.bipush 6, 2) := by decide +kernel
theorem dX8_wordToken_70 : decode cX8_wordToken 70 = .ok (.ireturn, 1) := by decide +kernel
set_option maxRecDepth 20000 in
theorem ggX8_isWord_J0_length_8abf5 : GoodIn wsX8_isWord wsJ0_length_8abf5 := goodIn_r _ [8, 9, 10, 11, 12, 7, 13, 14, 15] (by decide +kernel) (by decide +kernel)
set_option maxRecDepth 20000 in
theorem gX8_isWord_J0_length_8abf5 : GoodIn wsX8_isWord (wsV RX8 74 RJ0 yJ0_length_8abf5 wsJ0_length_8abf5) := goodIn_app (goodIn_of _ (by decide +kernel)) ggX8_isWord_J0_length_8abf5
set_option maxRecDepth 20000 in
theorem ggX8_isWord_J0_charAt_5068e : GoodIn wsX8_isWord wsJ0_charAt_5068e := goodIn_r _ [19, 9, 20, 21, 22, 7, 23, 14, 15, 24, 25, 26, 27, 28, 29, 30, 31, 32, 33, 34, 35, 36, 37, 38, 39, 40, 41, 42, 43, 44, 45, 46, 47, 48, 49, 50, 51, 52] (by decide +kernel) (by decide +kernel)
set_option maxRecDepth 20000 in
theorem gX8_isWord_J0_charAt_5068e : GoodIn wsX8_isWord (wsV RX8 78 RJ0 yJ0_charAt_5068e wsJ0_charAt_5068e) := goodIn_app (goodIn_of _ (by decide +kernel)) ggX8_isWord_J0_charAt_5068e
theorem dX8_isWord_0 : decode cX8_isWord 0 = .ok (.aload_n 0, 1) := by decide +kernel
theorem dX8_isWord_1 : decode cX8_isWord 1 = .ok (.getfield 25, 3) := by decide +kernel
theorem dX8_isWord_4 : decode cX8_isWord 4 = .ok (.aload_n 0, 1) := by decide +kernel
theorem dX8_isWord_5 : decode cX8_isWord 5 = .ok (.getfield 22, 3) := by decide +kernel
theorem dX8_isWord_8 : decode cX8_isWord 8 = .ok (.isub, 1) := by decide +kernel
theorem dX8_isWord_9 : decode cX8_isWord 9 = .ok (.aload_n 1, 1) := by decide +kernel
theorem dX8_isWord_10 : decode cX8_isWord 10 = .ok (.invokevirtual 74, 3) := by decide +kernel
theorem dX8_isWord_13 : decode cX8_isWord 13 = .ok (.if_icmp .eq 5, 3) := by decide +kernel
theorem dX8_isWord_16 : decode cX8_isWord 16 = .ok (.iconst 0, 1) := by decide +kernel
theorem dX8_isWord_17 : decode cX8_isWord 17 = .ok (.ireturn, 1) := by decide +kernel
theorem dX8_isWord_18 : decode cX8_isWord 18 = .ok (.iconst 0, 1) := by decide +kernel
theorem dX8_isWord_19 : decode cX8_isWord 19 = .ok (.istore_n 2, 1) := by decide +kernel
theorem dX8_isWord_20 : decode cX8_isWord 20 = .ok (.iload_n 2, 1) := by decide +kernel
theorem dX8_isWord_21 : decode cX8_isWord 21 = .ok (.aload_n 1, 1) := by decide +kernel
theorem dX8_isWord_22 : decode cX8_isWord 22 = .ok (.invokevirtual 74, 3) := by decide +kernel
theorem dX8_isWord_25 : decode cX8_isWord 25 = .ok (.if_icmp .ge 30, 3) := by decide +kernel
theorem dX8_isWord_28 : decode cX8_isWord 28 = .ok (.aload_n 0, 1) := by decide +kernel
theorem dX8_isWord_29 : decode cX8_isWord 29 = .ok (.getfield 9, 3) := by decide +kernel
theorem dX8_isWord_32 : decode cX8_isWord 32 = .ok (.aload_n 0, 1) := by decide +kernel
theorem dX8_isWord_33 : decode cX8_isWord 33 = .ok (.getfield 22, 3) := by decide +kernel
theorem dX8_isWord_36 : decode cX8_isWord 36 = .ok (.iload_n 2, 1) := by decide +kernel
theorem dX8_isWord_37 : decode cX8_isWord 37 = .ok (.iadd, 1) := by decide +kernel
theorem dX8_isWord_38 : decode cX8_isWord 38 = .ok (.baload, 1) := by decide +kernel
theorem dX8_isWord_39 : decode cX8_isWord 39 = .ok (.aload_n 1, 1) := by decide +kernel
theorem dX8_isWord_40 : decode cX8_isWord 40 = .ok (.iload_n 2, 1) := by decide +kernel
theorem dX8_isWord_41 : decode cX8_isWord 41 = .ok (.invokevirtual 78, 3) := by decide +kernel
theorem dX8_isWord_44 : decode cX8_isWord 44 = .ok (.if_icmp .eq 5, 3) := by decide +kernel
theorem dX8_isWord_47 : decode cX8_isWord 47 = .ok (.iconst 0, 1) := by decide +kernel
theorem dX8_isWord_48 : decode cX8_isWord 48 = .ok (.ireturn, 1) := by decide +kernel
theorem dX8_isWord_49 : decode cX8_isWord 49 = .ok (.iinc 2 1, 3) := by decide +kernel
theorem dX8_isWord_52 : decode cX8_isWord 52 = .ok (.goto (-32), 3) := by decide +kernel
theorem dX8_isWord_55 : decode cX8_isWord 55 = .ok (.iconst 1, 1) := by decide +kernel
theorem dX8_isWord_56 : decode cX8_isWord 56 = .ok (.ireturn, 1) := by decide +kernel
theorem dX8_signToken_0 : decode cX8_signToken 0 = .ok (.iload_n 0, 1) := by decide +kernel
theorem dX8_signToken_1 : decode cX8_signToken 1 = .ok (.lookupswitch 55 #[(40, 49), (41, 52), (58, 43), (59, 46)], 43) := by decide +kernel
theorem dX8_signToken_44 : decode cX8_signToken 44 = .ok (.bipush 8, 2) := by decide +kernel
theorem dX8_signToken_46 : decode cX8_signToken 46 = .ok (.ireturn, 1) := by decide +kernel
theorem dX8_signToken_47 : decode cX8_signToken 47 = .ok (.bipush 9, 2) := by decide +kernel
theorem dX8_signToken_49 : decode cX8_signToken 49 = .ok (.ireturn, 1) := by decide +kernel
theorem dX8_signToken_50 : decode cX8_signToken 50 = .ok (.bipush 10, 2) := by decide +kernel
theorem dX8_signToken_52 : decode cX8_signToken 52 = .ok (.ireturn, 1) := by decide +kernel
theorem dX8_signToken_53 : decode cX8_signToken 53 = .ok (.bipush 11, 2) := by decide +kernel
theorem dX8_signToken_55 : decode cX8_signToken 55 = .ok (.ireturn, 1) := by decide +kernel
theorem dX8_signToken_56 : decode cX8_signToken 56 = .ok (.bipush 13, 2) := by decide +kernel
theorem dX8_signToken_58 : decode cX8_signToken 58 = .ok (.ireturn, 1) := by decide +kernel
theorem dX8_isBlank_0 : decode cX8_isBlank 0 = .ok (.iload_n 0, 1) := by decide +kernel
theorem dX8_isBlank_1 : decode cX8_isBlank 1 = .ok (.bipush 32, 2) := by decide +kernel
theorem dX8_isBlank_3 : decode cX8_isBlank 3 = .ok (.if_icmp .eq 9, 3) := by decide +kernel
theorem dX8_isBlank_6 : decode cX8_isBlank 6 = .ok (.iload_n 0, 1) := by decide +kernel
theorem dX8_isBlank_7 : decode cX8_isBlank 7 = .ok (.bipush 10, 2) := by decide +kernel
theorem dX8_isBlank_9 : decode cX8_isBlank 9 = .ok (.if_icmp .ne 7, 3) := by decide +kernel
theorem dX8_isBlank_12 : decode cX8_isBlank 12 = .ok (.iconst 1, 1) := by decide +kernel
theorem dX8_isBlank_13 : decode cX8_isBlank 13 = .ok (.goto 4, 3) := by decide +kernel
theorem dX8_isBlank_16 : decode cX8_isBlank 16 = .ok (.iconst 0, 1) := by decide +kernel
theorem dX8_isBlank_17 : decode cX8_isBlank 17 = .ok (.ireturn, 1) := by decide +kernel
theorem dX8_isLetter_0 : decode cX8_isLetter 0 = .ok (.iload_n 0, 1) := by decide +kernel
theorem dX8_isLetter_1 : decode cX8_isLetter 1 = .ok (.bipush 97, 2) := by decide +kernel
theorem dX8_isLetter_3 : decode cX8_isLetter 3 = .ok (.if_icmp .lt 9, 3) := by decide +kernel
theorem dX8_isLetter_6 : decode cX8_isLetter 6 = .ok (.iload_n 0, 1) := by decide +kernel
theorem dX8_isLetter_7 : decode cX8_isLetter 7 = .ok (.bipush 122, 2) := by decide +kernel
theorem dX8_isLetter_9 : decode cX8_isLetter 9 = .ok (.if_icmp .le 15, 3) := by decide +kernel
theorem dX8_isLetter_12 : decode cX8_isLetter 12 = .ok (.iload_n 0, 1) := by decide +kernel
theorem dX8_isLetter_13 : decode cX8_isLetter 13 = .ok (.bipush 65, 2) := by decide +kernel
theorem dX8_isLetter_15 : decode cX8_isLetter 15 = .ok (.if_icmp .lt 13, 3) := by decide +kernel
theorem dX8_isLetter_18 : decode cX8_isLetter 18 = .ok (.iload_n 0, 1) := by decide +kernel
theorem dX8_isLetter_19 : decode cX8_isLetter 19 = .ok (.bipush 90, 2) := by decide +kernel
theorem dX8_isLetter_21 : decode cX8_isLetter 21 = .ok (.if_icmp .gt 7, 3) := by decide +kernel
theorem dX8_isLetter_24 : decode cX8_isLetter 24 = .ok (.iconst 1, 1) := by decide +kernel
theorem dX8_isLetter_25 : decode cX8_isLetter 25 = .ok (.goto 4, 3) := by decide +kernel
theorem dX8_isLetter_28 : decode cX8_isLetter 28 = .ok (.iconst 0, 1) := by decide +kernel
theorem dX8_isLetter_29 : decode cX8_isLetter 29 = .ok (.ireturn, 1) := by decide +kernel
theorem dX8_isDigit_0 : decode cX8_isDigit 0 = .ok (.iload_n 0, 1) := by decide +kernel
theorem dX8_isDigit_1 : decode cX8_isDigit 1 = .ok (.bipush 48, 2) := by decide +kernel
theorem dX8_isDigit_3 : decode cX8_isDigit 3 = .ok (.if_icmp .lt 13, 3) := by decide +kernel
theorem dX8_isDigit_6 : decode cX8_isDigit 6 = .ok (.iload_n 0, 1) := by decide +kernel
theorem dX8_isDigit_7 : decode cX8_isDigit 7 = .ok (.bipush 57, 2) := by decide +kernel
theorem dX8_isDigit_9 : decode cX8_isDigit 9 = .ok (.if_icmp .gt 7, 3) := by decide +kernel
theorem dX8_isDigit_12 : decode cX8_isDigit 12 = .ok (.iconst 1, 1) := by decide +kernel
theorem dX8_isDigit_13 : decode cX8_isDigit 13 = .ok (.goto 4, 3) := by decide +kernel
theorem dX8_isDigit_16 : decode cX8_isDigit 16 = .ok (.iconst 0, 1) := by decide +kernel
theorem dX8_isDigit_17 : decode cX8_isDigit 17 = .ok (.ireturn, 1) := by decide +kernel
set_option maxRecDepth 20000 in
theorem ggX9_init_X2_init : GoodIn wsX9_init wsX2_init := goodIn_r _ [25, 26, 2, 3, 27, 28, 29, 30, 31, 32, 33, 34, 35, 36, 37, 38, 10, 39, 40, 41, 42, 43, 44, 45, 46, 47, 48, 49, 50, 51, 52, 53, 54, 55, 56, 57, 58, 59, 60, 61, 127, 128, 129, 130, 131, 132, 133, 97, 98, 99, 100, 101, 102, 103, 104, 105, 106, 134, 135, 136, 137, 138] (by decide +kernel) (by decide +kernel)
set_option maxRecDepth 20000 in
theorem gX9_init_X2_init : GoodIn wsX9_init (wsX2_init) := ggX9_init_X2_init
set_option maxRecDepth 20000 in
theorem ggX9_init_X7_init : GoodIn wsX9_init wsX7_init := goodIn_r _ [63, 64, 2, 3, 65, 66, 67, 68, 69, 70, 71, 72, 10, 73, 107, 108, 109, 110, 111, 112, 113, 114, 115] (by decide +kernel) (by decide +kernel)
set_option maxRecDepth 20000 in
theorem gX9_init_X7_init_n44 : GoodIn wsX9_init (wsX7_init) := ggX9_init_X7_init
set_option maxRecDepth 20000 in
theorem ggX9_init_X0_init : GoodIn wsX9_init wsX0_init := goodIn_r _ [75, 76, 2, 3, 77, 78, 116, 117] (by decide +kernel) (by decide +kernel)
set_option maxRecDepth 20000 in
theorem gX9_init_X0_init_n45 : GoodIn wsX9_init (wsX0_init) := ggX9_init_X0_init
set_option maxRecDepth 20000 in
theorem ggX9_init_X4_init : GoodIn wsX9_init wsX4_init := goodIn_r _ [80, 81, 2, 3, 82, 83, 84, 85, 86, 87, 88, 89, 90, 118, 119, 120, 121, 122, 123, 124, 125, 126] (by decide +kernel) (by decide +kernel)
set_option maxRecDepth 20000 in
theorem gX9_init_X4_init_n46 : GoodIn wsX9_init (wsX4_init) := ggX9_init_X4_init
theorem dX9_init_0 : decode cX9_init 0 = .ok (.aload_n 0, 1) := by decide +kernel
theorem dX9_init_1 : decode cX9_init 1 = .ok (.invokespecial 3, 3) := by decide +kernel
theorem dX9_init_4 : decode cX9_init 4 = .ok (.aload_n 0, 1) := by decide +kernel
theorem dX9_init_5 : decode cX9_init 5 = .ok (.iconst 4, 1) := by decide +kernel
theorem dX9_init_6 : decode cX9_init 6 = .ok (.anewarray 9, 3) := by decide +kernel
theorem dX9_init_9 : decode cX9_init 9 = .ok (.putfield 11, 3) := by decide +kernel
theorem dX9_init_12 : decode cX9_init 12 = .ok (.aload_n 0, 1) := by decide +kernel
theorem dX9_init_13 : decode cX9_init 13 = .ok (.bipush 6, 2) := by decide +kernel
theorem dX9_init_15 : decode cX9_init 15 = .ok (.anewarray 17, 3) := by decide +kernel
theorem dX9_init_18 : decode cX9_init 18 = .ok (.putfield 19, 3) := by decide +kernel
theorem dX9_init_21 : decode cX9_init 21 = .ok (.aload_n 0, 1) := by decide +kernel
theorem dX9_init_22 : decode cX9_init 22 = .ok (.bipush 8, 2) := by decide +kernel
theorem dX9_init_24 : decode cX9_init 24 = .ok (.anewarray 23, 3) := by decide +kernel
theorem dX9_init_27 : decode cX9_init 27 = .ok (.putfield 25, 3) := by decide +kernel
theorem dX9_init_30 : decode cX9_init 30 = .ok (.aload_n 0, 1) := by decide +kernel
theorem dX9_init_31 : decode cX9_init 31 = .ok (.iconst 4, 1) := by decide +kernel
theorem dX9_init_32 : decode cX9_init 32 = .ok (.newarray .int, 2) := by decide +kernel
theorem dX9_init_34 : decode cX9_init 34 = .ok (.putfield 29, 3) := by decide +kernel
theorem dX9_init_37 : decode cX9_init 37 = .ok (.aload_n 0, 1) := by decide +kernel
theorem dX9_init_38 : decode cX9_init 38 = .ok (.new 33, 3) := by decide +kernel
theorem dX9_init_41 : decode cX9_init 41 = .ok (.dup, 1) := by decide +kernel
theorem dX9_init_42 : decode cX9_init 42 = .ok (.invokespecial 35, 3) := by decide +kernel
theorem dX9_init_45 : decode cX9_init 45 = .ok (.putfield 36, 3) := by decide +kernel
theorem dX9_init_48 : decode cX9_init 48 = .ok (.aload_n 0, 1) := by decide +kernel
theorem dX9_init_49 : decode cX9_init 49 = .ok (.iconst 0, 1) := by decide +kernel
theorem dX9_init_50 : decode cX9_init 50 = .ok (.putfield 40, 3) := by decide +kernel
theorem dX9_init_53 : decode cX9_init 53 = .ok (.iconst 0, 1) := by decide +kernel
theorem dX9_init_54 : decode cX9_init 54 = .ok (.istore_n 1, 1) := by decide +kernel
theorem dX9_init_55 : decode cX9_init 55 = .ok (.iload_n 1, 1) := by decide +kernel
theorem dX9_init_56 : decode cX9_init 56 = .ok (.iconst 4, 1) := by decide +kernel
theorem dX9_init_57 : decode cX9_init 57 = .ok (.if_icmp .ge 22, 3) := by decide +kernel
theorem dX9_init_60 : decode cX9_init 60 = .ok (.aload_n 0, 1) := by decide +kernel
theorem dX9_init_61 : decode cX9_init 61 = .ok (.getfield 11, 3) := by decide +kernel
theorem dX9_init_64 : decode cX9_init 64 = .ok (.iload_n 1, 1) := by decide +kernel
theorem dX9_init_65 : decode cX9_init 65 = .ok (.new 9, 3) := by decide +kernel
theorem dX9_init_68 : decode cX9_init 68 = .ok (.dup, 1) := by decide +kernel
theorem dX9_init_69 : decode cX9_init 69 = .ok (.invokespecial 44, 3) := by decide +kernel
theorem dX9_init_72 : decode cX9_init 72 = .ok (.aastore, 1) := by decide +kernel
theorem dX9_init_73 : decode cX9_init 73 = .ok (.iinc 1 1, 3) := by decide +kernel
theorem dX9_init_76 : decode cX9_init 76 = .ok (.goto (-21), 3) := by decide +kernel
theorem dX9_init_79 : decode cX9_init 79 = .ok (.iconst 0, 1) := by decide +kernel
theorem dX9_init_80 : decode cX9_init 80 = .ok (.istore_n 1, 1) := by decide +kernel
theorem dX9_init_81 : decode cX9_init 81 = .ok (.iload_n 1, 1) := by decide +kernel
theorem dX9_init_82 : decode cX9_init 82 = .ok (.bipush 6, 2) := by decide +kernel
theorem dX9_init_84 : decode cX9_init 84 = .ok (.if_icmp .ge 22, 3) := by decide +kernel
theorem dX9_init_87 : decode cX9_init 87 = .ok (.aload_n 0, 1) := by decide +kernel
theorem dX9_init_88 : decode cX9_init 88 = .ok (.getfield 19, 3) := by decide +kernel
theorem dX9_init_91 : decode cX9_init 91 = .ok (.iload_n 1, 1) := by decide +kernel
theorem dX9_init_92 : decode cX9_init 92 = .ok (.new 17, 3) := by decide +kernel
theorem dX9_init_95 : decode cX9_init 95 = .ok (.dup, 1) := by decide +kernel
theorem dX9_init_96 : decode cX9_init 96 = .ok (.invokespecial 45, 3) := by decide +kernel
theorem dX9_init_99 : decode cX9_init 99 = .ok (.aastore, 1) := by decide +kernel
theorem dX9_init_100 : decode cX9_init 100 = .ok (.iinc 1 1, 3) := by decide +kernel
theorem dX9_init_103 : decode cX9_init 103 = .ok (.goto (-22), 3) := by decide +kernel
theorem dX9_init_106 : decode cX9_init 106 = .ok (.iconst 0, 1) := by decide +kernel
theorem dX9_init_107 : decode cX9_init 107 = .ok (.istore_n 1, 1) := by decide +kernel
theorem dX9_init_108 : decode cX9_init 108 = .ok (.iload_n 1, 1) := by decide +kernel
theorem dX9_init_109 : decode cX9_init 109 = .ok (.bipush 8, 2) := by decide +kernel
theorem dX9_init_111 : decode cX9_init 111 = .ok (.if_icmp .ge 22, 3) := by decide +kernel
theorem dX9_init_114 : decode cX9_init 114 = .ok (.aload_n 0, 1) := by decide +kernel
theorem dX9_init_115 : decode cX9_init 115 = .ok (.getfield 25, 3) := by decide +kernel
theorem dX9_init_118 : decode cX9_init 118 = .ok (.iload_n 1, 1) := by decide +kernel
theorem dX9_init_119 : decode cX9_init 119 = .ok (.new 23, 3) := by decide +kernel
theorem dX9_init_122 : decode cX9_init 122 = .ok (.dup, 1) := by decide +kernel
theorem dX9_init_123 : decode cX9_init 123 = .ok (.invokespecial 46, 3) := by decide +kernel
theorem dX9_init_126 : decode cX9_init 126 = .ok (.aastore, 1) := by decide +kernel
theorem dX9_init_127 : decode cX9_init 127 = .ok (.iinc 1 1, 3) := by decide +kernel
theorem dX9_init_130 : decode cX9_init 130 = .ok (.goto (-22), 3) := by decide +kernel
theorem dX9_init_133 : decode cX9_init 133 = .ok (.return_, 1) := by decide +kernel
set_option maxRecDepth 20000 in
theorem ggX9_isThere_X10_isBelow : GoodIn wsX9_isThere wsX10_isBelow := goodIn_r _ [7] (by decide +kernel) (by decide +kernel)
set_option maxRecDepth 20000 in
theorem gX9_isThere_X10_isBelow_n47 : GoodIn wsX9_isThere (wsX10_isBelow) := ggX9_isThere_X10_isBelow
theorem dX9_isThere_0 : decode cX9_isThere 0 = .ok (.iload_n 1, 1) := by decide +kernel
theorem dX9_isThere_1 : decode cX9_isThere 1 = .ok (.aload_n 0, 1) := by decide +kernel
theorem dX9_isThere_2 : decode cX9_isThere 2 = .ok (.getfield 40, 3) := by decide +kernel
theorem dX9_isThere_5 : decode cX9_isThere 5 = .ok (.invokestatic 47, 3) := by decide +kernel
theorem dX9_isThere_8 : decode cX9_isThere 8 = .ok (.ifCond .eq 33, 3) := by decide +kernel
theorem dX9_isThere_11 : decode cX9_isThere 11 = .ok (.aload_n 0, 1) := by decide +kernel
theorem dX9_isThere_12 : decode cX9_isThere 12 = .ok (.getfield 25, 3) := by decide +kernel
theorem dX9_isThere_15 : decode cX9_isThere 15 = .ok (.iload_n 1, 1) := by decide +kernel
theorem dX9_isThere_16 : decode cX9_isThere 16 = .ok (.aaload, 1) := by decide +kernel
theorem dX9_isThere_17 : decode cX9_isThere 17 = .ok (.getfield 51, 3) := by decide +kernel
theorem dX9_isThere_20 : decode cX9_isThere 20 = .ok (.iload_n 2, 1) := by decide +kernel
theorem dX9_isThere_21 : decode cX9_isThere 21 = .ok (.if_icmp .gt 20, 3) := by decide +kernel
theorem dX9_isThere_24 : decode cX9_isThere 24 = .ok (.iload_n 2, 1) := by decide +kernel
theorem dX9_isThere_25 : decode cX9_isThere 25 = .ok (.aload_n 0, 1) := by decide +kernel
theorem dX9_isThere_26 : decode cX9_isThere 26 = .ok (.getfield 25, 3) := by decide +kernel
theorem dX9_isThere_29 : decode cX9_isThere 29 = .ok (.iload_n 1, 1) := by decide +kernel
theorem dX9_isThere_30 : decode cX9_isThere 30 = .ok (.aaload, 1) := by decide +kernel
theorem dX9_isThere_31 : decode cX9_isThere 31 = .ok (.getfield 54, 3) := by decide +kernel
theorem dX9_isThere_34 : decode cX9_isThere 34 = .ok (.if_icmp .ge 7, 3) := by decide +kernel
theorem dX9_isThere_37 : decode cX9_isThere 37 = .ok (.iconst 1, 1) := by decide +kernel
theorem dX9_isThere_38 : decode cX9_isThere 38 = .ok (.goto 4, 3) := by decide +kernel
theorem dX9_isThere_41 : decode cX9_isThere 41 = .ok (.iconst 0, 1) := by decide +kernel
theorem dX9_isThere_42 : decode cX9_isThere 42 = .ok (.ireturn, 1) := by decide +kernel
set_option maxRecDepth 20000 in
theorem ggX9_countThere_X9_isThere : GoodIn wsX9_countThere wsX9_isThere := goodIn_r _ [6, 1, 7, 8, 9, 10, 11, 12, 13, 14, 15, 16, 17, 18, 19, 20, 21, 22, 23, 24, 25, 26, 27] (by decide +kernel) (by decide +kernel)
set_option maxRecDepth 20000 in
theorem gX9_countThere_X9_isThere : GoodIn wsX9_countThere (wsV RX9 57 RX9 yX9_isThere wsX9_isThere) := goodIn_app (goodIn_of _ (by decide +kernel)) ggX9_countThere_X9_isThere
theorem dX9_countThere_0 : decode cX9_countThere 0 = .ok (.iconst 0, 1) := by decide +kernel
theorem dX9_countThere_1 : decode cX9_countThere 1 = .ok (.istore_n 2, 1) := by decide +kernel
theorem dX9_countThere_2 : decode cX9_countThere 2 = .ok (.iconst 0, 1) := by decide +kernel
theorem dX9_countThere_3 : decode cX9_countThere 3 = .ok (.istore_n 3, 1) := by decide +kernel
theorem dX9_countThere_4 : decode cX9_countThere 4 = .ok (.iload_n 3, 1) := by decide +kernel
theorem dX9_countThere_5 : decode cX9_countThere 5 = .ok (.aload_n 0, 1) := by decide +kernel
theorem dX9_countThere_6 : decode cX9_countThere 6 = .ok (.getfield 40, 3) := by decide +kernel
theorem dX9_countThere_9 : decode cX9_countThere 9 = .ok (.if_icmp .ge 21, 3) := by decide +kernel
theorem dX9_countThere_12 : decode cX9_countThere 12 = .ok (.aload_n 0, 1) := by decide +kernel
theorem dX9_countThere_13 : decode cX9_countThere 13 = .ok (.iload_n 3, 1) := by decide +kernel
theorem dX9_countThere_14 : decode cX9_countThere 14 = .ok (.iload_n 1, 1) := by decide +kernel
theorem dX9_countThere_15 : decode cX9_countThere 15 = .ok (.invokevirtual 57, 3) := by decide +kernel
theorem dX9_countThere_18 : decode cX9_countThere 18 = .ok (.ifCond .eq 6, 3) := by decide +kernel
theorem dX9_countThere_21 : decode cX9_countThere 21 = .ok (.iinc 2 1, 3) := by decide +kernel
theorem dX9_countThere_24 : decode cX9_countThere 24 = .ok (.iinc 3 1, 3) := by decide +kernel
theorem dX9_countThere_27 : decode cX9_countThere 27 = .ok (.goto (-23), 3) := by decide +kernel
theorem dX9_countThere_30 : decode cX9_countThere 30 = .ok (.iload_n 2, 1) := by decide +kernel
theorem dX9_countThere_31 : decode cX9_countThere 31 = .ok (.ireturn, 1) := by decide +kernel
theorem dX9_countBottles_0 : decode cX9_countBottles 0 = .ok (.iconst 0, 1) := by decide +kernel
theorem dX9_countBottles_1 : decode cX9_countBottles 1 = .ok (.istore_n 1, 1) := by decide +kernel
theorem dX9_countBottles_2 : decode cX9_countBottles 2 = .ok (.iconst 0, 1) := by decide +kernel
theorem dX9_countBottles_3 : decode cX9_countBottles 3 = .ok (.istore_n 2, 1) := by decide +kernel
theorem dX9_countBottles_4 : decode cX9_countBottles 4 = .ok (.iload_n 2, 1) := by decide +kernel
theorem dX9_countBottles_5 : decode cX9_countBottles 5 = .ok (.iconst 4, 1) := by decide +kernel
theorem dX9_countBottles_6 : decode cX9_countBottles 6 = .ok (.if_icmp .ge 37, 3) := by decide +kernel
theorem dX9_countBottles_9 : decode cX9_countBottles 9 = .ok (.iconst 0, 1) := by decide +kernel
theorem dX9_countBottles_10 : decode cX9_countBottles 10 = .ok (.istore_n 3, 1) := by decide +kernel
theorem dX9_countBottles_11 : decode cX9_countBottles 11 = .ok (.iload_n 3, 1) := by decide +kernel
theorem dX9_countBottles_12 : decode cX9_countBottles 12 = .ok (.bipush 100, 2) := by decide +kernel
theorem dX9_countBottles_14 : decode cX9_countBottles 14 = .ok (.if_icmp .ge 23, 3) := by decide +kernel
theorem dX9_countBottles_17 : decode cX9_countBottles 17 = .ok (.iload_n 1, 1) := by decide +kernel
theorem dX9_countBottles_18 : decode cX9_countBottles 18 = .ok (.aload_n 0, 1) := by decide +kernel
theorem dX9_countBottles_19 : decode cX9_countBottles 19 = .ok (.getfield 11, 3) := by decide +kernel
theorem dX9_countBottles_22 : decode cX9_countBottles 22 = .ok (.iload_n 2, 1) := by decide +kernel
theorem dX9_countBottles_23 : decode cX9_countBottles 23 = .ok (.aaload, 1) := by decide +kernel
theorem dX9_countBottles_24 : decode cX9_countBottles 24 = .ok (.getfield 60, 3) := by decide +kernel
theorem dX9_countBottles_27 : decode cX9_countBottles 27 = .ok (.iload_n 3, 1) := by decide +kernel
theorem dX9_countBottles_28 : decode cX9_countBottles 28 = .ok (.iaload, 1) := by decide +kernel
theorem dX9_countBottles_29 : decode cX9_countBottles 29 = .ok (.iadd, 1) := by decide +kernel
theorem dX9_countBottles_30 : decode cX9_countBottles 30 = .ok (.istore_n 1, 1) := by decide +kernel
theorem dX9_countBottles_31 : decode cX9_countBottles 31 = .ok (.iinc 3 1, 3) := by decide +kernel
theorem dX9_countBottles_34 : decode cX9_countBottles 34 = .ok (.goto (-23), 3) := by decide +kernel
theorem dX9_countBottles_37 : decode cX9_countBottles 37 = .ok (.iinc 2 1, 3) := by decide +kernel
theorem dX9_countBottles_40 : decode cX9_countBottles 40 = .ok (.goto (-36), 3) := by decide +kernel
theorem dX9_countBottles_43 : decode cX9_countBottles 43 = .ok (.iload_n 1, 1) := by decide +kernel
theorem dX9_countBottles_44 : decode cX9_countBottles 44 = .ok (.ireturn, 1) := by decide +kernel
set_option maxRecDepth 20000 in
theorem ggX10_init_X9_init : GoodIn wsX10_init wsX9_init := goodIn_r _ [22, 23, 2, 3, 24, 25, 26, 27, 28, 29, 30, 31, 32, 33, 34, 35, 36, 37, 38, 39, 40, 41, 42, 43, 44, 45, 46, 47, 48, 49, 50, 51, 52, 53, 54, 55, 56, 57, 58, 59, 60, 61, 62, 63, 64, 65, 66, 67, 68, 69, 70, 71, 72, 73, 74, 75, 76, 77, 78, 79, 80, 81, 82, 83, 84, 85, 86, 87, 88, 89, 90, 91, 92, 93, 94, 95, 96, 97, 98, 99, 100, 101, 102, 103, 104, 105, 106, 107, 108, 109, 110, 151, 152, 153, 154, 155, 156, 178, 179, 180, 181, 182, 183, 184, 185, 186, 187, 188, 189, 190, 191, 192, 193, 194, 195, 196, 197, 198, 199, 200, 201, 202, 203, 204, 205, 206, 207, 208, 209, 210, 211, 212, 213, 214, 215, 216, 217, 218, 219] (by decide +kernel) (by decide +kernel)
set_option maxRecDepth 20000 in
theorem gX10_init_X9_init : GoodIn wsX10_init (wsX9_init) := ggX10_init_X9_init
set_option maxRecDepth 20000 in
theorem ggX10_init_X3_init : GoodIn wsX10_init wsX3_init := goodIn_r _ [113, 114, 2, 3, 115, 116, 117, 30, 118, 119, 120, 121, 122, 123, 124, 125, 126, 127, 128, 129, 130, 131, 132, 133, 134, 135, 164, 165, 166, 220, 221, 222, 223, 224, 225, 226, 227, 228, 229] (by decide +kernel) (by decide +kernel)
set_option maxRecDepth 20000 in
theorem gX10_init_X3_init : GoodIn wsX10_init (wsX3_init) := ggX10_init_X3_init
set_option maxRecDepth 20000 in
theorem ggX10_init_X1_init : GoodIn wsX10_init wsX1_init := goodIn_r _ [137, 138, 2, 3, 30, 139, 140, 141, 142, 143, 144, 145, 146, 147, 148, 149, 150, 167, 168, 169, 170, 171, 172, 173, 174, 175, 176, 177] (by decide +kernel) (by decide +kernel)
set_option maxRecDepth 20000 in
theorem gX10_init_X1_init_n25 : GoodIn wsX10_init (wsX1_init) := ggX10_init_X1_init
theorem dX10_init_0 : decode cX10_init 0 = .ok (.aload_n 0, 1) := by decide +kernel
theorem dX10_init_1 : decode cX10_init 1 = .ok (.invokespecial 1, 3) := by decide +kernel
theorem dX10_init_4 : decode cX10_init 4 = .ok (.aload_n 0, 1) := by decide +kernel
theorem dX10_init_5 : decode cX10_init 5 = .ok (.new 7, 3) := by decide +kernel
theorem dX10_init_8 : decode cX10_init 8 = .ok (.dup, 1) := by decide +kernel
theorem dX10_init_9 : decode cX10_init 9 = .ok (.invokespecial 9, 3) := by decide +kernel
theorem dX10_init_12 : decode cX10_init 12 = .ok (.putfield 10, 3) := by decide +kernel
theorem dX10_init_15 : decode cX10_init 15 = .ok (.aload_n 0, 1) := by decide +kernel
theorem dX10_init_16 : decode cX10_init 16 = .ok (.new 16, 3) := by decide +kernel
theorem dX10_init_19 : decode cX10_init 19 = .ok (.dup, 1) := by decide +kernel
theorem dX10_init_20 : decode cX10_init 20 = .ok (.invokespecial 18, 3) := by decide +kernel
theorem dX10_init_23 : decode cX10_init 23 = .ok (.putfield 19, 3) := by decide +kernel
theorem dX10_init_26 : decode cX10_init 26 = .ok (.aload_n 0, 1) := by decide +kernel
theorem dX10_init_27 : decode cX10_init 27 = .ok (.new 23, 3) := by decide +kernel
theorem dX10_init_30 : decode cX10_init 30 = .ok (.dup, 1) := by decide +kernel
theorem dX10_init_31 : decode cX10_init 31 = .ok (.invokespecial 25, 3) := by decide +kernel
theorem dX10_init_34 : decode cX10_init 34 = .ok (.putfield 26, 3) := by decide +kernel
theorem dX10_init_37 : decode cX10_init 37 = .ok (.aload_n 0, 1) := by decide +kernel
theorem dX10_init_38 : decode cX10_init 38 = .ok (.iconst 0, 1) := by decide +kernel
theorem dX10_init_39 : decode cX10_init 39 = .ok (.putfield 30, 3) := by decide +kernel
theorem dX10_init_42 : decode cX10_init 42 = .ok (.aload_n 0, 1) := by decide +kernel
theorem dX10_init_43 : decode cX10_init 43 = .ok (.iconst 0, 1) := by decide +kernel
theorem dX10_init_44 : decode cX10_init 44 = .ok (.putfield 34, 3) := by decide +kernel
theorem dX10_init_47 : decode cX10_init 47 = .ok (.aload_n 0, 1) := by decide +kernel
theorem dX10_init_48 : decode cX10_init 48 = .ok (.iconst 0, 1) := by decide +kernel
theorem dX10_init_49 : decode cX10_init 49 = .ok (.putfield 38, 3) := by decide +kernel
theorem dX10_init_52 : decode cX10_init 52 = .ok (.aload_n 0, 1) := by decide +kernel
theorem dX10_init_53 : decode cX10_init 53 = .ok (.iconst 0, 1) := by decide +kernel
theorem dX10_init_54 : decode cX10_init 54 = .ok (.putfield 41, 3) := by decide +kernel
theorem dX10_init_57 : decode cX10_init 57 = .ok (.return_, 1) := by decide +kernel
set_option maxRecDepth 20000 in
theorem ggX10_spring_X10_isBelow : GoodIn wsX10_spring wsX10_isBelow := goodIn_r _ [10] (by decide +kernel) (by decide +kernel)
set_option maxRecDepth 20000 in
theorem gX10_spring_X10_isBelow : GoodIn wsX10_spring (va_wsS RX10 44 yX10_isBelow wsX10_isBelow) := goodIn_app (goodIn_of _ (by decide +kernel)) ggX10_spring_X10_isBelow
theorem dX10_spring_0 : decode cX10_spring 0 = .ok (.iload_n 1, 1) := by decide +kernel
theorem dX10_spring_1 : decode cX10_spring 1 = .ok (.iconst 4, 1) := by decide +kernel
theorem dX10_spring_2 : decode cX10_spring 2 = .ok (.invokestatic 44, 3) := by decide +kernel
theorem dX10_spring_5 : decode cX10_spring 5 = .ok (.ifCond .eq 22, 3) := by decide +kernel
theorem dX10_spring_8 : decode cX10_spring 8 = .ok (.iload_n 2, 1) := by decide +kernel
theorem dX10_spring_9 : decode cX10_spring 9 = .ok (.bipush 10, 2) := by decide +kernel
theorem dX10_spring_11 : decode cX10_spring 11 = .ok (.invokestatic 44, 3) := by decide +kernel
theorem dX10_spring_14 : decode cX10_spring 14 = .ok (.ifCond .eq 13, 3) := by decide +kernel
theorem dX10_spring_17 : decode cX10_spring 17 = .ok (.iload 5, 2) := by decide +kernel
theorem dX10_spring_19 : decode cX10_spring 19 = .ok (.bipush 10, 2) := by decide +kernel
theorem dX10_spring_21 : decode cX10_spring 21 = .ok (.invokestatic 44, 3) := by decide +kernel
theorem dX10_spring_24 : decode cX10_spring 24 = .ok (.ifCond .ne 5, 3) := by decide +kernel
theorem dX10_spring_27 : decode cX10_spring 27 = .ok (.iconst 0, 1) := by decide +kernel
theorem dX10_spring_28 : decode cX10_spring 28 = .ok (.ireturn, 1) := by decide +kernel
theorem dX10_spring_29 : decode cX10_spring 29 = .ok (.iload_n 3, 1) := by decide +kernel
theorem dX10_spring_30 : decode cX10_spring 30 = .ok (.ifCond .lt 16, 3) := by decide +kernel
theorem dX10_spring_33 : decode cX10_spring 33 = .ok (.iload_n 3, 1) := by decide +kernel
theorem dX10_spring_34 : decode cX10_spring 34 = .ok (.iload 4, 2) := by decide +kernel
theorem dX10_spring_36 : decode cX10_spring 36 = .ok (.if_icmp .gt 10, 3) := by decide +kernel
theorem dX10_spring_39 : decode cX10_spring 39 = .ok (.iload 4, 2) := by decide +kernel
theorem dX10_spring_41 : decode cX10_spring 41 = .ok (.bipush 48, 2) := by decide +kernel
theorem dX10_spring_43 : decode cX10_spring 43 = .ok (.if_icmp .le 5, 3) := by decide +kernel
theorem dX10_spring_46 : decode cX10_spring 46 = .ok (.iconst 0, 1) := by decide +kernel
theorem dX10_spring_47 : decode cX10_spring 47 = .ok (.ireturn, 1) := by decide +kernel
theorem dX10_spring_48 : decode cX10_spring 48 = .ok (.aload_n 0, 1) := by decide +kernel
theorem dX10_spring_49 : decode cX10_spring 49 = .ok (.getfield 10, 3) := by decide +kernel
theorem dX10_spring_52 : decode cX10_spring 52 = .ok (.getfield 48, 3) := by decide +kernel
theorem dX10_spring_55 : decode cX10_spring 55 = .ok (.iload_n 1, 1) := by decide +kernel
theorem dX10_spring_56 : decode cX10_spring 56 = .ok (.aaload, 1) := by decide +kernel
theorem dX10_spring_57 : decode cX10_spring 57 = .ok (.astore 6, 2) := by decide +kernel
theorem dX10_spring_59 : decode cX10_spring 59 = .ok (.aload 6, 2) := by decide +kernel
theorem dX10_spring_61 : decode cX10_spring 61 = .ok (.iload_n 2, 1) := by decide +kernel
theorem dX10_spring_62 : decode cX10_spring 62 = .ok (.putfield 52, 3) := by decide +kernel
theorem dX10_spring_65 : decode cX10_spring 65 = .ok (.aload 6, 2) := by decide +kernel
theorem dX10_spring_67 : decode cX10_spring 67 = .ok (.iload_n 3, 1) := by decide +kernel
theorem dX10_spring_68 : decode cX10_spring 68 = .ok (.putfield 57, 3) := by decide +kernel
theorem dX10_spring_71 : decode cX10_spring 71 = .ok (.aload 6, 2) := by decide +kernel
theorem dX10_spring_73 : decode cX10_spring 73 = .ok (.iload 4, 2) := by decide +kernel
theorem dX10_spring_75 : decode cX10_spring 75 = .ok (.putfield 60, 3) := by decide +kernel
theorem dX10_spring_78 : decode cX10_spring 78 = .ok (.aload 6, 2) := by decide +kernel
theorem dX10_spring_80 : decode cX10_spring 80 = .ok (.iload 5, 2) := by decide +kernel
theorem dX10_spring_82 : decode cX10_spring 82 = .ok (.putfield 63, 3) := by decide +kernel
theorem dX10_spring_85 : decode cX10_spring 85 = .ok (.iconst 1, 1) := by decide +kernel
theorem dX10_spring_86 : decode cX10_spring 86 = .ok (.ireturn, 1) := by decide +kernel
set_option maxRecDepth 20000 in
theorem ggX10_bath_X10_isBelow : GoodIn wsX10_bath wsX10_isBelow := goodIn_r _ [8] (by decide +kernel) (by decide +kernel)
set_option maxRecDepth 20000 in
theorem gX10_bath_X10_isBelow : GoodIn wsX10_bath (va_wsS RX10 44 yX10_isBelow wsX10_isBelow) := goodIn_app (goodIn_of _ (by decide +kernel)) ggX10_bath_X10_isBelow
theorem dX10_bath_0 : decode cX10_bath 0 = .ok (.iload_n 1, 1) := by decide +kernel
theorem dX10_bath_1 : decode cX10_bath 1 = .ok (.bipush 6, 2) := by decide +kernel
theorem dX10_bath_3 : decode cX10_bath 3 = .ok (.invokestatic 44, 3) := by decide +kernel
theorem dX10_bath_6 : decode cX10_bath 6 = .ok (.ifCond .eq 11, 3) := by decide +kernel
theorem dX10_bath_9 : decode cX10_bath 9 = .ok (.iload_n 2, 1) := by decide +kernel
theorem dX10_bath_10 : decode cX10_bath 10 = .ok (.iconst 3, 1) := by decide +kernel
theorem dX10_bath_11 : decode cX10_bath 11 = .ok (.invokestatic 44, 3) := by decide +kernel
theorem dX10_bath_14 : decode cX10_bath 14 = .ok (.ifCond .ne 5, 3) := by decide +kernel
theorem dX10_bath_17 : decode cX10_bath 17 = .ok (.iconst 0, 1) := by decide +kernel
theorem dX10_bath_18 : decode cX10_bath 18 = .ok (.ireturn, 1) := by decide +kernel
theorem dX10_bath_19 : decode cX10_bath 19 = .ok (.aload_n 0, 1) := by decide +kernel
theorem dX10_bath_20 : decode cX10_bath 20 = .ok (.getfield 10, 3) := by decide +kernel
theorem dX10_bath_23 : decode cX10_bath 23 = .ok (.getfield 66, 3) := by decide +kernel
theorem dX10_bath_26 : decode cX10_bath 26 = .ok (.iload_n 1, 1) := by decide +kernel
theorem dX10_bath_27 : decode cX10_bath 27 = .ok (.aaload, 1) := by decide +kernel
theorem dX10_bath_28 : decode cX10_bath 28 = .ok (.iload_n 2, 1) := by decide +kernel
theorem dX10_bath_29 : decode cX10_bath 29 = .ok (.putfield 70, 3) := by decide +kernel
theorem dX10_bath_32 : decode cX10_bath 32 = .ok (.aload_n 0, 1) := by decide +kernel
theorem dX10_bath_33 : decode cX10_bath 33 = .ok (.getfield 10, 3) := by decide +kernel
theorem dX10_bath_36 : decode cX10_bath 36 = .ok (.getfield 66, 3) := by decide +kernel
theorem dX10_bath_39 : decode cX10_bath 39 = .ok (.iload_n 1, 1) := by decide +kernel
theorem dX10_bath_40 : decode cX10_bath 40 = .ok (.aaload, 1) := by decide +kernel
theorem dX10_bath_41 : decode cX10_bath 41 = .ok (.iload_n 3, 1) := by decide +kernel
theorem dX10_bath_42 : decode cX10_bath 42 = .ok (.putfield 75, 3) := by decide +kernel
theorem dX10_bath_45 : decode cX10_bath 45 = .ok (.iconst 1, 1) := by decide +kernel
theorem dX10_bath_46 : decode cX10_bath 46 = .ok (.ireturn, 1) := by decide +kernel
set_option maxRecDepth 20000 in
theorem ggX10_rate_X10_isBelow : GoodIn wsX10_rate wsX10_isBelow := goodIn_r _ [6] (by decide +kernel) (by decide +kernel)
set_option maxRecDepth 20000 in
theorem gX10_rate_X10_isBelow : GoodIn wsX10_rate (va_wsS RX10 44 yX10_isBelow wsX10_isBelow) := goodIn_app (goodIn_of _ (by decide +kernel)) ggX10_rate_X10_isBelow
theorem dX10_rate_0 : decode cX10_rate 0 = .ok (.iload_n 1, 1) := by decide +kernel
theorem dX10_rate_1 : decode cX10_rate 1 = .ok (.iconst 4, 1) := by decide +kernel
theorem dX10_rate_2 : decode cX10_rate 2 = .ok (.invokestatic 44, 3) := by decide +kernel
theorem dX10_rate_5 : decode cX10_rate 5 = .ok (.ifCond .eq 13, 3) := by decide +kernel
theorem dX10_rate_8 : decode cX10_rate 8 = .ok (.iload_n 2, 1) := by decide +kernel
theorem dX10_rate_9 : decode cX10_rate 9 = .ok (.sipush 1000, 3) := by decide +kernel
theorem dX10_rate_12 : decode cX10_rate 12 = .ok (.invokestatic 44, 3) := by decide +kernel
theorem dX10_rate_15 : decode cX10_rate 15 = .ok (.ifCond .ne 5, 3) := by decide +kernel
theorem dX10_rate_18 : decode cX10_rate 18 = .ok (.iconst 0, 1) := by decide +kernel
theorem dX10_rate_19 : decode cX10_rate 19 = .ok (.ireturn, 1) := by decide +kernel
theorem dX10_rate_20 : decode cX10_rate 20 = .ok (.aload_n 0, 1) := by decide +kernel
theorem dX10_rate_21 : decode cX10_rate 21 = .ok (.getfield 10, 3) := by decide +kernel
theorem dX10_rate_24 : decode cX10_rate 24 = .ok (.getfield 78, 3) := by decide +kernel
theorem dX10_rate_27 : decode cX10_rate 27 = .ok (.iload_n 1, 1) := by decide +kernel
theorem dX10_rate_28 : decode cX10_rate 28 = .ok (.iload_n 2, 1) := by decide +kernel
theorem dX10_rate_29 : decode cX10_rate 29 = .ok (.iastore, 1) := by decide +kernel
theorem dX10_rate_30 : decode cX10_rate 30 = .ok (.iconst 1, 1) := by decide +kernel
theorem dX10_rate_31 : decode cX10_rate 31 = .ok (.ireturn, 1) := by decide +kernel
set_option maxRecDepth 20000 in
theorem ggX10_feed_X8_add : GoodIn wsX10_feed wsX8_add := goodIn_r _ [9, 10, 11, 35, 36, 37, 38, 39, 40, 41] (by decide +kernel) (by decide +kernel)
set_option maxRecDepth 20000 in
theorem gX10_feed_X8_add : GoodIn wsX10_feed (wsV RX10 97 RX8 yX8_add wsX8_add) := goodIn_app (goodIn_of _ (by decide +kernel)) ggX10_feed_X8_add
theorem dX10_feed_0 : decode cX10_feed 0 = .ok (.aload_n 0, 1) := by decide +kernel
theorem dX10_feed_1 : decode cX10_feed 1 = .ok (.getfield 10, 3) := by decide +kernel
theorem dX10_feed_4 : decode cX10_feed 4 = .ok (.getfield 82, 3) := by decide +kernel
theorem dX10_feed_7 : decode cX10_feed 7 = .ok (.getfield 86, 3) := by decide +kernel
theorem dX10_feed_10 : decode cX10_feed 10 = .ok (.astore 6, 2) := by decide +kernel
theorem dX10_feed_12 : decode cX10_feed 12 = .ok (.aload 6, 2) := by decide +kernel
theorem dX10_feed_14 : decode cX10_feed 14 = .ok (.getfield 92, 3) := by decide +kernel
theorem dX10_feed_17 : decode cX10_feed 17 = .ok (.bipush 20, 2) := by decide +kernel
theorem dX10_feed_19 : decode cX10_feed 19 = .ok (.iadd, 1) := by decide +kernel
theorem dX10_feed_20 : decode cX10_feed 20 = .ok (.sipush 600, 3) := by decide +kernel
theorem dX10_feed_23 : decode cX10_feed 23 = .ok (.if_icmp .le 5, 3) := by decide +kernel
theorem dX10_feed_26 : decode cX10_feed 26 = .ok (.iconst (-1), 1) := by decide +kernel
theorem dX10_feed_27 : decode cX10_feed 27 = .ok (.ireturn, 1) := by decide +kernel
theorem dX10_feed_28 : decode cX10_feed 28 = .ok (.aload 6, 2) := by decide +kernel
theorem dX10_feed_30 : decode cX10_feed 30 = .ok (.iload_n 1, 1) := by decide +kernel
theorem dX10_feed_31 : decode cX10_feed 31 = .ok (.invokevirtual 97, 3) := by decide +kernel
theorem dX10_feed_34 : decode cX10_feed 34 = .ok (.aload 6, 2) := by decide +kernel
theorem dX10_feed_36 : decode cX10_feed 36 = .ok (.iload_n 2, 1) := by decide +kernel
theorem dX10_feed_37 : decode cX10_feed 37 = .ok (.invokevirtual 97, 3) := by decide +kernel
theorem dX10_feed_40 : decode cX10_feed 40 = .ok (.aload 6, 2) := by decide +kernel
theorem dX10_feed_42 : decode cX10_feed 42 = .ok (.iload_n 3, 1) := by decide +kernel
theorem dX10_feed_43 : decode cX10_feed 43 = .ok (.invokevirtual 97, 3) := by decide +kernel
theorem dX10_feed_46 : decode cX10_feed 46 = .ok (.aload 6, 2) := by decide +kernel
theorem dX10_feed_48 : decode cX10_feed 48 = .ok (.iload 4, 2) := by decide +kernel
theorem dX10_feed_50 : decode cX10_feed 50 = .ok (.invokevirtual 97, 3) := by decide +kernel
theorem dX10_feed_53 : decode cX10_feed 53 = .ok (.aload 6, 2) := by decide +kernel
theorem dX10_feed_55 : decode cX10_feed 55 = .ok (.iload 5, 2) := by decide +kernel
theorem dX10_feed_57 : decode cX10_feed 57 = .ok (.invokevirtual 97, 3) := by decide +kernel
theorem dX10_feed_60 : decode cX10_feed 60 = .ok (.aload 6, 2) := by decide +kernel
theorem dX10_feed_62 : decode cX10_feed 62 = .ok (.getfield 92, 3) := by decide +kernel
theorem dX10_feed_65 : decode cX10_feed 65 = .ok (.ireturn, 1) := by decide +kernel
theorem dX10_end_0 : decode cX10_end 0 = .ok (.aload_n 0, 1) := by decide +kernel
theorem dX10_end_1 : decode cX10_end 1 = .ok (.getfield 10, 3) := by decide +kernel
theorem dX10_end_4 : decode cX10_end 4 = .ok (.getfield 82, 3) := by decide +kernel
theorem dX10_end_7 : decode cX10_end 7 = .ok (.getfield 86, 3) := by decide +kernel
theorem dX10_end_10 : decode cX10_end 10 = .ok (.astore_n 2, 1) := by decide +kernel
theorem dX10_end_11 : decode cX10_end 11 = .ok (.iload_n 1, 1) := by decide +kernel
theorem dX10_end_12 : decode cX10_end 12 = .ok (.ifCond .lt 11, 3) := by decide +kernel
theorem dX10_end_15 : decode cX10_end 15 = .ok (.iload_n 1, 1) := by decide +kernel
theorem dX10_end_16 : decode cX10_end 16 = .ok (.aload_n 2, 1) := by decide +kernel
theorem dX10_end_17 : decode cX10_end 17 = .ok (.getfield 92, 3) := by decide +kernel
theorem dX10_end_20 : decode cX10_end 20 = .ok (.if_icmp .le 5, 3) := by decide +kernel
theorem dX10_end_23 : decode cX10_end 23 = .ok (.iconst 0, 1) := by decide +kernel
theorem dX10_end_24 : decode cX10_end 24 = .ok (.ireturn, 1) := by decide +kernel
theorem dX10_end_25 : decode cX10_end 25 = .ok (.aload_n 2, 1) := by decide +kernel
theorem dX10_end_26 : decode cX10_end 26 = .ok (.iload_n 1, 1) := by decide +kernel
theorem dX10_end_27 : decode cX10_end 27 = .ok (.putfield 92, 3) := by decide +kernel
theorem dX10_end_30 : decode cX10_end 30 = .ok (.iconst 1, 1) := by decide +kernel
theorem dX10_end_31 : decode cX10_end 31 = .ok (.ireturn, 1) := by decide +kernel
set_option maxRecDepth 20000 in
theorem ggX10_load_X2_readTape : GoodIn wsX10_load wsX2_readTape := goodIn_r _ [9, 10, 11, 12, 13, 14, 15, 16, 17, 18, 19, 20, 21, 22, 23, 24, 25, 26, 27, 28, 29, 30, 31, 32, 33, 34, 35, 36, 37, 38, 39, 40, 41, 42, 43, 44, 45, 46, 47, 48, 49, 50, 51, 52, 53, 54, 55, 56, 57, 58, 59, 60, 61, 62, 63, 64, 65, 66, 67, 68, 69, 70, 71, 72, 73, 74, 75, 76, 77, 78, 79, 80, 81, 82, 83, 84, 85, 86, 87, 88, 89, 90, 91, 92, 93, 94, 95, 96, 97, 98, 99, 100, 101, 102, 103, 104, 105, 106, 107, 108, 109, 110, 111, 112, 113, 8, 114, 115, 116, 117, 118, 119, 120, 121, 122, 123, 124, 125, 126, 127, 128, 129, 130, 131, 132, 133, 134, 135, 136, 137, 138, 139, 140, 141, 142, 143, 144, 145, 146, 147, 148, 149, 150, 151, 152, 153, 154, 155, 156, 157, 158, 159, 160, 161, 162, 163, 164, 165, 166, 167, 168, 169, 170, 171, 172, 173, 174, 175, 176, 177, 178, 179, 180, 181, 182, 196, 197, 198, 199, 200, 201, 202, 203, 204, 205, 206, 207, 208, 209, 210, 211, 212, 213, 214, 215, 216, 217] (by decide +kernel) (by decide +kernel)
set_option maxRecDepth 20000 in
theorem gX10_load_X2_readTape : GoodIn wsX10_load (wsV RX10 101 RX2 yX2_readTape wsX2_readTape) := goodIn_app (goodIn_of _ (by decide +kernel)) ggX10_load_X2_readTape
theorem dX10_load_0 : decode cX10_load 0 = .ok (.aload_n 0, 1) := by decide +kernel
theorem dX10_load_1 : decode cX10_load 1 = .ok (.getfield 10, 3) := by decide +kernel
theorem dX10_load_4 : decode cX10_load 4 = .ok (.getfield 82, 3) := by decide +kernel
theorem dX10_load_7 : decode cX10_load 7 = .ok (.astore_n 1, 1) := by decide +kernel
theorem dX10_load_8 : decode cX10_load 8 = .ok (.aload_n 1, 1) := by decide +kernel
theorem dX10_load_9 : decode cX10_load 9 = .ok (.invokevirtual 101, 3) := by decide +kernel
theorem dX10_load_12 : decode cX10_load 12 = .ok (.aload_n 1, 1) := by decide +kernel
theorem dX10_load_13 : decode cX10_load 13 = .ok (.getfield 104, 3) := by decide +kernel
theorem dX10_load_16 : decode cX10_load 16 = .ok (.ifCond .ne 10, 3) := by decide +kernel
theorem dX10_load_19 : decode cX10_load 19 = .ok (.aload_n 1, 1) := by decide +kernel
theorem dX10_load_20 : decode cX10_load 20 = .ok (.getfield 107, 3) := by decide +kernel
theorem dX10_load_23 : decode cX10_load 23 = .ok (.goto 4, 3) := by decide +kernel
theorem dX10_load_26 : decode cX10_load 26 = .ok (.iconst (-1), 1) := by decide +kernel
theorem dX10_load_27 : decode cX10_load 27 = .ok (.ireturn, 1) := by decide +kernel
theorem dX10_fault_0 : decode cX10_fault 0 = .ok (.iload_n 1, 1) := by decide +kernel
theorem dX10_fault_1 : decode cX10_fault 1 = .ok (.lookupswitch 49 #[(0, 27), (1, 38)], 27) := by decide +kernel
theorem dX10_fault_28 : decode cX10_fault 28 = .ok (.aload_n 0, 1) := by decide +kernel
theorem dX10_fault_29 : decode cX10_fault 29 = .ok (.getfield 10, 3) := by decide +kernel
theorem dX10_fault_32 : decode cX10_fault 32 = .ok (.getfield 82, 3) := by decide +kernel
theorem dX10_fault_35 : decode cX10_fault 35 = .ok (.getfield 104, 3) := by decide +kernel
theorem dX10_fault_38 : decode cX10_fault 38 = .ok (.ireturn, 1) := by decide +kernel
theorem dX10_fault_39 : decode cX10_fault 39 = .ok (.aload_n 0, 1) := by decide +kernel
theorem dX10_fault_40 : decode cX10_fault 40 = .ok (.getfield 10, 3) := by decide +kernel
theorem dX10_fault_43 : decode cX10_fault 43 = .ok (.getfield 82, 3) := by decide +kernel
theorem dX10_fault_46 : decode cX10_fault 46 = .ok (.getfield 110, 3) := by decide +kernel
theorem dX10_fault_49 : decode cX10_fault 49 = .ok (.ireturn, 1) := by decide +kernel
theorem dX10_fault_50 : decode cX10_fault 50 = .ok (.iconst (-1), 1) := by decide +kernel
theorem dX10_fault_51 : decode cX10_fault 51 = .ok (.ireturn, 1) := by decide +kernel
set_option maxRecDepth 20000 in
theorem ggX10_guest_X10_isBelow : GoodIn wsX10_guest wsX10_isBelow := goodIn_r _ [10] (by decide +kernel) (by decide +kernel)
set_option maxRecDepth 20000 in
theorem gX10_guest_X10_isBelow : GoodIn wsX10_guest (va_wsS RX10 44 yX10_isBelow wsX10_isBelow) := goodIn_app (goodIn_of _ (by decide +kernel)) ggX10_guest_X10_isBelow
set_option maxRecDepth 20000 in
theorem ggX10_guest_X4_come : GoodIn wsX10_guest wsX4_come := goodIn_r _ [15, 16, 17, 18, 19, 20, 44, 45, 46, 47, 48, 49, 50, 51, 52] (by decide +kernel) (by decide +kernel)
set_option maxRecDepth 20000 in
theorem gX10_guest_X4_come : GoodIn wsX10_guest (wsV RX10 120 RX4 yX4_come wsX4_come) := goodIn_app (goodIn_of _ (by decide +kernel)) ggX10_guest_X4_come
theorem dX10_guest_0 : decode cX10_guest 0 = .ok (.iload_n 1, 1) := by decide +kernel
theorem dX10_guest_1 : decode cX10_guest 1 = .ok (.iconst 4, 1) := by decide +kernel
theorem dX10_guest_2 : decode cX10_guest 2 = .ok (.invokestatic 44, 3) := by decide +kernel
theorem dX10_guest_5 : decode cX10_guest 5 = .ok (.ifCond .eq 30, 3) := by decide +kernel
theorem dX10_guest_8 : decode cX10_guest 8 = .ok (.iload_n 2, 1) := by decide +kernel
theorem dX10_guest_9 : decode cX10_guest 9 = .ok (.aload_n 0, 1) := by decide +kernel
theorem dX10_guest_10 : decode cX10_guest 10 = .ok (.getfield 10, 3) := by decide +kernel
theorem dX10_guest_13 : decode cX10_guest 13 = .ok (.getfield 82, 3) := by decide +kernel
theorem dX10_guest_16 : decode cX10_guest 16 = .ok (.getfield 107, 3) := by decide +kernel
theorem dX10_guest_19 : decode cX10_guest 19 = .ok (.invokestatic 44, 3) := by decide +kernel
theorem dX10_guest_22 : decode cX10_guest 22 = .ok (.ifCond .eq 13, 3) := by decide +kernel
theorem dX10_guest_25 : decode cX10_guest 25 = .ok (.iload 5, 2) := by decide +kernel
theorem dX10_guest_27 : decode cX10_guest 27 = .ok (.bipush 100, 2) := by decide +kernel
theorem dX10_guest_29 : decode cX10_guest 29 = .ok (.invokestatic 44, 3) := by decide +kernel
theorem dX10_guest_32 : decode cX10_guest 32 = .ok (.ifCond .ne 5, 3) := by decide +kernel
theorem dX10_guest_35 : decode cX10_guest 35 = .ok (.iconst (-1), 1) := by decide +kernel
theorem dX10_guest_36 : decode cX10_guest 36 = .ok (.ireturn, 1) := by decide +kernel
theorem dX10_guest_37 : decode cX10_guest 37 = .ok (.iload_n 3, 1) := by decide +kernel
theorem dX10_guest_38 : decode cX10_guest 38 = .ok (.aload_n 0, 1) := by decide +kernel
theorem dX10_guest_39 : decode cX10_guest 39 = .ok (.getfield 30, 3) := by decide +kernel
theorem dX10_guest_42 : decode cX10_guest 42 = .ok (.if_icmp .lt 28, 3) := by decide +kernel
theorem dX10_guest_45 : decode cX10_guest 45 = .ok (.iload 4, 2) := by decide +kernel
theorem dX10_guest_47 : decode cX10_guest 47 = .ok (.iload_n 3, 1) := by decide +kernel
theorem dX10_guest_48 : decode cX10_guest 48 = .ok (.if_icmp .le 22, 3) := by decide +kernel
theorem dX10_guest_51 : decode cX10_guest 51 = .ok (.iload 4, 2) := by decide +kernel
theorem dX10_guest_53 : decode cX10_guest 53 = .ok (.bipush 100, 2) := by decide +kernel
theorem dX10_guest_55 : decode cX10_guest 55 = .ok (.if_icmp .gt 15, 3) := by decide +kernel
theorem dX10_guest_58 : decode cX10_guest 58 = .ok (.aload_n 0, 1) := by decide +kernel
theorem dX10_guest_59 : decode cX10_guest 59 = .ok (.getfield 10, 3) := by decide +kernel
theorem dX10_guest_62 : decode cX10_guest 62 = .ok (.getfield 113, 3) := by decide +kernel
theorem dX10_guest_65 : decode cX10_guest 65 = .ok (.bipush 8, 2) := by decide +kernel
theorem dX10_guest_67 : decode cX10_guest 67 = .ok (.if_icmp .lt 5, 3) := by decide +kernel
theorem dX10_guest_70 : decode cX10_guest 70 = .ok (.iconst (-1), 1) := by decide +kernel
theorem dX10_guest_71 : decode cX10_guest 71 = .ok (.ireturn, 1) := by decide +kernel
theorem dX10_guest_72 : decode cX10_guest 72 = .ok (.aload_n 0, 1) := by decide +kernel
theorem dX10_guest_73 : decode cX10_guest 73 = .ok (.getfield 10, 3) := by decide +kernel
theorem dX10_guest_76 : decode cX10_guest 76 = .ok (.getfield 113, 3) := by decide +kernel
theorem dX10_guest_79 : decode cX10_guest 79 = .ok (.istore 6, 2) := by decide +kernel
theorem dX10_guest_81 : decode cX10_guest 81 = .ok (.aload_n 0, 1) := by decide +kernel
theorem dX10_guest_82 : decode cX10_guest 82 = .ok (.getfield 10, 3) := by decide +kernel
theorem dX10_guest_85 : decode cX10_guest 85 = .ok (.getfield 116, 3) := by decide +kernel
theorem dX10_guest_88 : decode cX10_guest 88 = .ok (.iload 6, 2) := by decide +kernel
theorem dX10_guest_90 : decode cX10_guest 90 = .ok (.aaload, 1) := by decide +kernel
theorem dX10_guest_91 : decode cX10_guest 91 = .ok (.iload_n 1, 1) := by decide +kernel
theorem dX10_guest_92 : decode cX10_guest 92 = .ok (.iload_n 2, 1) := by decide +kernel
theorem dX10_guest_93 : decode cX10_guest 93 = .ok (.iload_n 3, 1) := by decide +kernel
theorem dX10_guest_94 : decode cX10_guest 94 = .ok (.iload 4, 2) := by decide +kernel
theorem dX10_guest_96 : decode cX10_guest 96 = .ok (.iload 5, 2) := by decide +kernel
theorem dX10_guest_98 : decode cX10_guest 98 = .ok (.invokevirtual 120, 3) := by decide +kernel
theorem dX10_guest_101 : decode cX10_guest 101 = .ok (.aload_n 0, 1) := by decide +kernel
theorem dX10_guest_102 : decode cX10_guest 102 = .ok (.getfield 10, 3) := by decide +kernel
theorem dX10_guest_105 : decode cX10_guest 105 = .ok (.dup, 1) := by decide +kernel
theorem dX10_guest_106 : decode cX10_guest 106 = .ok (.getfield 113, 3) := by decide +kernel
theorem dX10_guest_109 : decode cX10_guest 109 = .ok (.iconst 1, 1) := by decide +kernel
theorem dX10_guest_110 : decode cX10_guest 110 = .ok (.iadd, 1) := by decide +kernel
theorem dX10_guest_111 : decode cX10_guest 111 = .ok (.putfield 113, 3) := by decide +kernel
theorem dX10_guest_114 : decode cX10_guest 114 = .ok (.iload 6, 2) := by decide +kernel
theorem dX10_guest_116 : decode cX10_guest 116 = .ok (.ireturn, 1) := by decide +kernel
set_option maxRecDepth 20000 in
theorem ggX10_leave_X10_isBelow : GoodIn wsX10_leave wsX10_isBelow := goodIn_r _ [10] (by decide +kernel) (by decide +kernel)
set_option maxRecDepth 20000 in
theorem gX10_leave_X10_isBelow : GoodIn wsX10_leave (va_wsS RX10 44 yX10_isBelow wsX10_isBelow) := goodIn_app (goodIn_of _ (by decide +kernel)) ggX10_leave_X10_isBelow
theorem dX10_leave_0 : decode cX10_leave 0 = .ok (.iload_n 1, 1) := by decide +kernel
theorem dX10_leave_1 : decode cX10_leave 1 = .ok (.aload_n 0, 1) := by decide +kernel
theorem dX10_leave_2 : decode cX10_leave 2 = .ok (.getfield 10, 3) := by decide +kernel
theorem dX10_leave_5 : decode cX10_leave 5 = .ok (.getfield 113, 3) := by decide +kernel
theorem dX10_leave_8 : decode cX10_leave 8 = .ok (.invokestatic 44, 3) := by decide +kernel
theorem dX10_leave_11 : decode cX10_leave 11 = .ok (.ifCond .ne 5, 3) := by decide +kernel
theorem dX10_leave_14 : decode cX10_leave 14 = .ok (.iconst 0, 1) := by decide +kernel
theorem dX10_leave_15 : decode cX10_leave 15 = .ok (.ireturn, 1) := by decide +kernel
theorem dX10_leave_16 : decode cX10_leave 16 = .ok (.aload_n 0, 1) := by decide +kernel
theorem dX10_leave_17 : decode cX10_leave 17 = .ok (.getfield 10, 3) := by decide +kernel
theorem dX10_leave_20 : decode cX10_leave 20 = .ok (.getfield 116, 3) := by decide +kernel
theorem dX10_leave_23 : decode cX10_leave 23 = .ok (.iload_n 1, 1) := by decide +kernel
theorem dX10_leave_24 : decode cX10_leave 24 = .ok (.aaload, 1) := by decide +kernel
theorem dX10_leave_25 : decode cX10_leave 25 = .ok (.astore_n 3, 1) := by decide +kernel
theorem dX10_leave_26 : decode cX10_leave 26 = .ok (.iload_n 2, 1) := by decide +kernel
theorem dX10_leave_27 : decode cX10_leave 27 = .ok (.aload_n 0, 1) := by decide +kernel
theorem dX10_leave_28 : decode cX10_leave 28 = .ok (.getfield 30, 3) := by decide +kernel
theorem dX10_leave_31 : decode cX10_leave 31 = .ok (.if_icmp .lt 19, 3) := by decide +kernel
theorem dX10_leave_34 : decode cX10_leave 34 = .ok (.iload_n 2, 1) := by decide +kernel
theorem dX10_leave_35 : decode cX10_leave 35 = .ok (.aload_n 3, 1) := by decide +kernel
theorem dX10_leave_36 : decode cX10_leave 36 = .ok (.getfield 126, 3) := by decide +kernel
theorem dX10_leave_39 : decode cX10_leave 39 = .ok (.if_icmp .le 11, 3) := by decide +kernel
theorem dX10_leave_42 : decode cX10_leave 42 = .ok (.iload_n 2, 1) := by decide +kernel
theorem dX10_leave_43 : decode cX10_leave 43 = .ok (.aload_n 3, 1) := by decide +kernel
theorem dX10_leave_44 : decode cX10_leave 44 = .ok (.getfield 127, 3) := by decide +kernel
theorem dX10_leave_47 : decode cX10_leave 47 = .ok (.if_icmp .le 5, 3) := by decide +kernel
theorem dX10_leave_50 : decode cX10_leave 50 = .ok (.iconst 0, 1) := by decide +kernel
theorem dX10_leave_51 : decode cX10_leave 51 = .ok (.ireturn, 1) := by decide +kernel
theorem dX10_leave_52 : decode cX10_leave 52 = .ok (.aload_n 3, 1) := by decide +kernel
theorem dX10_leave_53 : decode cX10_leave 53 = .ok (.iload_n 2, 1) := by decide +kernel
theorem dX10_leave_54 : decode cX10_leave 54 = .ok (.putfield 127, 3) := by decide +kernel
theorem dX10_leave_57 : decode cX10_leave 57 = .ok (.iconst 1, 1) := by decide +kernel
theorem dX10_leave_58 : decode cX10_leave 58 = .ok (.ireturn, 1) := by decide +kernel
set_option maxRecDepth 20000 in
theorem ggX10_look_X9_countThere : GoodIn wsX10_look wsX9_countThere := goodIn_r _ [12, 13, 14, 15, 16, 11, 17, 18, 19, 20, 21, 22, 23, 37, 38, 39, 40, 41, 42, 53, 54, 55, 56, 57, 58, 59, 60, 61] (by decide +kernel) (by decide +kernel)
set_option maxRecDepth 20000 in
theorem gX10_look_X9_countThere : GoodIn wsX10_look (wsV RX10 130 RX9 yX9_countThere wsX9_countThere) := goodIn_app (goodIn_of _ (by decide +kernel)) ggX10_look_X9_countThere
set_option maxRecDepth 20000 in
theorem ggX10_look_X9_countBottles : GoodIn wsX10_look wsX9_countBottles := goodIn_r _ [27, 28, 29, 37, 38, 39, 40, 41, 42, 62, 63, 64, 65, 66, 67, 68, 69, 70] (by decide +kernel) (by decide +kernel)
set_option maxRecDepth 20000 in
theorem gX10_look_X9_countBottles : GoodIn wsX10_look (wsV RX10 134 RX9 yX9_countBottles wsX9_countBottles) := goodIn_app (goodIn_of _ (by decide +kernel)) ggX10_look_X9_countBottles
theorem dX10_look_0 : decode cX10_look 0 = .ok (.iload_n 1, 1) := by decide +kernel
theorem dX10_look_1 : decode cX10_look 1 = .ok (.tableswitch 97 0 6 #[43, 48, 59, 67, 79, 87, 92], 43) := by decide +kernel
theorem dX10_look_44 : decode cX10_look 44 = .ok (.aload_n 0, 1) := by decide +kernel
theorem dX10_look_45 : decode cX10_look 45 = .ok (.getfield 30, 3) := by decide +kernel
theorem dX10_look_48 : decode cX10_look 48 = .ok (.ireturn, 1) := by decide +kernel
theorem dX10_look_49 : decode cX10_look 49 = .ok (.aload_n 0, 1) := by decide +kernel
theorem dX10_look_50 : decode cX10_look 50 = .ok (.getfield 10, 3) := by decide +kernel
theorem dX10_look_53 : decode cX10_look 53 = .ok (.getfield 82, 3) := by decide +kernel
theorem dX10_look_56 : decode cX10_look 56 = .ok (.getfield 107, 3) := by decide +kernel
theorem dX10_look_59 : decode cX10_look 59 = .ok (.ireturn, 1) := by decide +kernel
