theorem dX11_bathes_12 : decode cX11_bathes 12 = .ok (.if_icmp .gt 87, 3) := by decide +kernel
theorem dX11_bathes_15 : decode cX11_bathes 15 = .ok (.iconst 0, 1) := by decide +kernel
theorem dX11_bathes_16 : decode cX11_bathes 16 = .ok (.istore 5, 2) := by decide +kernel
theorem dX11_bathes_18 : decode cX11_bathes 18 = .ok (.iload 5, 2) := by decide +kernel
theorem dX11_bathes_20 : decode cX11_bathes 20 = .ok (.bipush 6, 2) := by decide +kernel
theorem dX11_bathes_22 : decode cX11_bathes 22 = .ok (.if_icmp .ge 71, 3) := by decide +kernel
theorem dX11_bathes_25 : decode cX11_bathes 25 = .ok (.aload_n 0, 1) := by decide +kernel
theorem dX11_bathes_26 : decode cX11_bathes 26 = .ok (.iload 5, 2) := by decide +kernel
theorem dX11_bathes_28 : decode cX11_bathes 28 = .ok (.iload_n 2, 1) := by decide +kernel
theorem dX11_bathes_29 : decode cX11_bathes 29 = .ok (.iload 4, 2) := by decide +kernel
theorem dX11_bathes_31 : decode cX11_bathes 31 = .ok (.iload_n 3, 1) := by decide +kernel
theorem dX11_bathes_32 : decode cX11_bathes 32 = .ok (.invokevirtual 249, 3) := by decide +kernel
theorem dX11_bathes_35 : decode cX11_bathes 35 = .ok (.ifCond .ne 6, 3) := by decide +kernel
theorem dX11_bathes_38 : decode cX11_bathes 38 = .ok (.goto 49, 3) := by decide +kernel
theorem dX11_bathes_41 : decode cX11_bathes 41 = .ok (.iload 4, 2) := by decide +kernel
theorem dX11_bathes_43 : decode cX11_bathes 43 = .ok (.istore 6, 2) := by decide +kernel
theorem dX11_bathes_45 : decode cX11_bathes 45 = .ok (.iload 6, 2) := by decide +kernel
theorem dX11_bathes_47 : decode cX11_bathes 47 = .ok (.iload 4, 2) := by decide +kernel
theorem dX11_bathes_49 : decode cX11_bathes 49 = .ok (.iload_n 3, 1) := by decide +kernel
theorem dX11_bathes_50 : decode cX11_bathes 50 = .ok (.iadd, 1) := by decide +kernel
theorem dX11_bathes_51 : decode cX11_bathes 51 = .ok (.if_icmp .ge 23, 3) := by decide +kernel
theorem dX11_bathes_54 : decode cX11_bathes 54 = .ok (.aload_n 0, 1) := by decide +kernel
theorem dX11_bathes_55 : decode cX11_bathes 55 = .ok (.getfield 106, 3) := by decide +kernel
theorem dX11_bathes_58 : decode cX11_bathes 58 = .ok (.bipush 48, 2) := by decide +kernel
theorem dX11_bathes_60 : decode cX11_bathes 60 = .ok (.iload 5, 2) := by decide +kernel
theorem dX11_bathes_62 : decode cX11_bathes 62 = .ok (.imul, 1) := by decide +kernel
theorem dX11_bathes_63 : decode cX11_bathes 63 = .ok (.iload 6, 2) := by decide +kernel
theorem dX11_bathes_65 : decode cX11_bathes 65 = .ok (.iadd, 1) := by decide +kernel
theorem dX11_bathes_66 : decode cX11_bathes 66 = .ok (.iconst 1, 1) := by decide +kernel
theorem dX11_bathes_67 : decode cX11_bathes 67 = .ok (.bastore, 1) := by decide +kernel
theorem dX11_bathes_68 : decode cX11_bathes 68 = .ok (.iinc 6 1, 3) := by decide +kernel
theorem dX11_bathes_71 : decode cX11_bathes 71 = .ok (.goto (-26), 3) := by decide +kernel
theorem dX11_bathes_74 : decode cX11_bathes 74 = .ok (.aload_n 0, 1) := by decide +kernel
theorem dX11_bathes_75 : decode cX11_bathes 75 = .ok (.iload_n 1, 1) := by decide +kernel
theorem dX11_bathes_76 : decode cX11_bathes 76 = .ok (.iconst 1, 1) := by decide +kernel
theorem dX11_bathes_77 : decode cX11_bathes 77 = .ok (.iload 4, 2) := by decide +kernel
theorem dX11_bathes_79 : decode cX11_bathes 79 = .ok (.iload_n 3, 1) := by decide +kernel
theorem dX11_bathes_80 : decode cX11_bathes 80 = .ok (.iload 5, 2) := by decide +kernel
theorem dX11_bathes_82 : decode cX11_bathes 82 = .ok (.invokevirtual 245, 3) := by decide +kernel
theorem dX11_bathes_85 : decode cX11_bathes 85 = .ok (.iconst 1, 1) := by decide +kernel
theorem dX11_bathes_86 : decode cX11_bathes 86 = .ok (.ireturn, 1) := by decide +kernel
theorem dX11_bathes_87 : decode cX11_bathes 87 = .ok (.iinc 5 1, 3) := by decide +kernel
theorem dX11_bathes_90 : decode cX11_bathes 90 = .ok (.goto (-72), 3) := by decide +kernel
theorem dX11_bathes_93 : decode cX11_bathes 93 = .ok (.iinc 4 1, 3) := by decide +kernel
theorem dX11_bathes_96 : decode cX11_bathes 96 = .ok (.goto (-90), 3) := by decide +kernel
theorem dX11_bathes_99 : decode cX11_bathes 99 = .ok (.iconst 0, 1) := by decide +kernel
theorem dX11_bathes_100 : decode cX11_bathes 100 = .ok (.ireturn, 1) := by decide +kernel
set_option maxRecDepth 20000 in
theorem ggX11_goes_X11_drinks : GoodIn wsX11_goes wsX11_drinks := goodIn_r _ [15, 5, 16, 3, 17, 18, 19, 14, 20, 21, 22, 23, 24, 25, 26, 27, 1, 28, 29, 30, 2, 42, 43, 44, 45, 46, 47, 48, 49, 50, 51, 52, 53, 54, 55, 56, 57, 58, 59, 60, 61, 62, 63, 64, 65, 66, 67, 68, 69, 70, 71, 72, 73, 74, 75, 76, 77, 78, 79, 80, 81, 82, 83, 84, 85, 86, 87, 88, 89, 90, 91, 92, 93, 94, 95, 96, 97, 98, 99, 100, 101, 102] (by decide +kernel) (by decide +kernel)
set_option maxRecDepth 20000 in
theorem gX11_goes_X11_drinks : GoodIn wsX11_goes (wsV RX11 253 RX11 yX11_drinks wsX11_drinks) := goodIn_app (goodIn_of _ (by decide +kernel)) ggX11_goes_X11_drinks
set_option maxRecDepth 20000 in
theorem ggX11_goes_X11_bathes : GoodIn wsX11_goes wsX11_bathes := goodIn_r _ [34, 5, 35, 36, 37, 38, 14, 39, 40, 41, 24, 25, 26, 27, 1, 28, 29, 30, 2, 42, 43, 44, 45, 46, 47, 48, 49, 50, 51, 52, 53, 54, 55, 56, 57, 58, 59, 60, 61, 62, 63, 64, 65, 66, 67, 68, 69, 70, 71, 72, 73, 74, 75, 76, 77, 78, 79, 80, 81, 82, 83, 84, 85, 86, 87, 88, 89, 90, 91, 92, 93, 94, 95, 96, 97, 98, 99, 100, 101, 102] (by decide +kernel) (by decide +kernel)
set_option maxRecDepth 20000 in
theorem gX11_goes_X11_bathes : GoodIn wsX11_goes (wsV RX11 256 RX11 yX11_bathes wsX11_bathes) := goodIn_app (goodIn_of _ (by decide +kernel)) ggX11_goes_X11_bathes
set_option maxRecDepth 20000 in
theorem ggX11_goes_X11_does : GoodIn wsX11_goes wsX11_does := goodIn_r _ [27, 1, 28, 29, 30, 5, 2, 42, 43, 44, 45, 46, 47, 48, 49, 50, 51, 52, 53, 54, 55, 56, 57, 58, 59, 60, 61, 62, 63, 64, 65, 66, 67, 68, 69, 70, 71, 72, 73, 74, 75, 76, 77, 78, 79, 80, 81, 82, 83, 84, 85, 86, 87, 88, 89, 90, 91, 92, 93, 94, 95, 96, 97, 98, 99, 100, 101, 102] (by decide +kernel) (by decide +kernel)
set_option maxRecDepth 20000 in
theorem gX11_goes_X11_does : GoodIn wsX11_goes (wsV RX11 245 RX11 yX11_does wsX11_does) := goodIn_app (goodIn_of _ (by decide +kernel)) ggX11_goes_X11_does
theorem dX11_goes_0 : decode cX11_goes 0 = .ok (.aload_n 0, 1) := by decide +kernel
theorem dX11_goes_1 : decode cX11_goes 1 = .ok (.getfield 94, 3) := by decide +kernel
theorem dX11_goes_4 : decode cX11_goes 4 = .ok (.iload_n 1, 1) := by decide +kernel
theorem dX11_goes_5 : decode cX11_goes 5 = .ok (.iconst 0, 1) := by decide +kernel
theorem dX11_goes_6 : decode cX11_goes 6 = .ok (.iastore, 1) := by decide +kernel
theorem dX11_goes_7 : decode cX11_goes 7 = .ok (.aload_n 0, 1) := by decide +kernel
theorem dX11_goes_8 : decode cX11_goes 8 = .ok (.getfield 97, 3) := by decide +kernel
theorem dX11_goes_11 : decode cX11_goes 11 = .ok (.iload_n 1, 1) := by decide +kernel
theorem dX11_goes_12 : decode cX11_goes 12 = .ok (.iconst 0, 1) := by decide +kernel
theorem dX11_goes_13 : decode cX11_goes 13 = .ok (.iastore, 1) := by decide +kernel
theorem dX11_goes_14 : decode cX11_goes 14 = .ok (.aload_n 0, 1) := by decide +kernel
theorem dX11_goes_15 : decode cX11_goes 15 = .ok (.getfield 100, 3) := by decide +kernel
theorem dX11_goes_18 : decode cX11_goes 18 = .ok (.iload_n 1, 1) := by decide +kernel
theorem dX11_goes_19 : decode cX11_goes 19 = .ok (.iconst 0, 1) := by decide +kernel
theorem dX11_goes_20 : decode cX11_goes 20 = .ok (.iastore, 1) := by decide +kernel
theorem dX11_goes_21 : decode cX11_goes 21 = .ok (.aload_n 0, 1) := by decide +kernel
theorem dX11_goes_22 : decode cX11_goes 22 = .ok (.getfield 103, 3) := by decide +kernel
theorem dX11_goes_25 : decode cX11_goes 25 = .ok (.iload_n 1, 1) := by decide +kernel
theorem dX11_goes_26 : decode cX11_goes 26 = .ok (.iconst 0, 1) := by decide +kernel
theorem dX11_goes_27 : decode cX11_goes 27 = .ok (.iastore, 1) := by decide +kernel
theorem dX11_goes_28 : decode cX11_goes 28 = .ok (.aload_n 0, 1) := by decide +kernel
theorem dX11_goes_29 : decode cX11_goes 29 = .ok (.iconst 0, 1) := by decide +kernel
theorem dX11_goes_30 : decode cX11_goes 30 = .ok (.putfield 239, 3) := by decide +kernel
theorem dX11_goes_33 : decode cX11_goes 33 = .ok (.iconst 0, 1) := by decide +kernel
theorem dX11_goes_34 : decode cX11_goes 34 = .ok (.istore_n 3, 1) := by decide +kernel
theorem dX11_goes_35 : decode cX11_goes 35 = .ok (.iconst 0, 1) := by decide +kernel
theorem dX11_goes_36 : decode cX11_goes 36 = .ok (.istore 4, 2) := by decide +kernel
theorem dX11_goes_38 : decode cX11_goes 38 = .ok (.iload 4, 2) := by decide +kernel
theorem dX11_goes_40 : decode cX11_goes 40 = .ok (.aload_n 0, 1) := by decide +kernel
theorem dX11_goes_41 : decode cX11_goes 41 = .ok (.getfield 39, 3) := by decide +kernel
theorem dX11_goes_44 : decode cX11_goes 44 = .ok (.aload_n 0, 1) := by decide +kernel
theorem dX11_goes_45 : decode cX11_goes 45 = .ok (.getfield 64, 3) := by decide +kernel
theorem dX11_goes_48 : decode cX11_goes 48 = .ok (.iload_n 1, 1) := by decide +kernel
theorem dX11_goes_49 : decode cX11_goes 49 = .ok (.iaload, 1) := by decide +kernel
theorem dX11_goes_50 : decode cX11_goes 50 = .ok (.iaload, 1) := by decide +kernel
theorem dX11_goes_51 : decode cX11_goes 51 = .ok (.if_icmp .ge 245, 3) := by decide +kernel
theorem dX11_goes_54 : decode cX11_goes 54 = .ok (.aload_n 0, 1) := by decide +kernel
theorem dX11_goes_55 : decode cX11_goes 55 = .ok (.getfield 103, 3) := by decide +kernel
theorem dX11_goes_58 : decode cX11_goes 58 = .ok (.iload_n 1, 1) := by decide +kernel
theorem dX11_goes_59 : decode cX11_goes 59 = .ok (.iaload, 1) := by decide +kernel
theorem dX11_goes_60 : decode cX11_goes 60 = .ok (.ifCond .ne 236, 3) := by decide +kernel
theorem dX11_goes_63 : decode cX11_goes 63 = .ok (.bipush 90, 2) := by decide +kernel
theorem dX11_goes_65 : decode cX11_goes 65 = .ok (.aload_n 0, 1) := by decide +kernel
theorem dX11_goes_66 : decode cX11_goes 66 = .ok (.getfield 64, 3) := by decide +kernel
theorem dX11_goes_69 : decode cX11_goes 69 = .ok (.iload_n 1, 1) := by decide +kernel
theorem dX11_goes_70 : decode cX11_goes 70 = .ok (.iaload, 1) := by decide +kernel
theorem dX11_goes_71 : decode cX11_goes 71 = .ok (.imul, 1) := by decide +kernel
theorem dX11_goes_72 : decode cX11_goes 72 = .ok (.iconst 3, 1) := by decide +kernel
theorem dX11_goes_73 : decode cX11_goes 73 = .ok (.iload 4, 2) := by decide +kernel
theorem dX11_goes_75 : decode cX11_goes 75 = .ok (.imul, 1) := by decide +kernel
theorem dX11_goes_76 : decode cX11_goes 76 = .ok (.iadd, 1) := by decide +kernel
theorem dX11_goes_77 : decode cX11_goes 77 = .ok (.istore 5, 2) := by decide +kernel
theorem dX11_goes_79 : decode cX11_goes 79 = .ok (.aload_n 0, 1) := by decide +kernel
theorem dX11_goes_80 : decode cX11_goes 80 = .ok (.getfield 42, 3) := by decide +kernel
theorem dX11_goes_83 : decode cX11_goes 83 = .ok (.iload 5, 2) := by decide +kernel
theorem dX11_goes_85 : decode cX11_goes 85 = .ok (.iconst 1, 1) := by decide +kernel
theorem dX11_goes_86 : decode cX11_goes 86 = .ok (.iadd, 1) := by decide +kernel
theorem dX11_goes_87 : decode cX11_goes 87 = .ok (.iaload, 1) := by decide +kernel
theorem dX11_goes_88 : decode cX11_goes 88 = .ok (.istore 6, 2) := by decide +kernel
theorem dX11_goes_90 : decode cX11_goes 90 = .ok (.aload_n 0, 1) := by decide +kernel
theorem dX11_goes_91 : decode cX11_goes 91 = .ok (.getfield 42, 3) := by decide +kernel
theorem dX11_goes_94 : decode cX11_goes 94 = .ok (.iload 5, 2) := by decide +kernel
theorem dX11_goes_96 : decode cX11_goes 96 = .ok (.iconst 2, 1) := by decide +kernel
theorem dX11_goes_97 : decode cX11_goes 97 = .ok (.iadd, 1) := by decide +kernel
theorem dX11_goes_98 : decode cX11_goes 98 = .ok (.iaload, 1) := by decide +kernel
theorem dX11_goes_99 : decode cX11_goes 99 = .ok (.istore 7, 2) := by decide +kernel
theorem dX11_goes_101 : decode cX11_goes 101 = .ok (.iinc 4 1, 3) := by decide +kernel
theorem dX11_goes_104 : decode cX11_goes 104 = .ok (.iconst 1, 1) := by decide +kernel
theorem dX11_goes_105 : decode cX11_goes 105 = .ok (.istore 8, 2) := by decide +kernel
theorem dX11_goes_107 : decode cX11_goes 107 = .ok (.aload_n 0, 1) := by decide +kernel
theorem dX11_goes_108 : decode cX11_goes 108 = .ok (.getfield 42, 3) := by decide +kernel
theorem dX11_goes_111 : decode cX11_goes 111 = .ok (.iload 5, 2) := by decide +kernel
theorem dX11_goes_113 : decode cX11_goes 113 = .ok (.iaload, 1) := by decide +kernel
theorem dX11_goes_114 : decode cX11_goes 114 = .ok (.tableswitch 152 0 3 #[30, 73, 87, 127], 30) := by decide +kernel
theorem dX11_goes_144 : decode cX11_goes 144 = .ok (.iload_n 3, 1) := by decide +kernel
theorem dX11_goes_145 : decode cX11_goes 145 = .ok (.aload_n 0, 1) := by decide +kernel
theorem dX11_goes_146 : decode cX11_goes 146 = .ok (.getfield 19, 3) := by decide +kernel
theorem dX11_goes_149 : decode cX11_goes 149 = .ok (.iload 6, 2) := by decide +kernel
theorem dX11_goes_151 : decode cX11_goes 151 = .ok (.iaload, 1) := by decide +kernel
theorem dX11_goes_152 : decode cX11_goes 152 = .ok (.iadd, 1) := by decide +kernel
theorem dX11_goes_153 : decode cX11_goes 153 = .ok (.aload_n 0, 1) := by decide +kernel
theorem dX11_goes_154 : decode cX11_goes 154 = .ok (.getfield 73, 3) := by decide +kernel
theorem dX11_goes_157 : decode cX11_goes 157 = .ok (.iload_n 1, 1) := by decide +kernel
theorem dX11_goes_158 : decode cX11_goes 158 = .ok (.iaload, 1) := by decide +kernel
theorem dX11_goes_159 : decode cX11_goes 159 = .ok (.if_icmp .le 6, 3) := by decide +kernel
theorem dX11_goes_162 : decode cX11_goes 162 = .ok (.goto 115, 3) := by decide +kernel
theorem dX11_goes_165 : decode cX11_goes 165 = .ok (.aload_n 0, 1) := by decide +kernel
theorem dX11_goes_166 : decode cX11_goes 166 = .ok (.iload_n 1, 1) := by decide +kernel
theorem dX11_goes_167 : decode cX11_goes 167 = .ok (.iload 6, 2) := by decide +kernel
theorem dX11_goes_169 : decode cX11_goes 169 = .ok (.invokevirtual 253, 3) := by decide +kernel
theorem dX11_goes_172 : decode cX11_goes 172 = .ok (.istore 8, 2) := by decide +kernel
theorem dX11_goes_174 : decode cX11_goes 174 = .ok (.iload_n 3, 1) := by decide +kernel
theorem dX11_goes_175 : decode cX11_goes 175 = .ok (.aload_n 0, 1) := by decide +kernel
theorem dX11_goes_176 : decode cX11_goes 176 = .ok (.getfield 19, 3) := by decide +kernel
theorem dX11_goes_179 : decode cX11_goes 179 = .ok (.iload 6, 2) := by decide +kernel
theorem dX11_goes_181 : decode cX11_goes 181 = .ok (.iaload, 1) := by decide +kernel
theorem dX11_goes_182 : decode cX11_goes 182 = .ok (.iadd, 1) := by decide +kernel
theorem dX11_goes_183 : decode cX11_goes 183 = .ok (.istore_n 3, 1) := by decide +kernel
theorem dX11_goes_184 : decode cX11_goes 184 = .ok (.goto 93, 3) := by decide +kernel
theorem dX11_goes_187 : decode cX11_goes 187 = .ok (.aload_n 0, 1) := by decide +kernel
theorem dX11_goes_188 : decode cX11_goes 188 = .ok (.iload_n 1, 1) := by decide +kernel
theorem dX11_goes_189 : decode cX11_goes 189 = .ok (.iload 6, 2) := by decide +kernel
theorem dX11_goes_191 : decode cX11_goes 191 = .ok (.iload 7, 2) := by decide +kernel
theorem dX11_goes_193 : decode cX11_goes 193 = .ok (.invokevirtual 256, 3) := by decide +kernel
theorem dX11_goes_196 : decode cX11_goes 196 = .ok (.istore 8, 2) := by decide +kernel
theorem dX11_goes_198 : decode cX11_goes 198 = .ok (.goto 79, 3) := by decide +kernel
theorem dX11_goes_201 : decode cX11_goes 201 = .ok (.aload_n 0, 1) := by decide +kernel
theorem dX11_goes_202 : decode cX11_goes 202 = .ok (.getfield 239, 3) := by decide +kernel
theorem dX11_goes_205 : decode cX11_goes 205 = .ok (.iload 6, 2) := by decide +kernel
theorem dX11_goes_207 : decode cX11_goes 207 = .ok (.iadd, 1) := by decide +kernel
theorem dX11_goes_208 : decode cX11_goes 208 = .ok (.bipush 48, 2) := by decide +kernel
theorem dX11_goes_210 : decode cX11_goes 210 = .ok (.if_icmp .gt 7, 3) := by decide +kernel
theorem dX11_goes_213 : decode cX11_goes 213 = .ok (.iconst 1, 1) := by decide +kernel
theorem dX11_goes_214 : decode cX11_goes 214 = .ok (.goto 4, 3) := by decide +kernel
theorem dX11_goes_217 : decode cX11_goes 217 = .ok (.iconst 0, 1) := by decide +kernel
theorem dX11_goes_218 : decode cX11_goes 218 = .ok (.istore 8, 2) := by decide +kernel
theorem dX11_goes_220 : decode cX11_goes 220 = .ok (.iload 8, 2) := by decide +kernel
theorem dX11_goes_222 : decode cX11_goes 222 = .ok (.ifCond .eq 55, 3) := by decide +kernel
theorem dX11_goes_225 : decode cX11_goes 225 = .ok (.aload_n 0, 1) := by decide +kernel
theorem dX11_goes_226 : decode cX11_goes 226 = .ok (.iload_n 1, 1) := by decide +kernel
theorem dX11_goes_227 : decode cX11_goes 227 = .ok (.iconst 2, 1) := by decide +kernel
theorem dX11_goes_228 : decode cX11_goes 228 = .ok (.aload_n 0, 1) := by decide +kernel
theorem dX11_goes_229 : decode cX11_goes 229 = .ok (.getfield 239, 3) := by decide +kernel
theorem dX11_goes_232 : decode cX11_goes 232 = .ok (.iload 6, 2) := by decide +kernel
theorem dX11_goes_234 : decode cX11_goes 234 = .ok (.iconst (-1), 1) := by decide +kernel
theorem dX11_goes_235 : decode cX11_goes 235 = .ok (.invokevirtual 245, 3) := by decide +kernel
theorem dX11_goes_238 : decode cX11_goes 238 = .ok (.goto 39, 3) := by decide +kernel
theorem dX11_goes_241 : decode cX11_goes 241 = .ok (.aload_n 0, 1) := by decide +kernel
theorem dX11_goes_242 : decode cX11_goes 242 = .ok (.iload 6, 2) := by decide +kernel
theorem dX11_goes_244 : decode cX11_goes 244 = .ok (.aload_n 0, 1) := by decide +kernel
theorem dX11_goes_245 : decode cX11_goes 245 = .ok (.getfield 239, 3) := by decide +kernel
theorem dX11_goes_248 : decode cX11_goes 248 = .ok (.if_icmp .le 8, 3) := by decide +kernel
theorem dX11_goes_251 : decode cX11_goes 251 = .ok (.iload 6, 2) := by decide +kernel
theorem dX11_goes_253 : decode cX11_goes 253 = .ok (.goto 7, 3) := by decide +kernel
theorem dX11_goes_256 : decode cX11_goes 256 = .ok (.aload_n 0, 1) := by decide +kernel
theorem dX11_goes_257 : decode cX11_goes 257 = .ok (.getfield 239, 3) := by decide +kernel
theorem dX11_goes_260 : decode cX11_goes 260 = .ok (.putfield 239, 3) := by decide +kernel
theorem dX11_goes_263 : decode cX11_goes 263 = .ok (.goto 14, 3) := by decide +kernel
theorem dX11_goes_266 : decode cX11_goes 266 = .ok (.iload_n 2, 1) := by decide +kernel
theorem dX11_goes_267 : decode cX11_goes 267 = .ok (.iload 6, 2) := by decide +kernel
theorem dX11_goes_269 : decode cX11_goes 269 = .ok (.irem, 1) := by decide +kernel
theorem dX11_goes_270 : decode cX11_goes 270 = .ok (.ifCond .eq 7, 3) := by decide +kernel
theorem dX11_goes_273 : decode cX11_goes 273 = .ok (.iload 7, 2) := by decide +kernel
theorem dX11_goes_275 : decode cX11_goes 275 = .ok (.istore 4, 2) := by decide +kernel
theorem dX11_goes_277 : decode cX11_goes 277 = .ok (.aload_n 0, 1) := by decide +kernel
theorem dX11_goes_278 : decode cX11_goes 278 = .ok (.getfield 103, 3) := by decide +kernel
theorem dX11_goes_281 : decode cX11_goes 281 = .ok (.iload_n 1, 1) := by decide +kernel
theorem dX11_goes_282 : decode cX11_goes 282 = .ok (.iload 8, 2) := by decide +kernel
theorem dX11_goes_284 : decode cX11_goes 284 = .ok (.ifCond .eq 7, 3) := by decide +kernel
theorem dX11_goes_287 : decode cX11_goes 287 = .ok (.iconst 0, 1) := by decide +kernel
theorem dX11_goes_288 : decode cX11_goes 288 = .ok (.goto 4, 3) := by decide +kernel
theorem dX11_goes_291 : decode cX11_goes 291 = .ok (.iconst 1, 1) := by decide +kernel
theorem dX11_goes_292 : decode cX11_goes 292 = .ok (.iastore, 1) := by decide +kernel
theorem dX11_goes_293 : decode cX11_goes 293 = .ok (.goto (-255), 3) := by decide +kernel
theorem dX11_goes_296 : decode cX11_goes 296 = .ok (.return_, 1) := by decide +kernel
set_option maxRecDepth 20000 in
theorem ggX11_lays_X11_clear : GoodIn wsX11_lays wsX11_clear := goodIn_r _ [6, 7, 8, 65, 66, 67, 68, 69, 70, 71, 72, 73, 74, 75, 76, 77, 78, 79, 80, 81, 82, 83, 84, 85, 86, 87, 88, 89, 90, 91, 92, 93, 94, 95, 96, 97, 98, 99, 100, 101, 102, 103, 104, 105, 106, 107, 108, 109, 110, 111, 112, 113, 114, 115, 116, 117, 118, 119, 120, 121, 122, 123, 124, 125] (by decide +kernel) (by decide +kernel)
set_option maxRecDepth 20000 in
theorem gX11_lays_X11_clear : GoodIn wsX11_lays (wsV RX11 259 RX11 yX11_clear wsX11_clear) := goodIn_app (goodIn_of _ (by decide +kernel)) ggX11_lays_X11_clear
set_option maxRecDepth 20000 in
theorem ggX11_lays_X11_here : GoodIn wsX11_lays wsX11_here := goodIn_r _ [12, 13, 14, 15, 16, 5, 17, 18, 19, 20, 21, 22, 65, 66, 67, 68, 69, 70, 71, 72, 73, 74, 75, 76, 77, 78, 79, 80, 81, 82, 83, 84, 85, 86, 87, 88, 89, 90, 91, 92, 93, 94, 95, 96, 97, 98, 99, 100, 101, 102, 103, 104, 105, 106, 107, 108, 109, 110, 111, 112, 113, 114, 115, 116, 117, 118, 119, 120, 121, 122, 123, 124, 125] (by decide +kernel) (by decide +kernel)
set_option maxRecDepth 20000 in
theorem gX11_lays_X11_here : GoodIn wsX11_lays (wsV RX11 262 RX11 yX11_here wsX11_here) := goodIn_app (goodIn_of _ (by decide +kernel)) ggX11_lays_X11_here
set_option maxRecDepth 20000 in
theorem ggX11_lays_X11_goes : GoodIn wsX11_lays wsX11_goes := goodIn_r _ [26, 27, 28, 29, 30, 31, 32, 33, 34, 35, 36, 37, 38, 39, 5, 40, 7, 41, 42, 43, 44, 45, 46, 47, 48, 49, 50, 51, 52, 53, 54, 55, 56, 57, 58, 8, 59, 60, 61, 62, 63, 64, 65, 66, 67, 68, 69, 70, 71, 72, 73, 74, 75, 76, 77, 78, 79, 80, 81, 82, 83, 84, 85, 86, 87, 88, 89, 90, 91, 92, 93, 94, 95, 96, 97, 98, 99, 100, 101, 102, 103, 104, 105, 106, 107, 108, 109, 110, 111, 112, 113, 114, 115, 116, 117, 118, 119, 120, 121, 122, 123, 124, 125] (by decide +kernel) (by decide +kernel)
set_option maxRecDepth 20000 in
theorem gX11_lays_X11_goes : GoodIn wsX11_lays (wsV RX11 265 RX11 yX11_goes wsX11_goes) := goodIn_app (goodIn_of _ (by decide +kernel)) ggX11_lays_X11_goes
theorem dX11_lays_0 : decode cX11_lays 0 = .ok (.aload_n 0, 1) := by decide +kernel
theorem dX11_lays_1 : decode cX11_lays 1 = .ok (.invokevirtual 259, 3) := by decide +kernel
theorem dX11_lays_4 : decode cX11_lays 4 = .ok (.iconst 0, 1) := by decide +kernel
theorem dX11_lays_5 : decode cX11_lays 5 = .ok (.istore_n 2, 1) := by decide +kernel
theorem dX11_lays_6 : decode cX11_lays 6 = .ok (.iload_n 2, 1) := by decide +kernel
theorem dX11_lays_7 : decode cX11_lays 7 = .ok (.aload_n 0, 1) := by decide +kernel
theorem dX11_lays_8 : decode cX11_lays 8 = .ok (.iload_n 1, 1) := by decide +kernel
theorem dX11_lays_9 : decode cX11_lays 9 = .ok (.invokevirtual 262, 3) := by decide +kernel
theorem dX11_lays_12 : decode cX11_lays 12 = .ok (.if_icmp .ge 20, 3) := by decide +kernel
theorem dX11_lays_15 : decode cX11_lays 15 = .ok (.aload_n 0, 1) := by decide +kernel
theorem dX11_lays_16 : decode cX11_lays 16 = .ok (.aload_n 0, 1) := by decide +kernel
theorem dX11_lays_17 : decode cX11_lays 17 = .ok (.getfield 91, 3) := by decide +kernel
theorem dX11_lays_20 : decode cX11_lays 20 = .ok (.iload_n 2, 1) := by decide +kernel
theorem dX11_lays_21 : decode cX11_lays 21 = .ok (.iaload, 1) := by decide +kernel
theorem dX11_lays_22 : decode cX11_lays 22 = .ok (.iload_n 1, 1) := by decide +kernel
theorem dX11_lays_23 : decode cX11_lays 23 = .ok (.invokevirtual 265, 3) := by decide +kernel
theorem dX11_lays_26 : decode cX11_lays 26 = .ok (.iinc 2 1, 3) := by decide +kernel
theorem dX11_lays_29 : decode cX11_lays 29 = .ok (.goto (-23), 3) := by decide +kernel
theorem dX11_lays_32 : decode cX11_lays 32 = .ok (.return_, 1) := by decide +kernel
set_option maxRecDepth 20000 in
theorem ggX11_ranks_X11_isHere : GoodIn wsX11_ranks wsX11_isHere := goodIn_r _ [8, 1, 9, 10, 11, 12, 7, 13, 14, 15, 16, 17, 18, 19, 20, 21, 22, 23, 24, 25, 26, 27, 28, 29, 30, 31, 32, 33, 34, 35, 36, 37, 38, 39, 40, 41, 42, 43, 44, 45, 46, 47, 48, 49, 50, 51, 52, 53, 54, 55, 56, 57, 58, 59, 60, 61, 62, 63, 64, 65, 66, 67, 68, 69, 70, 71, 72, 73, 74] (by decide +kernel) (by decide +kernel)
set_option maxRecDepth 20000 in
theorem gX11_ranks_X11_isHere : GoodIn wsX11_ranks (wsV RX11 236 RX11 yX11_isHere wsX11_isHere) := goodIn_app (goodIn_of _ (by decide +kernel)) ggX11_ranks_X11_isHere
theorem dX11_ranks_0 : decode cX11_ranks 0 = .ok (.iconst 0, 1) := by decide +kernel
theorem dX11_ranks_1 : decode cX11_ranks 1 = .ok (.istore_n 2, 1) := by decide +kernel
theorem dX11_ranks_2 : decode cX11_ranks 2 = .ok (.iconst 0, 1) := by decide +kernel
theorem dX11_ranks_3 : decode cX11_ranks 3 = .ok (.istore_n 3, 1) := by decide +kernel
theorem dX11_ranks_4 : decode cX11_ranks 4 = .ok (.iload_n 3, 1) := by decide +kernel
theorem dX11_ranks_5 : decode cX11_ranks 5 = .ok (.iconst 4, 1) := by decide +kernel
theorem dX11_ranks_6 : decode cX11_ranks 6 = .ok (.if_icmp .ge 62, 3) := by decide +kernel
theorem dX11_ranks_9 : decode cX11_ranks 9 = .ok (.iconst 0, 1) := by decide +kernel
theorem dX11_ranks_10 : decode cX11_ranks 10 = .ok (.istore 4, 2) := by decide +kernel
theorem dX11_ranks_12 : decode cX11_ranks 12 = .ok (.iload 4, 2) := by decide +kernel
theorem dX11_ranks_14 : decode cX11_ranks 14 = .ok (.aload_n 0, 1) := by decide +kernel
theorem dX11_ranks_15 : decode cX11_ranks 15 = .ok (.getfield 233, 3) := by decide +kernel
theorem dX11_ranks_18 : decode cX11_ranks 18 = .ok (.if_icmp .ge 44, 3) := by decide +kernel
theorem dX11_ranks_21 : decode cX11_ranks 21 = .ok (.aload_n 0, 1) := by decide +kernel
theorem dX11_ranks_22 : decode cX11_ranks 22 = .ok (.iload 4, 2) := by decide +kernel
theorem dX11_ranks_24 : decode cX11_ranks 24 = .ok (.iload_n 1, 1) := by decide +kernel
theorem dX11_ranks_25 : decode cX11_ranks 25 = .ok (.invokevirtual 236, 3) := by decide +kernel
theorem dX11_ranks_28 : decode cX11_ranks 28 = .ok (.ifCond .eq 28, 3) := by decide +kernel
theorem dX11_ranks_31 : decode cX11_ranks 31 = .ok (.aload_n 0, 1) := by decide +kernel
theorem dX11_ranks_32 : decode cX11_ranks 32 = .ok (.getfield 61, 3) := by decide +kernel
theorem dX11_ranks_35 : decode cX11_ranks 35 = .ok (.iload 4, 2) := by decide +kernel
theorem dX11_ranks_37 : decode cX11_ranks 37 = .ok (.iaload, 1) := by decide +kernel
theorem dX11_ranks_38 : decode cX11_ranks 38 = .ok (.iload_n 3, 1) := by decide +kernel
theorem dX11_ranks_39 : decode cX11_ranks 39 = .ok (.if_icmp .eq 6, 3) := by decide +kernel
theorem dX11_ranks_42 : decode cX11_ranks 42 = .ok (.goto 14, 3) := by decide +kernel
theorem dX11_ranks_45 : decode cX11_ranks 45 = .ok (.aload_n 0, 1) := by decide +kernel
theorem dX11_ranks_46 : decode cX11_ranks 46 = .ok (.getfield 91, 3) := by decide +kernel
theorem dX11_ranks_49 : decode cX11_ranks 49 = .ok (.iload_n 2, 1) := by decide +kernel
theorem dX11_ranks_50 : decode cX11_ranks 50 = .ok (.iload 4, 2) := by decide +kernel
theorem dX11_ranks_52 : decode cX11_ranks 52 = .ok (.iastore, 1) := by decide +kernel
theorem dX11_ranks_53 : decode cX11_ranks 53 = .ok (.iinc 2 1, 3) := by decide +kernel
theorem dX11_ranks_56 : decode cX11_ranks 56 = .ok (.iinc 4 1, 3) := by decide +kernel
theorem dX11_ranks_59 : decode cX11_ranks 59 = .ok (.goto (-47), 3) := by decide +kernel
theorem dX11_ranks_62 : decode cX11_ranks 62 = .ok (.iinc 3 1, 3) := by decide +kernel
theorem dX11_ranks_65 : decode cX11_ranks 65 = .ok (.goto (-61), 3) := by decide +kernel
theorem dX11_ranks_68 : decode cX11_ranks 68 = .ok (.return_, 1) := by decide +kernel
set_option maxRecDepth 20000 in
theorem ggX11_isDay_X11_isIn : GoodIn wsX11_isDay wsX11_isIn := goodIn_r _ [4] (by decide +kernel) (by decide +kernel)
set_option maxRecDepth 20000 in
theorem gX11_isDay_X11_isIn : GoodIn wsX11_isDay (va_wsS RX11 136 yX11_isIn wsX11_isIn) := goodIn_app (goodIn_of _ (by decide +kernel)) ggX11_isDay_X11_isIn
theorem dX11_isDay_0 : decode cX11_isDay 0 = .ok (.iload_n 0, 1) := by decide +kernel
theorem dX11_isDay_1 : decode cX11_isDay 1 = .ok (.iload_n 1, 1) := by decide +kernel
theorem dX11_isDay_2 : decode cX11_isDay 2 = .ok (.bipush 99, 2) := by decide +kernel
theorem dX11_isDay_4 : decode cX11_isDay 4 = .ok (.invokestatic 136, 3) := by decide +kernel
theorem dX11_isDay_7 : decode cX11_isDay 7 = .ok (.ireturn, 1) := by decide +kernel
set_option maxRecDepth 20000 in
theorem ggX11_plan_X11_isDay : GoodIn wsX11_plan wsX11_isDay := goodIn_r _ [12, 13, 14, 11, 15] (by decide +kernel) (by decide +kernel)
set_option maxRecDepth 20000 in
theorem gX11_plan_X11_isDay : GoodIn wsX11_plan (va_wsS RX11 269 yX11_isDay wsX11_isDay) := goodIn_app (goodIn_of _ (by decide +kernel)) ggX11_plan_X11_isDay
set_option maxRecDepth 20000 in
theorem ggX11_plan_X11_isHere : GoodIn wsX11_plan wsX11_isHere := goodIn_r _ [19, 20, 21, 22, 13, 14, 11, 15, 78, 79, 80, 81, 82, 83, 84, 85, 86, 87, 88, 89, 90, 91, 92, 93, 94, 95, 96, 97, 98, 99, 100, 101, 102, 103, 104, 105, 106, 107, 108, 109, 110, 111, 112, 113, 114, 115, 116, 117, 118, 119, 120, 121, 122, 123, 124, 125, 126, 127, 128, 129, 130, 131, 132, 133, 134, 135, 136, 137, 138] (by decide +kernel) (by decide +kernel)
set_option maxRecDepth 20000 in
theorem gX11_plan_X11_isHere : GoodIn wsX11_plan (wsV RX11 236 RX11 yX11_isHere wsX11_isHere) := goodIn_app (goodIn_of _ (by decide +kernel)) ggX11_plan_X11_isHere
set_option maxRecDepth 20000 in
theorem ggX11_plan_X11_ranks : GoodIn wsX11_plan wsX11_ranks := goodIn_r _ [26, 20, 27, 28, 16, 17, 18, 11, 19, 21, 22, 13, 14, 15, 78, 79, 80, 81, 82, 83, 84, 85, 86, 87, 88, 89, 90, 91, 92, 93, 94, 95, 96, 97, 98, 99, 100, 101, 102, 103, 104, 105, 106, 107, 108, 109, 110, 111, 112, 113, 114, 115, 116, 117, 118, 119, 120, 121, 122, 123, 124, 125, 126, 127, 128, 129, 130, 131, 132, 133, 134, 135, 136, 137, 138] (by decide +kernel) (by decide +kernel)
set_option maxRecDepth 20000 in
theorem gX11_plan_X11_ranks : GoodIn wsX11_plan (wsV RX11 272 RX11 yX11_ranks wsX11_ranks) := goodIn_app (goodIn_of _ (by decide +kernel)) ggX11_plan_X11_ranks
set_option maxRecDepth 20000 in
theorem ggX11_plan_X11_lays : GoodIn wsX11_plan wsX11_lays := goodIn_r _ [32, 28, 33, 34, 35, 11, 36, 37, 38, 39, 40, 41, 42, 20, 16, 17, 18, 19, 21, 22, 13, 14, 15, 43, 44, 45, 46, 2, 3, 4, 5, 47, 48, 49, 50, 51, 52, 53, 54, 55, 56, 57, 58, 59, 60, 61, 62, 63, 64, 65, 66, 67, 6, 7, 8, 68, 69, 70, 71, 72, 73, 74, 75, 76, 77, 78, 79, 80, 81, 82, 83, 84, 85, 86, 87, 88, 89, 90, 91, 92, 93, 94, 95, 96, 97, 98, 99, 100, 101, 102, 103, 104, 105, 106, 107, 108, 109, 110, 111, 112, 113, 114, 115, 116, 117, 118, 119, 120, 121, 122, 123, 124, 125, 126, 127, 128, 129, 130, 131, 132, 133, 134, 135, 136, 137, 138] (by decide +kernel) (by decide +kernel)
set_option maxRecDepth 20000 in
theorem gX11_plan_X11_lays : GoodIn wsX11_plan (wsV RX11 276 RX11 yX11_lays wsX11_lays) := goodIn_app (goodIn_of _ (by decide +kernel)) ggX11_plan_X11_lays
set_option maxRecDepth 20000 in
theorem ggX11_plan_X11_isIn : GoodIn wsX11_plan wsX11_isIn := goodIn_r _ [15] (by decide +kernel) (by decide +kernel)
set_option maxRecDepth 20000 in
theorem gX11_plan_X11_isIn : GoodIn wsX11_plan (va_wsS RX11 136 yX11_isIn wsX11_isIn) := goodIn_app (goodIn_of _ (by decide +kernel)) ggX11_plan_X11_isIn
theorem dX11_plan_0 : decode cX11_plan 0 = .ok (.iload_n 1, 1) := by decide +kernel
theorem dX11_plan_1 : decode cX11_plan 1 = .ok (.aload_n 0, 1) := by decide +kernel
theorem dX11_plan_2 : decode cX11_plan 2 = .ok (.getfield 230, 3) := by decide +kernel
theorem dX11_plan_5 : decode cX11_plan 5 = .ok (.invokestatic 269, 3) := by decide +kernel
theorem dX11_plan_8 : decode cX11_plan 8 = .ok (.ifCond .eq 12, 3) := by decide +kernel
theorem dX11_plan_11 : decode cX11_plan 11 = .ok (.aload_n 0, 1) := by decide +kernel
theorem dX11_plan_12 : decode cX11_plan 12 = .ok (.iload_n 2, 1) := by decide +kernel
theorem dX11_plan_13 : decode cX11_plan 13 = .ok (.iload_n 1, 1) := by decide +kernel
theorem dX11_plan_14 : decode cX11_plan 14 = .ok (.invokevirtual 236, 3) := by decide +kernel
theorem dX11_plan_17 : decode cX11_plan 17 = .ok (.ifCond .ne 5, 3) := by decide +kernel
theorem dX11_plan_20 : decode cX11_plan 20 = .ok (.iconst (-1), 1) := by decide +kernel
theorem dX11_plan_21 : decode cX11_plan 21 = .ok (.ireturn, 1) := by decide +kernel
theorem dX11_plan_22 : decode cX11_plan 22 = .ok (.aload_n 0, 1) := by decide +kernel
theorem dX11_plan_23 : decode cX11_plan 23 = .ok (.iload_n 1, 1) := by decide +kernel
theorem dX11_plan_24 : decode cX11_plan 24 = .ok (.invokevirtual 272, 3) := by decide +kernel
theorem dX11_plan_27 : decode cX11_plan 27 = .ok (.aload_n 0, 1) := by decide +kernel
theorem dX11_plan_28 : decode cX11_plan 28 = .ok (.iload_n 1, 1) := by decide +kernel
theorem dX11_plan_29 : decode cX11_plan 29 = .ok (.invokevirtual 276, 3) := by decide +kernel
theorem dX11_plan_32 : decode cX11_plan 32 = .ok (.iload_n 3, 1) := by decide +kernel
theorem dX11_plan_33 : decode cX11_plan 33 = .ok (.bipush 10, 2) := by decide +kernel
theorem dX11_plan_35 : decode cX11_plan 35 = .ok (.if_icmp .ge 60, 3) := by decide +kernel
theorem dX11_plan_38 : decode cX11_plan 38 = .ok (.iload_n 3, 1) := by decide +kernel
theorem dX11_plan_39 : decode cX11_plan 39 = .ok (.ifCond .ne 12, 3) := by decide +kernel
theorem dX11_plan_42 : decode cX11_plan 42 = .ok (.aload_n 0, 1) := by decide +kernel
theorem dX11_plan_43 : decode cX11_plan 43 = .ok (.getfield 94, 3) := by decide +kernel
theorem dX11_plan_46 : decode cX11_plan 46 = .ok (.iload_n 2, 1) := by decide +kernel
theorem dX11_plan_47 : decode cX11_plan 47 = .ok (.iaload, 1) := by decide +kernel
theorem dX11_plan_48 : decode cX11_plan 48 = .ok (.goto 46, 3) := by decide +kernel
theorem dX11_plan_51 : decode cX11_plan 51 = .ok (.iload_n 3, 1) := by decide +kernel
theorem dX11_plan_52 : decode cX11_plan 52 = .ok (.iconst 1, 1) := by decide +kernel
theorem dX11_plan_53 : decode cX11_plan 53 = .ok (.if_icmp .ne 12, 3) := by decide +kernel
theorem dX11_plan_56 : decode cX11_plan 56 = .ok (.aload_n 0, 1) := by decide +kernel
theorem dX11_plan_57 : decode cX11_plan 57 = .ok (.getfield 97, 3) := by decide +kernel
theorem dX11_plan_60 : decode cX11_plan 60 = .ok (.iload_n 2, 1) := by decide +kernel
theorem dX11_plan_61 : decode cX11_plan 61 = .ok (.iaload, 1) := by decide +kernel
theorem dX11_plan_62 : decode cX11_plan 62 = .ok (.goto 32, 3) := by decide +kernel
theorem dX11_plan_65 : decode cX11_plan 65 = .ok (.iload_n 3, 1) := by decide +kernel
theorem dX11_plan_66 : decode cX11_plan 66 = .ok (.iconst 2, 1) := by decide +kernel
theorem dX11_plan_67 : decode cX11_plan 67 = .ok (.if_icmp .ne 12, 3) := by decide +kernel
theorem dX11_plan_70 : decode cX11_plan 70 = .ok (.aload_n 0, 1) := by decide +kernel
theorem dX11_plan_71 : decode cX11_plan 71 = .ok (.getfield 100, 3) := by decide +kernel
theorem dX11_plan_74 : decode cX11_plan 74 = .ok (.iload_n 2, 1) := by decide +kernel
theorem dX11_plan_75 : decode cX11_plan 75 = .ok (.iaload, 1) := by decide +kernel
theorem dX11_plan_76 : decode cX11_plan 76 = .ok (.goto 18, 3) := by decide +kernel
theorem dX11_plan_79 : decode cX11_plan 79 = .ok (.iload_n 3, 1) := by decide +kernel
theorem dX11_plan_80 : decode cX11_plan 80 = .ok (.iconst 3, 1) := by decide +kernel
theorem dX11_plan_81 : decode cX11_plan 81 = .ok (.if_icmp .ne 12, 3) := by decide +kernel
theorem dX11_plan_84 : decode cX11_plan 84 = .ok (.aload_n 0, 1) := by decide +kernel
theorem dX11_plan_85 : decode cX11_plan 85 = .ok (.getfield 103, 3) := by decide +kernel
theorem dX11_plan_88 : decode cX11_plan 88 = .ok (.iload_n 2, 1) := by decide +kernel
theorem dX11_plan_89 : decode cX11_plan 89 = .ok (.iaload, 1) := by decide +kernel
theorem dX11_plan_90 : decode cX11_plan 90 = .ok (.goto 4, 3) := by decide +kernel
theorem dX11_plan_93 : decode cX11_plan 93 = .ok (.iconst (-1), 1) := by decide +kernel
theorem dX11_plan_94 : decode cX11_plan 94 = .ok (.ireturn, 1) := by decide +kernel
theorem dX11_plan_95 : decode cX11_plan 95 = .ok (.iload_n 3, 1) := by decide +kernel
theorem dX11_plan_96 : decode cX11_plan 96 = .ok (.bipush 50, 2) := by decide +kernel
theorem dX11_plan_98 : decode cX11_plan 98 = .ok (.if_icmp .ge 10, 3) := by decide +kernel
theorem dX11_plan_101 : decode cX11_plan 101 = .ok (.iload_n 3, 1) := by decide +kernel
theorem dX11_plan_102 : decode cX11_plan 102 = .ok (.bipush 10, 2) := by decide +kernel
theorem dX11_plan_104 : decode cX11_plan 104 = .ok (.isub, 1) := by decide +kernel
theorem dX11_plan_105 : decode cX11_plan 105 = .ok (.goto 20, 3) := by decide +kernel
theorem dX11_plan_108 : decode cX11_plan 108 = .ok (.iload_n 3, 1) := by decide +kernel
theorem dX11_plan_109 : decode cX11_plan 109 = .ok (.bipush 90, 2) := by decide +kernel
theorem dX11_plan_111 : decode cX11_plan 111 = .ok (.if_icmp .ge 10, 3) := by decide +kernel
theorem dX11_plan_114 : decode cX11_plan 114 = .ok (.iload_n 3, 1) := by decide +kernel
theorem dX11_plan_115 : decode cX11_plan 115 = .ok (.bipush 50, 2) := by decide +kernel
theorem dX11_plan_117 : decode cX11_plan 117 = .ok (.isub, 1) := by decide +kernel
theorem dX11_plan_118 : decode cX11_plan 118 = .ok (.goto 7, 3) := by decide +kernel
theorem dX11_plan_121 : decode cX11_plan 121 = .ok (.iload_n 3, 1) := by decide +kernel
theorem dX11_plan_122 : decode cX11_plan 122 = .ok (.bipush 90, 2) := by decide +kernel
theorem dX11_plan_124 : decode cX11_plan 124 = .ok (.isub, 1) := by decide +kernel
theorem dX11_plan_125 : decode cX11_plan 125 = .ok (.istore 4, 2) := by decide +kernel
theorem dX11_plan_127 : decode cX11_plan 127 = .ok (.iload 4, 2) := by decide +kernel
theorem dX11_plan_129 : decode cX11_plan 129 = .ok (.iconst 0, 1) := by decide +kernel
theorem dX11_plan_130 : decode cX11_plan 130 = .ok (.aload_n 0, 1) := by decide +kernel
theorem dX11_plan_131 : decode cX11_plan 131 = .ok (.getfield 94, 3) := by decide +kernel
theorem dX11_plan_134 : decode cX11_plan 134 = .ok (.iload_n 2, 1) := by decide +kernel
theorem dX11_plan_135 : decode cX11_plan 135 = .ok (.iaload, 1) := by decide +kernel
theorem dX11_plan_136 : decode cX11_plan 136 = .ok (.iconst 1, 1) := by decide +kernel
theorem dX11_plan_137 : decode cX11_plan 137 = .ok (.isub, 1) := by decide +kernel
theorem dX11_plan_138 : decode cX11_plan 138 = .ok (.invokestatic 136, 3) := by decide +kernel
theorem dX11_plan_141 : decode cX11_plan 141 = .ok (.ifCond .ne 5, 3) := by decide +kernel
theorem dX11_plan_144 : decode cX11_plan 144 = .ok (.iconst (-1), 1) := by decide +kernel
theorem dX11_plan_145 : decode cX11_plan 145 = .ok (.ireturn, 1) := by decide +kernel
theorem dX11_plan_146 : decode cX11_plan 146 = .ok (.bipush 30, 2) := by decide +kernel
theorem dX11_plan_148 : decode cX11_plan 148 = .ok (.iload_n 2, 1) := by decide +kernel
theorem dX11_plan_149 : decode cX11_plan 149 = .ok (.imul, 1) := by decide +kernel
theorem dX11_plan_150 : decode cX11_plan 150 = .ok (.iload 4, 2) := by decide +kernel
theorem dX11_plan_152 : decode cX11_plan 152 = .ok (.iadd, 1) := by decide +kernel
theorem dX11_plan_153 : decode cX11_plan 153 = .ok (.istore 5, 2) := by decide +kernel
theorem dX11_plan_155 : decode cX11_plan 155 = .ok (.iload_n 3, 1) := by decide +kernel
theorem dX11_plan_156 : decode cX11_plan 156 = .ok (.bipush 50, 2) := by decide +kernel
theorem dX11_plan_158 : decode cX11_plan 158 = .ok (.if_icmp .ge 13, 3) := by decide +kernel
theorem dX11_plan_161 : decode cX11_plan 161 = .ok (.aload_n 0, 1) := by decide +kernel
theorem dX11_plan_162 : decode cX11_plan 162 = .ok (.getfield 109, 3) := by decide +kernel
theorem dX11_plan_165 : decode cX11_plan 165 = .ok (.iload 5, 2) := by decide +kernel
theorem dX11_plan_167 : decode cX11_plan 167 = .ok (.iaload, 1) := by decide +kernel
theorem dX11_plan_168 : decode cX11_plan 168 = .ok (.goto 26, 3) := by decide +kernel
theorem dX11_plan_171 : decode cX11_plan 171 = .ok (.iload_n 3, 1) := by decide +kernel
theorem dX11_plan_172 : decode cX11_plan 172 = .ok (.bipush 90, 2) := by decide +kernel
theorem dX11_plan_174 : decode cX11_plan 174 = .ok (.if_icmp .ge 13, 3) := by decide +kernel
theorem dX11_plan_177 : decode cX11_plan 177 = .ok (.aload_n 0, 1) := by decide +kernel
theorem dX11_plan_178 : decode cX11_plan 178 = .ok (.getfield 112, 3) := by decide +kernel
theorem dX11_plan_181 : decode cX11_plan 181 = .ok (.iload 5, 2) := by decide +kernel
theorem dX11_plan_183 : decode cX11_plan 183 = .ok (.iaload, 1) := by decide +kernel
theorem dX11_plan_184 : decode cX11_plan 184 = .ok (.goto 10, 3) := by decide +kernel
theorem dX11_plan_187 : decode cX11_plan 187 = .ok (.aload_n 0, 1) := by decide +kernel
theorem dX11_plan_188 : decode cX11_plan 188 = .ok (.getfield 115, 3) := by decide +kernel
theorem dX11_plan_191 : decode cX11_plan 191 = .ok (.iload 5, 2) := by decide +kernel
theorem dX11_plan_193 : decode cX11_plan 193 = .ok (.iaload, 1) := by decide +kernel
theorem dX11_plan_194 : decode cX11_plan 194 = .ok (.ireturn, 1) := by decide +kernel
set_option maxRecDepth 20000 in
theorem ggX11_taken_X11_isDay : GoodIn wsX11_taken wsX11_isDay := goodIn_r _ [6, 7, 8, 5, 9] (by decide +kernel) (by decide +kernel)
set_option maxRecDepth 20000 in
theorem gX11_taken_X11_isDay : GoodIn wsX11_taken (va_wsS RX11 269 yX11_isDay wsX11_isDay) := goodIn_app (goodIn_of _ (by decide +kernel)) ggX11_taken_X11_isDay
set_option maxRecDepth 20000 in
theorem ggX11_taken_X11_isSpring : GoodIn wsX11_taken wsX11_isSpring := goodIn_r _ [12, 7, 8, 5, 9] (by decide +kernel) (by decide +kernel)
set_option maxRecDepth 20000 in
theorem gX11_taken_X11_isSpring : GoodIn wsX11_taken (va_wsS RX11 140 yX11_isSpring wsX11_isSpring) := goodIn_app (goodIn_of _ (by decide +kernel)) ggX11_taken_X11_isSpring
set_option maxRecDepth 20000 in
theorem ggX11_taken_X11_isIn : GoodIn wsX11_taken wsX11_isIn := goodIn_r _ [9] (by decide +kernel) (by decide +kernel)
set_option maxRecDepth 20000 in
theorem gX11_taken_X11_isIn : GoodIn wsX11_taken (va_wsS RX11 136 yX11_isIn wsX11_isIn) := goodIn_app (goodIn_of _ (by decide +kernel)) ggX11_taken_X11_isIn
set_option maxRecDepth 20000 in
theorem ggX11_taken_X11_ranks : GoodIn wsX11_taken wsX11_ranks := goodIn_r _ [16, 17, 18, 19, 20, 21, 22, 5, 23, 24, 25, 7, 8, 9, 81, 82, 83, 84, 85, 86, 87, 88, 89, 90, 91, 92, 93, 94, 95, 96, 97, 98, 99, 100, 101, 102, 103, 104, 105, 106, 107, 108, 109, 110, 111, 112, 113, 114, 115, 116, 117, 118, 119, 120, 121, 122, 123, 124, 125, 126, 127, 128, 129, 130, 131, 132, 133, 134, 135, 136, 137, 138, 139, 140, 141] (by decide +kernel) (by decide +kernel)
set_option maxRecDepth 20000 in
theorem gX11_taken_X11_ranks : GoodIn wsX11_taken (wsV RX11 272 RX11 yX11_ranks wsX11_ranks) := goodIn_app (goodIn_of _ (by decide +kernel)) ggX11_taken_X11_ranks
set_option maxRecDepth 20000 in
theorem ggX11_taken_X11_lays : GoodIn wsX11_taken wsX11_lays := goodIn_r _ [29, 19, 30, 31, 32, 5, 33, 2, 34, 35, 36, 37, 38, 17, 20, 21, 22, 23, 24, 25, 7, 8, 9, 39, 40, 41, 42, 43, 44, 45, 46, 47, 48, 49, 50, 51, 52, 53, 54, 55, 56, 57, 58, 59, 60, 61, 62, 63, 64, 65, 66, 67, 68, 69, 70, 71, 72, 73, 74, 75, 76, 77, 78, 79, 80, 81, 82, 83, 84, 85, 86, 87, 88, 89, 90, 91, 92, 93, 94, 95, 96, 97, 98, 99, 100, 101, 102, 103, 104, 105, 106, 107, 108, 109, 110, 111, 112, 113, 114, 115, 116, 117, 118, 119, 120, 121, 122, 123, 124, 125, 126, 127, 128, 129, 130, 131, 132, 133, 134, 135, 136, 137, 138, 139, 140, 141] (by decide +kernel) (by decide +kernel)
set_option maxRecDepth 20000 in
theorem gX11_taken_X11_lays : GoodIn wsX11_taken (wsV RX11 276 RX11 yX11_lays wsX11_lays) := goodIn_app (goodIn_of _ (by decide +kernel)) ggX11_taken_X11_lays
theorem dX11_taken_0 : decode cX11_taken 0 = .ok (.iload_n 1, 1) := by decide +kernel
theorem dX11_taken_1 : decode cX11_taken 1 = .ok (.aload_n 0, 1) := by decide +kernel
theorem dX11_taken_2 : decode cX11_taken 2 = .ok (.getfield 230, 3) := by decide +kernel
theorem dX11_taken_5 : decode cX11_taken 5 = .ok (.invokestatic 269, 3) := by decide +kernel
theorem dX11_taken_8 : decode cX11_taken 8 = .ok (.ifCond .eq 20, 3) := by decide +kernel
theorem dX11_taken_11 : decode cX11_taken 11 = .ok (.iload_n 2, 1) := by decide +kernel
theorem dX11_taken_12 : decode cX11_taken 12 = .ok (.invokestatic 140, 3) := by decide +kernel
theorem dX11_taken_15 : decode cX11_taken 15 = .ok (.ifCond .eq 13, 3) := by decide +kernel
theorem dX11_taken_18 : decode cX11_taken 18 = .ok (.iload_n 3, 1) := by decide +kernel
theorem dX11_taken_19 : decode cX11_taken 19 = .ok (.iconst 0, 1) := by decide +kernel
theorem dX11_taken_20 : decode cX11_taken 20 = .ok (.bipush 47, 2) := by decide +kernel
theorem dX11_taken_22 : decode cX11_taken 22 = .ok (.invokestatic 136, 3) := by decide +kernel
theorem dX11_taken_25 : decode cX11_taken 25 = .ok (.ifCond .ne 5, 3) := by decide +kernel
theorem dX11_taken_28 : decode cX11_taken 28 = .ok (.iconst (-1), 1) := by decide +kernel
theorem dX11_taken_29 : decode cX11_taken 29 = .ok (.ireturn, 1) := by decide +kernel
theorem dX11_taken_30 : decode cX11_taken 30 = .ok (.aload_n 0, 1) := by decide +kernel
theorem dX11_taken_31 : decode cX11_taken 31 = .ok (.iload_n 1, 1) := by decide +kernel
theorem dX11_taken_32 : decode cX11_taken 32 = .ok (.invokevirtual 272, 3) := by decide +kernel
theorem dX11_taken_35 : decode cX11_taken 35 = .ok (.aload_n 0, 1) := by decide +kernel
theorem dX11_taken_36 : decode cX11_taken 36 = .ok (.iload_n 1, 1) := by decide +kernel
theorem dX11_taken_37 : decode cX11_taken 37 = .ok (.invokevirtual 276, 3) := by decide +kernel
theorem dX11_taken_40 : decode cX11_taken 40 = .ok (.aload_n 0, 1) := by decide +kernel
theorem dX11_taken_41 : decode cX11_taken 41 = .ok (.getfield 88, 3) := by decide +kernel
theorem dX11_taken_44 : decode cX11_taken 44 = .ok (.bipush 48, 2) := by decide +kernel
theorem dX11_taken_46 : decode cX11_taken 46 = .ok (.iload_n 2, 1) := by decide +kernel
theorem dX11_taken_47 : decode cX11_taken 47 = .ok (.imul, 1) := by decide +kernel
theorem dX11_taken_48 : decode cX11_taken 48 = .ok (.iload_n 3, 1) := by decide +kernel
theorem dX11_taken_49 : decode cX11_taken 49 = .ok (.iadd, 1) := by decide +kernel
theorem dX11_taken_50 : decode cX11_taken 50 = .ok (.iaload, 1) := by decide +kernel
theorem dX11_taken_51 : decode cX11_taken 51 = .ok (.ireturn, 1) := by decide +kernel
theorem dX11_nextOrder_0 : decode cX11_nextOrder 0 = .ok (.iload_n 1, 1) := by decide +kernel
theorem dX11_nextOrder_1 : decode cX11_nextOrder 1 = .ok (.iconst 2, 1) := by decide +kernel
theorem dX11_nextOrder_2 : decode cX11_nextOrder 2 = .ok (.isub, 1) := by decide +kernel
theorem dX11_nextOrder_3 : decode cX11_nextOrder 3 = .ok (.istore_n 2, 1) := by decide +kernel
theorem dX11_nextOrder_4 : decode cX11_nextOrder 4 = .ok (.iload_n 2, 1) := by decide +kernel
theorem dX11_nextOrder_5 : decode cX11_nextOrder 5 = .ok (.ifCond .lt 26, 3) := by decide +kernel
theorem dX11_nextOrder_8 : decode cX11_nextOrder 8 = .ok (.aload_n 0, 1) := by decide +kernel
theorem dX11_nextOrder_9 : decode cX11_nextOrder 9 = .ok (.getfield 91, 3) := by decide +kernel
theorem dX11_nextOrder_12 : decode cX11_nextOrder 12 = .ok (.iload_n 2, 1) := by decide +kernel
theorem dX11_nextOrder_13 : decode cX11_nextOrder 13 = .ok (.iaload, 1) := by decide +kernel
theorem dX11_nextOrder_14 : decode cX11_nextOrder 14 = .ok (.aload_n 0, 1) := by decide +kernel
theorem dX11_nextOrder_15 : decode cX11_nextOrder 15 = .ok (.getfield 91, 3) := by decide +kernel
theorem dX11_nextOrder_18 : decode cX11_nextOrder 18 = .ok (.iload_n 2, 1) := by decide +kernel
theorem dX11_nextOrder_19 : decode cX11_nextOrder 19 = .ok (.iconst 1, 1) := by decide +kernel
theorem dX11_nextOrder_20 : decode cX11_nextOrder 20 = .ok (.iadd, 1) := by decide +kernel
theorem dX11_nextOrder_21 : decode cX11_nextOrder 21 = .ok (.iaload, 1) := by decide +kernel
theorem dX11_nextOrder_22 : decode cX11_nextOrder 22 = .ok (.if_icmp .le 9, 3) := by decide +kernel
theorem dX11_nextOrder_25 : decode cX11_nextOrder 25 = .ok (.iinc 2 (-1), 3) := by decide +kernel
theorem dX11_nextOrder_28 : decode cX11_nextOrder 28 = .ok (.goto (-24), 3) := by decide +kernel
theorem dX11_nextOrder_31 : decode cX11_nextOrder 31 = .ok (.iload_n 2, 1) := by decide +kernel
theorem dX11_nextOrder_32 : decode cX11_nextOrder 32 = .ok (.ifCond .ge 5, 3) := by decide +kernel
theorem dX11_nextOrder_35 : decode cX11_nextOrder 35 = .ok (.iconst 0, 1) := by decide +kernel
theorem dX11_nextOrder_36 : decode cX11_nextOrder 36 = .ok (.ireturn, 1) := by decide +kernel
theorem dX11_nextOrder_37 : decode cX11_nextOrder 37 = .ok (.iload_n 1, 1) := by decide +kernel
theorem dX11_nextOrder_38 : decode cX11_nextOrder 38 = .ok (.iconst 1, 1) := by decide +kernel
theorem dX11_nextOrder_39 : decode cX11_nextOrder 39 = .ok (.isub, 1) := by decide +kernel
theorem dX11_nextOrder_40 : decode cX11_nextOrder 40 = .ok (.istore_n 3, 1) := by decide +kernel
theorem dX11_nextOrder_41 : decode cX11_nextOrder 41 = .ok (.aload_n 0, 1) := by decide +kernel
theorem dX11_nextOrder_42 : decode cX11_nextOrder 42 = .ok (.getfield 91, 3) := by decide +kernel
theorem dX11_nextOrder_45 : decode cX11_nextOrder 45 = .ok (.iload_n 3, 1) := by decide +kernel
theorem dX11_nextOrder_46 : decode cX11_nextOrder 46 = .ok (.iaload, 1) := by decide +kernel
theorem dX11_nextOrder_47 : decode cX11_nextOrder 47 = .ok (.aload_n 0, 1) := by decide +kernel
theorem dX11_nextOrder_48 : decode cX11_nextOrder 48 = .ok (.getfield 91, 3) := by decide +kernel
theorem dX11_nextOrder_51 : decode cX11_nextOrder 51 = .ok (.iload_n 2, 1) := by decide +kernel
theorem dX11_nextOrder_52 : decode cX11_nextOrder 52 = .ok (.iaload, 1) := by decide +kernel
theorem dX11_nextOrder_53 : decode cX11_nextOrder 53 = .ok (.if_icmp .ge 9, 3) := by decide +kernel
theorem dX11_nextOrder_56 : decode cX11_nextOrder 56 = .ok (.iinc 3 (-1), 3) := by decide +kernel
theorem dX11_nextOrder_59 : decode cX11_nextOrder 59 = .ok (.goto (-18), 3) := by decide +kernel
theorem dX11_nextOrder_62 : decode cX11_nextOrder 62 = .ok (.aload_n 0, 1) := by decide +kernel
theorem dX11_nextOrder_63 : decode cX11_nextOrder 63 = .ok (.getfield 91, 3) := by decide +kernel
theorem dX11_nextOrder_66 : decode cX11_nextOrder 66 = .ok (.iload_n 2, 1) := by decide +kernel
theorem dX11_nextOrder_67 : decode cX11_nextOrder 67 = .ok (.iaload, 1) := by decide +kernel
theorem dX11_nextOrder_68 : decode cX11_nextOrder 68 = .ok (.istore 4, 2) := by decide +kernel
theorem dX11_nextOrder_70 : decode cX11_nextOrder 70 = .ok (.aload_n 0, 1) := by decide +kernel
theorem dX11_nextOrder_71 : decode cX11_nextOrder 71 = .ok (.getfield 91, 3) := by decide +kernel
theorem dX11_nextOrder_74 : decode cX11_nextOrder 74 = .ok (.iload_n 2, 1) := by decide +kernel
theorem dX11_nextOrder_75 : decode cX11_nextOrder 75 = .ok (.aload_n 0, 1) := by decide +kernel
theorem dX11_nextOrder_76 : decode cX11_nextOrder 76 = .ok (.getfield 91, 3) := by decide +kernel
theorem dX11_nextOrder_79 : decode cX11_nextOrder 79 = .ok (.iload_n 3, 1) := by decide +kernel
theorem dX11_nextOrder_80 : decode cX11_nextOrder 80 = .ok (.iaload, 1) := by decide +kernel
theorem dX11_nextOrder_81 : decode cX11_nextOrder 81 = .ok (.iastore, 1) := by decide +kernel
theorem dX11_nextOrder_82 : decode cX11_nextOrder 82 = .ok (.aload_n 0, 1) := by decide +kernel
theorem dX11_nextOrder_83 : decode cX11_nextOrder 83 = .ok (.getfield 91, 3) := by decide +kernel
theorem dX11_nextOrder_86 : decode cX11_nextOrder 86 = .ok (.iload_n 3, 1) := by decide +kernel
theorem dX11_nextOrder_87 : decode cX11_nextOrder 87 = .ok (.iload 4, 2) := by decide +kernel
theorem dX11_nextOrder_89 : decode cX11_nextOrder 89 = .ok (.iastore, 1) := by decide +kernel
theorem dX11_nextOrder_90 : decode cX11_nextOrder 90 = .ok (.iload_n 2, 1) := by decide +kernel
theorem dX11_nextOrder_91 : decode cX11_nextOrder 91 = .ok (.iconst 1, 1) := by decide +kernel
theorem dX11_nextOrder_92 : decode cX11_nextOrder 92 = .ok (.iadd, 1) := by decide +kernel
theorem dX11_nextOrder_93 : decode cX11_nextOrder 93 = .ok (.istore 5, 2) := by decide +kernel
theorem dX11_nextOrder_95 : decode cX11_nextOrder 95 = .ok (.iload_n 1, 1) := by decide +kernel
theorem dX11_nextOrder_96 : decode cX11_nextOrder 96 = .ok (.iconst 1, 1) := by decide +kernel
theorem dX11_nextOrder_97 : decode cX11_nextOrder 97 = .ok (.isub, 1) := by decide +kernel
theorem dX11_nextOrder_98 : decode cX11_nextOrder 98 = .ok (.istore 6, 2) := by decide +kernel
theorem dX11_nextOrder_100 : decode cX11_nextOrder 100 = .ok (.iload 5, 2) := by decide +kernel
theorem dX11_nextOrder_102 : decode cX11_nextOrder 102 = .ok (.iload 6, 2) := by decide +kernel
theorem dX11_nextOrder_104 : decode cX11_nextOrder 104 = .ok (.if_icmp .ge 44, 3) := by decide +kernel
theorem dX11_nextOrder_107 : decode cX11_nextOrder 107 = .ok (.aload_n 0, 1) := by decide +kernel
theorem dX11_nextOrder_108 : decode cX11_nextOrder 108 = .ok (.getfield 91, 3) := by decide +kernel
theorem dX11_nextOrder_111 : decode cX11_nextOrder 111 = .ok (.iload 5, 2) := by decide +kernel
theorem dX11_nextOrder_113 : decode cX11_nextOrder 113 = .ok (.iaload, 1) := by decide +kernel
theorem dX11_nextOrder_114 : decode cX11_nextOrder 114 = .ok (.istore 4, 2) := by decide +kernel
theorem dX11_nextOrder_116 : decode cX11_nextOrder 116 = .ok (.aload_n 0, 1) := by decide +kernel
theorem dX11_nextOrder_117 : decode cX11_nextOrder 117 = .ok (.getfield 91, 3) := by decide +kernel
theorem dX11_nextOrder_120 : decode cX11_nextOrder 120 = .ok (.iload 5, 2) := by decide +kernel
theorem dX11_nextOrder_122 : decode cX11_nextOrder 122 = .ok (.aload_n 0, 1) := by decide +kernel
theorem dX11_nextOrder_123 : decode cX11_nextOrder 123 = .ok (.getfield 91, 3) := by decide +kernel
theorem dX11_nextOrder_126 : decode cX11_nextOrder 126 = .ok (.iload 6, 2) := by decide +kernel
theorem dX11_nextOrder_128 : decode cX11_nextOrder 128 = .ok (.iaload, 1) := by decide +kernel
theorem dX11_nextOrder_129 : decode cX11_nextOrder 129 = .ok (.iastore, 1) := by decide +kernel
theorem dX11_nextOrder_130 : decode cX11_nextOrder 130 = .ok (.aload_n 0, 1) := by decide +kernel
theorem dX11_nextOrder_131 : decode cX11_nextOrder 131 = .ok (.getfield 91, 3) := by decide +kernel
theorem dX11_nextOrder_134 : decode cX11_nextOrder 134 = .ok (.iload 6, 2) := by decide +kernel
theorem dX11_nextOrder_136 : decode cX11_nextOrder 136 = .ok (.iload 4, 2) := by decide +kernel
theorem dX11_nextOrder_138 : decode cX11_nextOrder 138 = .ok (.iastore, 1) := by decide +kernel
theorem dX11_nextOrder_139 : decode cX11_nextOrder 139 = .ok (.iinc 5 1, 3) := by decide +kernel
theorem dX11_nextOrder_142 : decode cX11_nextOrder 142 = .ok (.iinc 6 (-1), 3) := by decide +kernel
theorem dX11_nextOrder_145 : decode cX11_nextOrder 145 = .ok (.goto (-45), 3) := by decide +kernel
theorem dX11_nextOrder_148 : decode cX11_nextOrder 148 = .ok (.iconst 1, 1) := by decide +kernel
theorem dX11_nextOrder_149 : decode cX11_nextOrder 149 = .ok (.ireturn, 1) := by decide +kernel
set_option maxRecDepth 20000 in
theorem ggX11_finds_X11_isHere : GoodIn wsX11_finds wsX11_isHere := goodIn_r _ [12, 1, 13, 14, 15, 16, 11, 17, 76, 77, 78, 79, 80, 81, 82, 83, 84, 85, 86, 87, 88, 89, 90, 91, 92, 93, 94, 95, 96, 97, 98, 99, 100, 101, 102, 103, 104, 105, 106, 107, 108, 109, 110, 111, 112, 113, 114, 115, 116, 117, 118, 119, 120, 121, 122, 123, 124, 125, 126, 127, 128, 129, 130, 131, 132, 133, 134, 135, 136] (by decide +kernel) (by decide +kernel)
set_option maxRecDepth 20000 in
theorem gX11_finds_X11_isHere : GoodIn wsX11_finds (wsV RX11 236 RX11 yX11_isHere wsX11_isHere) := goodIn_app (goodIn_of _ (by decide +kernel)) ggX11_finds_X11_isHere
set_option maxRecDepth 20000 in
theorem ggX11_finds_X11_lays : GoodIn wsX11_finds wsX11_lays := goodIn_r _ [21, 2, 22, 23, 24, 11, 25, 26, 27, 28, 29, 30, 31, 1, 8, 9, 10, 12, 13, 14, 15, 16, 17, 32, 33, 34, 35, 4, 5, 36, 37, 38, 39, 40, 41, 42, 43, 44, 45, 46, 47, 48, 49, 50, 51, 52, 53, 54, 55, 56, 57, 58, 59, 60, 61, 62, 63, 64, 65, 66, 67, 68, 69, 70, 71, 76, 77, 78, 79, 80, 81, 82, 83, 84, 85, 86, 87, 88, 89, 90, 91, 92, 93, 94, 95, 96, 97, 98, 99, 100, 101, 102, 103, 104, 105, 106, 107, 108, 109, 110, 111, 112, 113, 114, 115, 116, 117, 118, 119, 120, 121, 122, 123, 124, 125, 126, 127, 128, 129, 130, 131, 132, 133, 134, 135, 136] (by decide +kernel) (by decide +kernel)
set_option maxRecDepth 20000 in
theorem gX11_finds_X11_lays : GoodIn wsX11_finds (wsV RX11 276 RX11 yX11_lays wsX11_lays) := goodIn_app (goodIn_of _ (by decide +kernel)) ggX11_finds_X11_lays
set_option maxRecDepth 20000 in
theorem ggX11_finds_X11_nextOrder : GoodIn wsX11_finds wsX11_nextOrder := goodIn_r _ [75, 2, 76, 77, 78, 79, 80, 81, 82, 83, 84, 85, 86, 87, 88, 89, 90, 91, 92, 93, 94, 95, 96, 97, 98, 99, 100, 101, 102, 103, 104, 105, 106, 107, 108, 109, 110, 111, 112, 113, 114, 115, 116, 117, 118, 119, 120, 121, 122, 123, 124, 125, 126, 127, 128, 129, 130, 131, 132, 133, 134, 135, 136] (by decide +kernel) (by decide +kernel)
set_option maxRecDepth 20000 in
theorem gX11_finds_X11_nextOrder : GoodIn wsX11_finds (wsV RX11 285 RX11 yX11_nextOrder wsX11_nextOrder) := goodIn_app (goodIn_of _ (by decide +kernel)) ggX11_finds_X11_nextOrder
theorem dX11_finds_0 : decode cX11_finds 0 = .ok (.iconst 0, 1) := by decide +kernel
theorem dX11_finds_1 : decode cX11_finds 1 = .ok (.istore_n 2, 1) := by decide +kernel
theorem dX11_finds_2 : decode cX11_finds 2 = .ok (.iconst 0, 1) := by decide +kernel
theorem dX11_finds_3 : decode cX11_finds 3 = .ok (.istore_n 3, 1) := by decide +kernel
theorem dX11_finds_4 : decode cX11_finds 4 = .ok (.iload_n 3, 1) := by decide +kernel
theorem dX11_finds_5 : decode cX11_finds 5 = .ok (.aload_n 0, 1) := by decide +kernel
theorem dX11_finds_6 : decode cX11_finds 6 = .ok (.getfield 233, 3) := by decide +kernel
theorem dX11_finds_9 : decode cX11_finds 9 = .ok (.if_icmp .ge 31, 3) := by decide +kernel
theorem dX11_finds_12 : decode cX11_finds 12 = .ok (.aload_n 0, 1) := by decide +kernel
theorem dX11_finds_13 : decode cX11_finds 13 = .ok (.iload_n 3, 1) := by decide +kernel
theorem dX11_finds_14 : decode cX11_finds 14 = .ok (.iload_n 1, 1) := by decide +kernel
theorem dX11_finds_15 : decode cX11_finds 15 = .ok (.invokevirtual 236, 3) := by decide +kernel
theorem dX11_finds_18 : decode cX11_finds 18 = .ok (.ifCond .ne 6, 3) := by decide +kernel
theorem dX11_finds_21 : decode cX11_finds 21 = .ok (.goto 13, 3) := by decide +kernel
theorem dX11_finds_24 : decode cX11_finds 24 = .ok (.aload_n 0, 1) := by decide +kernel
theorem dX11_finds_25 : decode cX11_finds 25 = .ok (.getfield 91, 3) := by decide +kernel
theorem dX11_finds_28 : decode cX11_finds 28 = .ok (.iload_n 2, 1) := by decide +kernel
theorem dX11_finds_29 : decode cX11_finds 29 = .ok (.iload_n 3, 1) := by decide +kernel
theorem dX11_finds_30 : decode cX11_finds 30 = .ok (.iastore, 1) := by decide +kernel
theorem dX11_finds_31 : decode cX11_finds 31 = .ok (.iinc 2 1, 3) := by decide +kernel
theorem dX11_finds_34 : decode cX11_finds 34 = .ok (.iinc 3 1, 3) := by decide +kernel
theorem dX11_finds_37 : decode cX11_finds 37 = .ok (.goto (-33), 3) := by decide +kernel
theorem dX11_finds_40 : decode cX11_finds 40 = .ok (.aload_n 0, 1) := by decide +kernel
theorem dX11_finds_41 : decode cX11_finds 41 = .ok (.iconst (-1), 1) := by decide +kernel
theorem dX11_finds_42 : decode cX11_finds 42 = .ok (.putfield 279, 3) := by decide +kernel
theorem dX11_finds_45 : decode cX11_finds 45 = .ok (.iconst 1, 1) := by decide +kernel
theorem dX11_finds_46 : decode cX11_finds 46 = .ok (.istore_n 3, 1) := by decide +kernel
theorem dX11_finds_47 : decode cX11_finds 47 = .ok (.iload_n 3, 1) := by decide +kernel
theorem dX11_finds_48 : decode cX11_finds 48 = .ok (.ifCond .eq 140, 3) := by decide +kernel
theorem dX11_finds_51 : decode cX11_finds 51 = .ok (.aload_n 0, 1) := by decide +kernel
theorem dX11_finds_52 : decode cX11_finds 52 = .ok (.iload_n 1, 1) := by decide +kernel
theorem dX11_finds_53 : decode cX11_finds 53 = .ok (.invokevirtual 276, 3) := by decide +kernel
theorem dX11_finds_56 : decode cX11_finds 56 = .ok (.iconst 0, 1) := by decide +kernel
theorem dX11_finds_57 : decode cX11_finds 57 = .ok (.istore 4, 2) := by decide +kernel
theorem dX11_finds_59 : decode cX11_finds 59 = .ok (.iconst 0, 1) := by decide +kernel
theorem dX11_finds_60 : decode cX11_finds 60 = .ok (.istore 5, 2) := by decide +kernel
theorem dX11_finds_62 : decode cX11_finds 62 = .ok (.iconst 0, 1) := by decide +kernel
theorem dX11_finds_63 : decode cX11_finds 63 = .ok (.istore 6, 2) := by decide +kernel
theorem dX11_finds_65 : decode cX11_finds 65 = .ok (.iload 6, 2) := by decide +kernel
theorem dX11_finds_67 : decode cX11_finds 67 = .ok (.iload_n 2, 1) := by decide +kernel
theorem dX11_finds_68 : decode cX11_finds 68 = .ok (.if_icmp .ge 43, 3) := by decide +kernel
theorem dX11_finds_71 : decode cX11_finds 71 = .ok (.iload 4, 2) := by decide +kernel
theorem dX11_finds_73 : decode cX11_finds 73 = .ok (.aload_n 0, 1) := by decide +kernel
theorem dX11_finds_74 : decode cX11_finds 74 = .ok (.getfield 94, 3) := by decide +kernel
theorem dX11_finds_77 : decode cX11_finds 77 = .ok (.aload_n 0, 1) := by decide +kernel
theorem dX11_finds_78 : decode cX11_finds 78 = .ok (.getfield 91, 3) := by decide +kernel
theorem dX11_finds_81 : decode cX11_finds 81 = .ok (.iload 6, 2) := by decide +kernel
theorem dX11_finds_83 : decode cX11_finds 83 = .ok (.iaload, 1) := by decide +kernel
theorem dX11_finds_84 : decode cX11_finds 84 = .ok (.iaload, 1) := by decide +kernel
theorem dX11_finds_85 : decode cX11_finds 85 = .ok (.iadd, 1) := by decide +kernel
theorem dX11_finds_86 : decode cX11_finds 86 = .ok (.istore 4, 2) := by decide +kernel
theorem dX11_finds_88 : decode cX11_finds 88 = .ok (.iload 5, 2) := by decide +kernel
theorem dX11_finds_90 : decode cX11_finds 90 = .ok (.aload_n 0, 1) := by decide +kernel
theorem dX11_finds_91 : decode cX11_finds 91 = .ok (.getfield 97, 3) := by decide +kernel
theorem dX11_finds_94 : decode cX11_finds 94 = .ok (.aload_n 0, 1) := by decide +kernel
theorem dX11_finds_95 : decode cX11_finds 95 = .ok (.getfield 91, 3) := by decide +kernel
theorem dX11_finds_98 : decode cX11_finds 98 = .ok (.iload 6, 2) := by decide +kernel
theorem dX11_finds_100 : decode cX11_finds 100 = .ok (.iaload, 1) := by decide +kernel
theorem dX11_finds_101 : decode cX11_finds 101 = .ok (.iaload, 1) := by decide +kernel
theorem dX11_finds_102 : decode cX11_finds 102 = .ok (.iadd, 1) := by decide +kernel
theorem dX11_finds_103 : decode cX11_finds 103 = .ok (.istore 5, 2) := by decide +kernel
theorem dX11_finds_105 : decode cX11_finds 105 = .ok (.iinc 6 1, 3) := by decide +kernel
theorem dX11_finds_108 : decode cX11_finds 108 = .ok (.goto (-43), 3) := by decide +kernel
theorem dX11_finds_111 : decode cX11_finds 111 = .ok (.iload 4, 2) := by decide +kernel
theorem dX11_finds_113 : decode cX11_finds 113 = .ok (.aload_n 0, 1) := by decide +kernel
theorem dX11_finds_114 : decode cX11_finds 114 = .ok (.getfield 279, 3) := by decide +kernel
theorem dX11_finds_117 : decode cX11_finds 117 = .ok (.if_icmp .gt 21, 3) := by decide +kernel
theorem dX11_finds_120 : decode cX11_finds 120 = .ok (.iload 4, 2) := by decide +kernel
theorem dX11_finds_122 : decode cX11_finds 122 = .ok (.aload_n 0, 1) := by decide +kernel
theorem dX11_finds_123 : decode cX11_finds 123 = .ok (.getfield 279, 3) := by decide +kernel
theorem dX11_finds_126 : decode cX11_finds 126 = .ok (.if_icmp .ne 53, 3) := by decide +kernel
theorem dX11_finds_129 : decode cX11_finds 129 = .ok (.iload 5, 2) := by decide +kernel
theorem dX11_finds_131 : decode cX11_finds 131 = .ok (.aload_n 0, 1) := by decide +kernel
theorem dX11_finds_132 : decode cX11_finds 132 = .ok (.getfield 282, 3) := by decide +kernel
theorem dX11_finds_135 : decode cX11_finds 135 = .ok (.if_icmp .ge 44, 3) := by decide +kernel
theorem dX11_finds_138 : decode cX11_finds 138 = .ok (.aload_n 0, 1) := by decide +kernel
theorem dX11_finds_139 : decode cX11_finds 139 = .ok (.iload 4, 2) := by decide +kernel
theorem dX11_finds_141 : decode cX11_finds 141 = .ok (.putfield 279, 3) := by decide +kernel
theorem dX11_finds_144 : decode cX11_finds 144 = .ok (.aload_n 0, 1) := by decide +kernel
theorem dX11_finds_145 : decode cX11_finds 145 = .ok (.iload 5, 2) := by decide +kernel
theorem dX11_finds_147 : decode cX11_finds 147 = .ok (.putfield 282, 3) := by decide +kernel
theorem dX11_finds_150 : decode cX11_finds 150 = .ok (.iconst 0, 1) := by decide +kernel
theorem dX11_finds_151 : decode cX11_finds 151 = .ok (.istore 6, 2) := by decide +kernel
theorem dX11_finds_153 : decode cX11_finds 153 = .ok (.iload 6, 2) := by decide +kernel
theorem dX11_finds_155 : decode cX11_finds 155 = .ok (.iload_n 2, 1) := by decide +kernel
theorem dX11_finds_156 : decode cX11_finds 156 = .ok (.if_icmp .ge 23, 3) := by decide +kernel
theorem dX11_finds_159 : decode cX11_finds 159 = .ok (.aload_n 0, 1) := by decide +kernel
theorem dX11_finds_160 : decode cX11_finds 160 = .ok (.getfield 118, 3) := by decide +kernel
theorem dX11_finds_163 : decode cX11_finds 163 = .ok (.iload 6, 2) := by decide +kernel
theorem dX11_finds_165 : decode cX11_finds 165 = .ok (.aload_n 0, 1) := by decide +kernel
theorem dX11_finds_166 : decode cX11_finds 166 = .ok (.getfield 91, 3) := by decide +kernel
theorem dX11_finds_169 : decode cX11_finds 169 = .ok (.iload 6, 2) := by decide +kernel
theorem dX11_finds_171 : decode cX11_finds 171 = .ok (.iaload, 1) := by decide +kernel
theorem dX11_finds_172 : decode cX11_finds 172 = .ok (.iastore, 1) := by decide +kernel
theorem dX11_finds_173 : decode cX11_finds 173 = .ok (.iinc 6 1, 3) := by decide +kernel
theorem dX11_finds_176 : decode cX11_finds 176 = .ok (.goto (-23), 3) := by decide +kernel
theorem dX11_finds_179 : decode cX11_finds 179 = .ok (.aload_n 0, 1) := by decide +kernel
theorem dX11_finds_180 : decode cX11_finds 180 = .ok (.iload_n 2, 1) := by decide +kernel
theorem dX11_finds_181 : decode cX11_finds 181 = .ok (.invokevirtual 285, 3) := by decide +kernel
theorem dX11_finds_184 : decode cX11_finds 184 = .ok (.istore_n 3, 1) := by decide +kernel
theorem dX11_finds_185 : decode cX11_finds 185 = .ok (.goto (-138), 3) := by decide +kernel
theorem dX11_finds_188 : decode cX11_finds 188 = .ok (.return_, 1) := by decide +kernel
set_option maxRecDepth 20000 in
theorem ggX11_best_X11_isDay : GoodIn wsX11_best wsX11_isDay := goodIn_r _ [8, 9, 10, 7, 11] (by decide +kernel) (by decide +kernel)
set_option maxRecDepth 20000 in
theorem gX11_best_X11_isDay : GoodIn wsX11_best (va_wsS RX11 269 yX11_isDay wsX11_isDay) := goodIn_app (goodIn_of _ (by decide +kernel)) ggX11_best_X11_isDay
set_option maxRecDepth 20000 in
theorem ggX11_best_X11_here : GoodIn wsX11_best wsX11_here := goodIn_r _ [15, 16, 17, 18, 19, 7, 20, 21, 22, 9, 10, 11, 84, 85, 86, 87, 88, 89, 90, 91, 92, 93, 94, 95, 96, 97, 98, 99, 100, 101, 102, 103, 104, 105, 106, 107, 108, 109, 110, 111, 112, 113, 114, 115, 116, 117, 118, 119, 120, 121, 122, 123, 124, 125, 126, 127, 128, 129, 130, 131, 132, 133, 134, 135, 136, 137, 138, 139, 140, 141, 142, 143, 144] (by decide +kernel) (by decide +kernel)
set_option maxRecDepth 20000 in
theorem gX11_best_X11_here : GoodIn wsX11_best (wsV RX11 262 RX11 yX11_here wsX11_here) := goodIn_app (goodIn_of _ (by decide +kernel)) ggX11_best_X11_here
set_option maxRecDepth 20000 in
theorem ggX11_best_X11_finds : GoodIn wsX11_best wsX11_finds := goodIn_r _ [26, 16, 27, 2, 28, 29, 3, 4, 17, 18, 19, 7, 20, 21, 22, 9, 10, 11, 30, 31, 32, 33, 34, 35, 36, 37, 38, 39, 12, 13, 14, 15, 40, 41, 42, 43, 44, 45, 46, 47, 48, 49, 50, 51, 52, 53, 54, 55, 56, 57, 58, 59, 60, 61, 62, 63, 64, 65, 66, 67, 68, 69, 70, 71, 72, 73, 74, 75, 76, 77, 78, 79, 80, 81, 82, 83, 84, 85, 86, 87, 88, 89, 90, 91, 92, 93, 94, 95, 96, 97, 98, 99, 100, 101, 102, 103, 104, 105, 106, 107, 108, 109, 110, 111, 112, 113, 114, 115, 116, 117, 118, 119, 120, 121, 122, 123, 124, 125, 126, 127, 128, 129, 130, 131, 132, 133, 134, 135, 136, 137, 138, 139, 140, 141, 142, 143, 144] (by decide +kernel) (by decide +kernel)
set_option maxRecDepth 20000 in
theorem gX11_best_X11_finds : GoodIn wsX11_best (wsV RX11 288 RX11 yX11_finds wsX11_finds) := goodIn_app (goodIn_of _ (by decide +kernel)) ggX11_best_X11_finds
set_option maxRecDepth 20000 in
theorem ggX11_best_X11_isIn : GoodIn wsX11_best wsX11_isIn := goodIn_r _ [11] (by decide +kernel) (by decide +kernel)
set_option maxRecDepth 20000 in
theorem gX11_best_X11_isIn : GoodIn wsX11_best (va_wsS RX11 136 yX11_isIn wsX11_isIn) := goodIn_app (goodIn_of _ (by decide +kernel)) ggX11_best_X11_isIn
theorem dX11_best_0 : decode cX11_best 0 = .ok (.iload_n 1, 1) := by decide +kernel
theorem dX11_best_1 : decode cX11_best 1 = .ok (.aload_n 0, 1) := by decide +kernel
theorem dX11_best_2 : decode cX11_best 2 = .ok (.getfield 230, 3) := by decide +kernel
theorem dX11_best_5 : decode cX11_best 5 = .ok (.invokestatic 269, 3) := by decide +kernel
theorem dX11_best_8 : decode cX11_best 8 = .ok (.ifCond .eq 13, 3) := by decide +kernel
