theorem dX11_init_297 : decode cX11_init 297 = .ok (.putfield 121, 3) := by decide +kernel
theorem dX11_init_300 : decode cX11_init 300 = .ok (.aload_n 0, 1) := by decide +kernel
theorem dX11_init_301 : decode cX11_init 301 = .ok (.iconst 4, 1) := by decide +kernel
theorem dX11_init_302 : decode cX11_init 302 = .ok (.newarray .int, 2) := by decide +kernel
theorem dX11_init_304 : decode cX11_init 304 = .ok (.putfield 124, 3) := by decide +kernel
theorem dX11_init_307 : decode cX11_init 307 = .ok (.aload_n 0, 1) := by decide +kernel
theorem dX11_init_308 : decode cX11_init 308 = .ok (.iconst 4, 1) := by decide +kernel
theorem dX11_init_309 : decode cX11_init 309 = .ok (.newarray .int, 2) := by decide +kernel
theorem dX11_init_311 : decode cX11_init 311 = .ok (.putfield 127, 3) := by decide +kernel
theorem dX11_init_314 : decode cX11_init 314 = .ok (.aload_n 0, 1) := by decide +kernel
theorem dX11_init_315 : decode cX11_init 315 = .ok (.iconst 4, 1) := by decide +kernel
theorem dX11_init_316 : decode cX11_init 316 = .ok (.newarray .int, 2) := by decide +kernel
theorem dX11_init_318 : decode cX11_init 318 = .ok (.putfield 130, 3) := by decide +kernel
theorem dX11_init_321 : decode cX11_init 321 = .ok (.aload_n 0, 1) := by decide +kernel
theorem dX11_init_322 : decode cX11_init 322 = .ok (.iconst 4, 1) := by decide +kernel
theorem dX11_init_323 : decode cX11_init 323 = .ok (.newarray .int, 2) := by decide +kernel
theorem dX11_init_325 : decode cX11_init 325 = .ok (.putfield 133, 3) := by decide +kernel
theorem dX11_init_328 : decode cX11_init 328 = .ok (.iconst 0, 1) := by decide +kernel
theorem dX11_init_329 : decode cX11_init 329 = .ok (.istore_n 1, 1) := by decide +kernel
theorem dX11_init_330 : decode cX11_init 330 = .ok (.iload_n 1, 1) := by decide +kernel
theorem dX11_init_331 : decode cX11_init 331 = .ok (.iconst 4, 1) := by decide +kernel
theorem dX11_init_332 : decode cX11_init 332 = .ok (.if_icmp .ge 17, 3) := by decide +kernel
theorem dX11_init_335 : decode cX11_init 335 = .ok (.aload_n 0, 1) := by decide +kernel
theorem dX11_init_336 : decode cX11_init 336 = .ok (.getfield 16, 3) := by decide +kernel
theorem dX11_init_339 : decode cX11_init 339 = .ok (.iload_n 1, 1) := by decide +kernel
theorem dX11_init_340 : decode cX11_init 340 = .ok (.bipush 48, 2) := by decide +kernel
theorem dX11_init_342 : decode cX11_init 342 = .ok (.iastore, 1) := by decide +kernel
theorem dX11_init_343 : decode cX11_init 343 = .ok (.iinc 1 1, 3) := by decide +kernel
theorem dX11_init_346 : decode cX11_init 346 = .ok (.goto (-16), 3) := by decide +kernel
theorem dX11_init_349 : decode cX11_init 349 = .ok (.return_, 1) := by decide +kernel
theorem dX11_isIn_0 : decode cX11_isIn 0 = .ok (.iload_n 0, 1) := by decide +kernel
theorem dX11_isIn_1 : decode cX11_isIn 1 = .ok (.iload_n 1, 1) := by decide +kernel
theorem dX11_isIn_2 : decode cX11_isIn 2 = .ok (.if_icmp .lt 12, 3) := by decide +kernel
theorem dX11_isIn_5 : decode cX11_isIn 5 = .ok (.iload_n 0, 1) := by decide +kernel
theorem dX11_isIn_6 : decode cX11_isIn 6 = .ok (.iload_n 2, 1) := by decide +kernel
theorem dX11_isIn_7 : decode cX11_isIn 7 = .ok (.if_icmp .gt 7, 3) := by decide +kernel
theorem dX11_isIn_10 : decode cX11_isIn 10 = .ok (.iconst 1, 1) := by decide +kernel
theorem dX11_isIn_11 : decode cX11_isIn 11 = .ok (.goto 4, 3) := by decide +kernel
theorem dX11_isIn_14 : decode cX11_isIn 14 = .ok (.iconst 0, 1) := by decide +kernel
theorem dX11_isIn_15 : decode cX11_isIn 15 = .ok (.ireturn, 1) := by decide +kernel
set_option maxRecDepth 20000 in
theorem ggX11_isSpring_X11_isIn : GoodIn wsX11_isSpring wsX11_isIn := goodIn_r _ [4] (by decide +kernel) (by decide +kernel)
set_option maxRecDepth 20000 in
theorem gX11_isSpring_X11_isIn : GoodIn wsX11_isSpring (va_wsS RX11 136 yX11_isIn wsX11_isIn) := goodIn_app (goodIn_of _ (by decide +kernel)) ggX11_isSpring_X11_isIn
theorem dX11_isSpring_0 : decode cX11_isSpring 0 = .ok (.iload_n 0, 1) := by decide +kernel
theorem dX11_isSpring_1 : decode cX11_isSpring 1 = .ok (.iconst 0, 1) := by decide +kernel
theorem dX11_isSpring_2 : decode cX11_isSpring 2 = .ok (.iconst 3, 1) := by decide +kernel
theorem dX11_isSpring_3 : decode cX11_isSpring 3 = .ok (.invokestatic 136, 3) := by decide +kernel
theorem dX11_isSpring_6 : decode cX11_isSpring 6 = .ok (.ireturn, 1) := by decide +kernel
set_option maxRecDepth 20000 in
theorem ggX11_spring_X11_isSpring : GoodIn wsX11_spring wsX11_isSpring := goodIn_r _ [8, 9, 10, 7, 11] (by decide +kernel) (by decide +kernel)
set_option maxRecDepth 20000 in
theorem gX11_spring_X11_isSpring : GoodIn wsX11_spring (va_wsS RX11 140 yX11_isSpring wsX11_isSpring) := goodIn_app (goodIn_of _ (by decide +kernel)) ggX11_spring_X11_isSpring
set_option maxRecDepth 20000 in
theorem ggX11_spring_X11_isIn : GoodIn wsX11_spring wsX11_isIn := goodIn_r _ [11] (by decide +kernel) (by decide +kernel)
set_option maxRecDepth 20000 in
theorem gX11_spring_X11_isIn : GoodIn wsX11_spring (va_wsS RX11 136 yX11_isIn wsX11_isIn) := goodIn_app (goodIn_of _ (by decide +kernel)) ggX11_spring_X11_isIn
theorem dX11_spring_0 : decode cX11_spring 0 = .ok (.iload_n 1, 1) := by decide +kernel
theorem dX11_spring_1 : decode cX11_spring 1 = .ok (.invokestatic 140, 3) := by decide +kernel
theorem dX11_spring_4 : decode cX11_spring 4 = .ok (.ifCond .eq 45, 3) := by decide +kernel
theorem dX11_spring_7 : decode cX11_spring 7 = .ok (.iload_n 2, 1) := by decide +kernel
theorem dX11_spring_8 : decode cX11_spring 8 = .ok (.iconst 0, 1) := by decide +kernel
theorem dX11_spring_9 : decode cX11_spring 9 = .ok (.bipush 9, 2) := by decide +kernel
theorem dX11_spring_11 : decode cX11_spring 11 = .ok (.invokestatic 136, 3) := by decide +kernel
theorem dX11_spring_14 : decode cX11_spring 14 = .ok (.ifCond .eq 35, 3) := by decide +kernel
theorem dX11_spring_17 : decode cX11_spring 17 = .ok (.iload 4, 2) := by decide +kernel
theorem dX11_spring_19 : decode cX11_spring 19 = .ok (.iconst 0, 1) := by decide +kernel
theorem dX11_spring_20 : decode cX11_spring 20 = .ok (.bipush 48, 2) := by decide +kernel
theorem dX11_spring_22 : decode cX11_spring 22 = .ok (.invokestatic 136, 3) := by decide +kernel
theorem dX11_spring_25 : decode cX11_spring 25 = .ok (.ifCond .eq 24, 3) := by decide +kernel
theorem dX11_spring_28 : decode cX11_spring 28 = .ok (.iload_n 3, 1) := by decide +kernel
theorem dX11_spring_29 : decode cX11_spring 29 = .ok (.iconst 0, 1) := by decide +kernel
theorem dX11_spring_30 : decode cX11_spring 30 = .ok (.iload 4, 2) := by decide +kernel
theorem dX11_spring_32 : decode cX11_spring 32 = .ok (.invokestatic 136, 3) := by decide +kernel
theorem dX11_spring_35 : decode cX11_spring 35 = .ok (.ifCond .eq 14, 3) := by decide +kernel
theorem dX11_spring_38 : decode cX11_spring 38 = .ok (.iload 5, 2) := by decide +kernel
theorem dX11_spring_40 : decode cX11_spring 40 = .ok (.iconst 0, 1) := by decide +kernel
theorem dX11_spring_41 : decode cX11_spring 41 = .ok (.bipush 9, 2) := by decide +kernel
theorem dX11_spring_43 : decode cX11_spring 43 = .ok (.invokestatic 136, 3) := by decide +kernel
theorem dX11_spring_46 : decode cX11_spring 46 = .ok (.ifCond .ne 5, 3) := by decide +kernel
theorem dX11_spring_49 : decode cX11_spring 49 = .ok (.iconst 0, 1) := by decide +kernel
theorem dX11_spring_50 : decode cX11_spring 50 = .ok (.ireturn, 1) := by decide +kernel
theorem dX11_spring_51 : decode cX11_spring 51 = .ok (.aload_n 0, 1) := by decide +kernel
theorem dX11_spring_52 : decode cX11_spring 52 = .ok (.getfield 7, 3) := by decide +kernel
theorem dX11_spring_55 : decode cX11_spring 55 = .ok (.iload_n 1, 1) := by decide +kernel
theorem dX11_spring_56 : decode cX11_spring 56 = .ok (.iload_n 2, 1) := by decide +kernel
theorem dX11_spring_57 : decode cX11_spring 57 = .ok (.iastore, 1) := by decide +kernel
theorem dX11_spring_58 : decode cX11_spring 58 = .ok (.aload_n 0, 1) := by decide +kernel
theorem dX11_spring_59 : decode cX11_spring 59 = .ok (.getfield 13, 3) := by decide +kernel
theorem dX11_spring_62 : decode cX11_spring 62 = .ok (.iload_n 1, 1) := by decide +kernel
theorem dX11_spring_63 : decode cX11_spring 63 = .ok (.iload_n 3, 1) := by decide +kernel
theorem dX11_spring_64 : decode cX11_spring 64 = .ok (.iastore, 1) := by decide +kernel
theorem dX11_spring_65 : decode cX11_spring 65 = .ok (.aload_n 0, 1) := by decide +kernel
theorem dX11_spring_66 : decode cX11_spring 66 = .ok (.getfield 16, 3) := by decide +kernel
theorem dX11_spring_69 : decode cX11_spring 69 = .ok (.iload_n 1, 1) := by decide +kernel
theorem dX11_spring_70 : decode cX11_spring 70 = .ok (.iload 4, 2) := by decide +kernel
theorem dX11_spring_72 : decode cX11_spring 72 = .ok (.iastore, 1) := by decide +kernel
theorem dX11_spring_73 : decode cX11_spring 73 = .ok (.aload_n 0, 1) := by decide +kernel
theorem dX11_spring_74 : decode cX11_spring 74 = .ok (.getfield 19, 3) := by decide +kernel
theorem dX11_spring_77 : decode cX11_spring 77 = .ok (.iload_n 1, 1) := by decide +kernel
theorem dX11_spring_78 : decode cX11_spring 78 = .ok (.iload 5, 2) := by decide +kernel
theorem dX11_spring_80 : decode cX11_spring 80 = .ok (.iastore, 1) := by decide +kernel
theorem dX11_spring_81 : decode cX11_spring 81 = .ok (.iconst 1, 1) := by decide +kernel
theorem dX11_spring_82 : decode cX11_spring 82 = .ok (.ireturn, 1) := by decide +kernel
set_option maxRecDepth 20000 in
theorem ggX11_bath_X11_isIn : GoodIn wsX11_bath wsX11_isIn := goodIn_r _ [6] (by decide +kernel) (by decide +kernel)
set_option maxRecDepth 20000 in
theorem gX11_bath_X11_isIn : GoodIn wsX11_bath (va_wsS RX11 136 yX11_isIn wsX11_isIn) := goodIn_app (goodIn_of _ (by decide +kernel)) ggX11_bath_X11_isIn
theorem dX11_bath_0 : decode cX11_bath 0 = .ok (.iload_n 1, 1) := by decide +kernel
theorem dX11_bath_1 : decode cX11_bath 1 = .ok (.iconst 0, 1) := by decide +kernel
theorem dX11_bath_2 : decode cX11_bath 2 = .ok (.iconst 5, 1) := by decide +kernel
theorem dX11_bath_3 : decode cX11_bath 3 = .ok (.invokestatic 136, 3) := by decide +kernel
theorem dX11_bath_6 : decode cX11_bath 6 = .ok (.ifCond .eq 12, 3) := by decide +kernel
theorem dX11_bath_9 : decode cX11_bath 9 = .ok (.iload_n 2, 1) := by decide +kernel
theorem dX11_bath_10 : decode cX11_bath 10 = .ok (.iconst 0, 1) := by decide +kernel
theorem dX11_bath_11 : decode cX11_bath 11 = .ok (.iconst 2, 1) := by decide +kernel
theorem dX11_bath_12 : decode cX11_bath 12 = .ok (.invokestatic 136, 3) := by decide +kernel
theorem dX11_bath_15 : decode cX11_bath 15 = .ok (.ifCond .ne 5, 3) := by decide +kernel
theorem dX11_bath_18 : decode cX11_bath 18 = .ok (.iconst 0, 1) := by decide +kernel
theorem dX11_bath_19 : decode cX11_bath 19 = .ok (.ireturn, 1) := by decide +kernel
theorem dX11_bath_20 : decode cX11_bath 20 = .ok (.aload_n 0, 1) := by decide +kernel
theorem dX11_bath_21 : decode cX11_bath 21 = .ok (.getfield 22, 3) := by decide +kernel
theorem dX11_bath_24 : decode cX11_bath 24 = .ok (.iload_n 1, 1) := by decide +kernel
theorem dX11_bath_25 : decode cX11_bath 25 = .ok (.iload_n 2, 1) := by decide +kernel
theorem dX11_bath_26 : decode cX11_bath 26 = .ok (.iastore, 1) := by decide +kernel
theorem dX11_bath_27 : decode cX11_bath 27 = .ok (.aload_n 0, 1) := by decide +kernel
theorem dX11_bath_28 : decode cX11_bath 28 = .ok (.getfield 28, 3) := by decide +kernel
theorem dX11_bath_31 : decode cX11_bath 31 = .ok (.iload_n 1, 1) := by decide +kernel
theorem dX11_bath_32 : decode cX11_bath 32 = .ok (.iload_n 3, 1) := by decide +kernel
theorem dX11_bath_33 : decode cX11_bath 33 = .ok (.bastore, 1) := by decide +kernel
theorem dX11_bath_34 : decode cX11_bath 34 = .ok (.iconst 1, 1) := by decide +kernel
theorem dX11_bath_35 : decode cX11_bath 35 = .ok (.ireturn, 1) := by decide +kernel
set_option maxRecDepth 20000 in
theorem ggX11_rate_X11_isIn : GoodIn wsX11_rate wsX11_isIn := goodIn_r _ [5] (by decide +kernel) (by decide +kernel)
set_option maxRecDepth 20000 in
theorem gX11_rate_X11_isIn : GoodIn wsX11_rate (va_wsS RX11 136 yX11_isIn wsX11_isIn) := goodIn_app (goodIn_of _ (by decide +kernel)) ggX11_rate_X11_isIn
theorem dX11_rate_0 : decode cX11_rate 0 = .ok (.iload_n 1, 1) := by decide +kernel
theorem dX11_rate_1 : decode cX11_rate 1 = .ok (.iconst 0, 1) := by decide +kernel
theorem dX11_rate_2 : decode cX11_rate 2 = .ok (.iconst 3, 1) := by decide +kernel
theorem dX11_rate_3 : decode cX11_rate 3 = .ok (.invokestatic 136, 3) := by decide +kernel
theorem dX11_rate_6 : decode cX11_rate 6 = .ok (.ifCond .eq 14, 3) := by decide +kernel
theorem dX11_rate_9 : decode cX11_rate 9 = .ok (.iload_n 2, 1) := by decide +kernel
theorem dX11_rate_10 : decode cX11_rate 10 = .ok (.iconst 0, 1) := by decide +kernel
theorem dX11_rate_11 : decode cX11_rate 11 = .ok (.sipush 999, 3) := by decide +kernel
theorem dX11_rate_14 : decode cX11_rate 14 = .ok (.invokestatic 136, 3) := by decide +kernel
theorem dX11_rate_17 : decode cX11_rate 17 = .ok (.ifCond .ne 5, 3) := by decide +kernel
theorem dX11_rate_20 : decode cX11_rate 20 = .ok (.iconst 0, 1) := by decide +kernel
theorem dX11_rate_21 : decode cX11_rate 21 = .ok (.ireturn, 1) := by decide +kernel
theorem dX11_rate_22 : decode cX11_rate 22 = .ok (.aload_n 0, 1) := by decide +kernel
theorem dX11_rate_23 : decode cX11_rate 23 = .ok (.getfield 25, 3) := by decide +kernel
theorem dX11_rate_26 : decode cX11_rate 26 = .ok (.iload_n 1, 1) := by decide +kernel
theorem dX11_rate_27 : decode cX11_rate 27 = .ok (.iload_n 2, 1) := by decide +kernel
theorem dX11_rate_28 : decode cX11_rate 28 = .ok (.iastore, 1) := by decide +kernel
theorem dX11_rate_29 : decode cX11_rate 29 = .ok (.iconst 1, 1) := by decide +kernel
theorem dX11_rate_30 : decode cX11_rate 30 = .ok (.ireturn, 1) := by decide +kernel
theorem dX11_feed_0 : decode cX11_feed 0 = .ok (.aload_n 0, 1) := by decide +kernel
theorem dX11_feed_1 : decode cX11_feed 1 = .ok (.getfield 144, 3) := by decide +kernel
theorem dX11_feed_4 : decode cX11_feed 4 = .ok (.bipush 20, 2) := by decide +kernel
theorem dX11_feed_6 : decode cX11_feed 6 = .ok (.iadd, 1) := by decide +kernel
theorem dX11_feed_7 : decode cX11_feed 7 = .ok (.sipush 600, 3) := by decide +kernel
theorem dX11_feed_10 : decode cX11_feed 10 = .ok (.if_icmp .le 5, 3) := by decide +kernel
theorem dX11_feed_13 : decode cX11_feed 13 = .ok (.iconst (-1), 1) := by decide +kernel
theorem dX11_feed_14 : decode cX11_feed 14 = .ok (.ireturn, 1) := by decide +kernel
theorem dX11_feed_15 : decode cX11_feed 15 = .ok (.iconst 0, 1) := by decide +kernel
theorem dX11_feed_16 : decode cX11_feed 16 = .ok (.istore 6, 2) := by decide +kernel
theorem dX11_feed_18 : decode cX11_feed 18 = .ok (.iload 6, 2) := by decide +kernel
theorem dX11_feed_20 : decode cX11_feed 20 = .ok (.bipush 20, 2) := by decide +kernel
theorem dX11_feed_22 : decode cX11_feed 22 = .ok (.if_icmp .ge 93, 3) := by decide +kernel
theorem dX11_feed_25 : decode cX11_feed 25 = .ok (.iload 6, 2) := by decide +kernel
theorem dX11_feed_27 : decode cX11_feed 27 = .ok (.iconst 4, 1) := by decide +kernel
theorem dX11_feed_28 : decode cX11_feed 28 = .ok (.if_icmp .ge 7, 3) := by decide +kernel
theorem dX11_feed_31 : decode cX11_feed 31 = .ok (.iload_n 1, 1) := by decide +kernel
theorem dX11_feed_32 : decode cX11_feed 32 = .ok (.goto 39, 3) := by decide +kernel
theorem dX11_feed_35 : decode cX11_feed 35 = .ok (.iload 6, 2) := by decide +kernel
theorem dX11_feed_37 : decode cX11_feed 37 = .ok (.bipush 8, 2) := by decide +kernel
theorem dX11_feed_39 : decode cX11_feed 39 = .ok (.if_icmp .ge 7, 3) := by decide +kernel
theorem dX11_feed_42 : decode cX11_feed 42 = .ok (.iload_n 2, 1) := by decide +kernel
theorem dX11_feed_43 : decode cX11_feed 43 = .ok (.goto 28, 3) := by decide +kernel
theorem dX11_feed_46 : decode cX11_feed 46 = .ok (.iload 6, 2) := by decide +kernel
theorem dX11_feed_48 : decode cX11_feed 48 = .ok (.bipush 12, 2) := by decide +kernel
theorem dX11_feed_50 : decode cX11_feed 50 = .ok (.if_icmp .ge 7, 3) := by decide +kernel
theorem dX11_feed_53 : decode cX11_feed 53 = .ok (.iload_n 3, 1) := by decide +kernel
theorem dX11_feed_54 : decode cX11_feed 54 = .ok (.goto 17, 3) := by decide +kernel
theorem dX11_feed_57 : decode cX11_feed 57 = .ok (.iload 6, 2) := by decide +kernel
theorem dX11_feed_59 : decode cX11_feed 59 = .ok (.bipush 16, 2) := by decide +kernel
theorem dX11_feed_61 : decode cX11_feed 61 = .ok (.if_icmp .ge 8, 3) := by decide +kernel
theorem dX11_feed_64 : decode cX11_feed 64 = .ok (.iload 4, 2) := by decide +kernel
theorem dX11_feed_66 : decode cX11_feed 66 = .ok (.goto 5, 3) := by decide +kernel
theorem dX11_feed_69 : decode cX11_feed 69 = .ok (.iload 5, 2) := by decide +kernel
theorem dX11_feed_71 : decode cX11_feed 71 = .ok (.istore 7, 2) := by decide +kernel
theorem dX11_feed_73 : decode cX11_feed 73 = .ok (.aload_n 0, 1) := by decide +kernel
theorem dX11_feed_74 : decode cX11_feed 74 = .ok (.getfield 51, 3) := by decide +kernel
theorem dX11_feed_77 : decode cX11_feed 77 = .ok (.aload_n 0, 1) := by decide +kernel
theorem dX11_feed_78 : decode cX11_feed 78 = .ok (.getfield 144, 3) := by decide +kernel
theorem dX11_feed_81 : decode cX11_feed 81 = .ok (.iload 7, 2) := by decide +kernel
theorem dX11_feed_83 : decode cX11_feed 83 = .ok (.bipush 24, 2) := by decide +kernel
theorem dX11_feed_85 : decode cX11_feed 85 = .ok (.bipush 8, 2) := by decide +kernel
theorem dX11_feed_87 : decode cX11_feed 87 = .ok (.iload 6, 2) := by decide +kernel
theorem dX11_feed_89 : decode cX11_feed 89 = .ok (.iconst 4, 1) := by decide +kernel
theorem dX11_feed_90 : decode cX11_feed 90 = .ok (.irem, 1) := by decide +kernel
theorem dX11_feed_91 : decode cX11_feed 91 = .ok (.imul, 1) := by decide +kernel
theorem dX11_feed_92 : decode cX11_feed 92 = .ok (.isub, 1) := by decide +kernel
theorem dX11_feed_93 : decode cX11_feed 93 = .ok (.ishr, 1) := by decide +kernel
theorem dX11_feed_94 : decode cX11_feed 94 = .ok (.sipush 255, 3) := by decide +kernel
theorem dX11_feed_97 : decode cX11_feed 97 = .ok (.iand, 1) := by decide +kernel
theorem dX11_feed_98 : decode cX11_feed 98 = .ok (.iastore, 1) := by decide +kernel
theorem dX11_feed_99 : decode cX11_feed 99 = .ok (.aload_n 0, 1) := by decide +kernel
theorem dX11_feed_100 : decode cX11_feed 100 = .ok (.dup, 1) := by decide +kernel
theorem dX11_feed_101 : decode cX11_feed 101 = .ok (.getfield 144, 3) := by decide +kernel
theorem dX11_feed_104 : decode cX11_feed 104 = .ok (.iconst 1, 1) := by decide +kernel
theorem dX11_feed_105 : decode cX11_feed 105 = .ok (.iadd, 1) := by decide +kernel
theorem dX11_feed_106 : decode cX11_feed 106 = .ok (.putfield 144, 3) := by decide +kernel
theorem dX11_feed_109 : decode cX11_feed 109 = .ok (.iinc 6 1, 3) := by decide +kernel
theorem dX11_feed_112 : decode cX11_feed 112 = .ok (.goto (-94), 3) := by decide +kernel
theorem dX11_feed_115 : decode cX11_feed 115 = .ok (.aload_n 0, 1) := by decide +kernel
theorem dX11_feed_116 : decode cX11_feed 116 = .ok (.getfield 144, 3) := by decide +kernel
theorem dX11_feed_119 : decode cX11_feed 119 = .ok (.ireturn, 1) := by decide +kernel
set_option maxRecDepth 20000 in
theorem ggX11_end_X11_isIn : GoodIn wsX11_end wsX11_isIn := goodIn_r _ [5] (by decide +kernel) (by decide +kernel)
set_option maxRecDepth 20000 in
theorem gX11_end_X11_isIn : GoodIn wsX11_end (va_wsS RX11 136 yX11_isIn wsX11_isIn) := goodIn_app (goodIn_of _ (by decide +kernel)) ggX11_end_X11_isIn
theorem dX11_end_0 : decode cX11_end 0 = .ok (.iload_n 1, 1) := by decide +kernel
theorem dX11_end_1 : decode cX11_end 1 = .ok (.iconst 0, 1) := by decide +kernel
theorem dX11_end_2 : decode cX11_end 2 = .ok (.aload_n 0, 1) := by decide +kernel
theorem dX11_end_3 : decode cX11_end 3 = .ok (.getfield 144, 3) := by decide +kernel
theorem dX11_end_6 : decode cX11_end 6 = .ok (.invokestatic 136, 3) := by decide +kernel
theorem dX11_end_9 : decode cX11_end 9 = .ok (.ifCond .ne 5, 3) := by decide +kernel
theorem dX11_end_12 : decode cX11_end 12 = .ok (.iconst 0, 1) := by decide +kernel
theorem dX11_end_13 : decode cX11_end 13 = .ok (.ireturn, 1) := by decide +kernel
theorem dX11_end_14 : decode cX11_end 14 = .ok (.aload_n 0, 1) := by decide +kernel
theorem dX11_end_15 : decode cX11_end 15 = .ok (.iload_n 1, 1) := by decide +kernel
theorem dX11_end_16 : decode cX11_end 16 = .ok (.putfield 144, 3) := by decide +kernel
theorem dX11_end_19 : decode cX11_end 19 = .ok (.iconst 1, 1) := by decide +kernel
theorem dX11_end_20 : decode cX11_end 20 = .ok (.ireturn, 1) := by decide +kernel
theorem dX11_see_0 : decode cX11_see 0 = .ok (.iload_n 1, 1) := by decide +kernel
theorem dX11_see_1 : decode cX11_see 1 = .ok (.aload_n 0, 1) := by decide +kernel
theorem dX11_see_2 : decode cX11_see 2 = .ok (.getfield 144, 3) := by decide +kernel
theorem dX11_see_5 : decode cX11_see 5 = .ok (.if_icmp .ge 12, 3) := by decide +kernel
theorem dX11_see_8 : decode cX11_see 8 = .ok (.aload_n 0, 1) := by decide +kernel
theorem dX11_see_9 : decode cX11_see 9 = .ok (.getfield 51, 3) := by decide +kernel
theorem dX11_see_12 : decode cX11_see 12 = .ok (.iload_n 1, 1) := by decide +kernel
theorem dX11_see_13 : decode cX11_see 13 = .ok (.iaload, 1) := by decide +kernel
theorem dX11_see_14 : decode cX11_see 14 = .ok (.goto 4, 3) := by decide +kernel
theorem dX11_see_17 : decode cX11_see 17 = .ok (.iconst (-1), 1) := by decide +kernel
theorem dX11_see_18 : decode cX11_see 18 = .ok (.ireturn, 1) := by decide +kernel
set_option maxRecDepth 20000 in
theorem ggX11_isSmall_X11_isIn : GoodIn wsX11_isSmall wsX11_isIn := goodIn_r _ [4] (by decide +kernel) (by decide +kernel)
set_option maxRecDepth 20000 in
theorem gX11_isSmall_X11_isIn : GoodIn wsX11_isSmall (va_wsS RX11 136 yX11_isIn wsX11_isIn) := goodIn_app (goodIn_of _ (by decide +kernel)) ggX11_isSmall_X11_isIn
theorem dX11_isSmall_0 : decode cX11_isSmall 0 = .ok (.iload_n 0, 1) := by decide +kernel
theorem dX11_isSmall_1 : decode cX11_isSmall 1 = .ok (.bipush 97, 2) := by decide +kernel
theorem dX11_isSmall_3 : decode cX11_isSmall 3 = .ok (.bipush 122, 2) := by decide +kernel
theorem dX11_isSmall_5 : decode cX11_isSmall 5 = .ok (.invokestatic 136, 3) := by decide +kernel
theorem dX11_isSmall_8 : decode cX11_isSmall 8 = .ok (.ireturn, 1) := by decide +kernel
set_option maxRecDepth 20000 in
theorem ggX11_isLetter_X11_isSmall : GoodIn wsX11_isLetter wsX11_isSmall := goodIn_r _ [4, 5, 6, 3, 7] (by decide +kernel) (by decide +kernel)
set_option maxRecDepth 20000 in
theorem gX11_isLetter_X11_isSmall : GoodIn wsX11_isLetter (va_wsS RX11 147 yX11_isSmall wsX11_isSmall) := goodIn_app (goodIn_of _ (by decide +kernel)) ggX11_isLetter_X11_isSmall
set_option maxRecDepth 20000 in
theorem ggX11_isLetter_X11_isIn : GoodIn wsX11_isLetter wsX11_isIn := goodIn_r _ [7] (by decide +kernel) (by decide +kernel)
set_option maxRecDepth 20000 in
theorem gX11_isLetter_X11_isIn : GoodIn wsX11_isLetter (va_wsS RX11 136 yX11_isIn wsX11_isIn) := goodIn_app (goodIn_of _ (by decide +kernel)) ggX11_isLetter_X11_isIn
theorem dX11_isLetter_0 : decode cX11_isLetter 0 = .ok (.iload_n 0, 1) := by decide +kernel
theorem dX11_isLetter_1 : decode cX11_isLetter 1 = .ok (.invokestatic 147, 3) := by decide +kernel
theorem dX11_isLetter_4 : decode cX11_isLetter 4 = .ok (.ifCond .ne 14, 3) := by decide +kernel
theorem dX11_isLetter_7 : decode cX11_isLetter 7 = .ok (.iload_n 0, 1) := by decide +kernel
theorem dX11_isLetter_8 : decode cX11_isLetter 8 = .ok (.bipush 65, 2) := by decide +kernel
theorem dX11_isLetter_10 : decode cX11_isLetter 10 = .ok (.bipush 90, 2) := by decide +kernel
theorem dX11_isLetter_12 : decode cX11_isLetter 12 = .ok (.invokestatic 136, 3) := by decide +kernel
theorem dX11_isLetter_15 : decode cX11_isLetter 15 = .ok (.ifCond .eq 7, 3) := by decide +kernel
theorem dX11_isLetter_18 : decode cX11_isLetter 18 = .ok (.iconst 1, 1) := by decide +kernel
theorem dX11_isLetter_19 : decode cX11_isLetter 19 = .ok (.goto 4, 3) := by decide +kernel
theorem dX11_isLetter_22 : decode cX11_isLetter 22 = .ok (.iconst 0, 1) := by decide +kernel
theorem dX11_isLetter_23 : decode cX11_isLetter 23 = .ok (.ireturn, 1) := by decide +kernel
set_option maxRecDepth 20000 in
theorem ggX11_isDigit_X11_isIn : GoodIn wsX11_isDigit wsX11_isIn := goodIn_r _ [4] (by decide +kernel) (by decide +kernel)
set_option maxRecDepth 20000 in
theorem gX11_isDigit_X11_isIn : GoodIn wsX11_isDigit (va_wsS RX11 136 yX11_isIn wsX11_isIn) := goodIn_app (goodIn_of _ (by decide +kernel)) ggX11_isDigit_X11_isIn
theorem dX11_isDigit_0 : decode cX11_isDigit 0 = .ok (.iload_n 0, 1) := by decide +kernel
theorem dX11_isDigit_1 : decode cX11_isDigit 1 = .ok (.bipush 48, 2) := by decide +kernel
theorem dX11_isDigit_3 : decode cX11_isDigit 3 = .ok (.bipush 57, 2) := by decide +kernel
theorem dX11_isDigit_5 : decode cX11_isDigit 5 = .ok (.invokestatic 136, 3) := by decide +kernel
theorem dX11_isDigit_8 : decode cX11_isDigit 8 = .ok (.ireturn, 1) := by decide +kernel
theorem dX11_wordOf_0 : decode cX11_wordOf 0 = .ok (.lload_n 0, 1) := by decide +kernel
theorem dX11_wordOf_1 : decode cX11_wordOf 1 = .ok (.ldc2_w 150, 3) := by decide +kernel
theorem dX11_wordOf_4 : decode cX11_wordOf 4 = .ok (.lcmp, 1) := by decide +kernel
theorem dX11_wordOf_5 : decode cX11_wordOf 5 = .ok (.ifCond .ne 5, 3) := by decide +kernel
theorem dX11_wordOf_8 : decode cX11_wordOf 8 = .ok (.iconst 4, 1) := by decide +kernel
theorem dX11_wordOf_9 : decode cX11_wordOf 9 = .ok (.ireturn, 1) := by decide +kernel
theorem dX11_wordOf_10 : decode cX11_wordOf 10 = .ok (.lload_n 0, 1) := by decide +kernel
theorem dX11_wordOf_11 : decode cX11_wordOf 11 = .ok (.ldc2_w 152, 3) := by decide +kernel
theorem dX11_wordOf_14 : decode cX11_wordOf 14 = .ok (.lcmp, 1) := by decide +kernel
theorem dX11_wordOf_15 : decode cX11_wordOf 15 = .ok (.ifCond .ne 6, 3) := by decide +kernel
theorem dX11_wordOf_18 : decode cX11_wordOf 18 = .ok (.bipush 10, 2) := by decide +kernel
theorem dX11_wordOf_20 : decode cX11_wordOf 20 = .ok (.ireturn, 1) := by decide +kernel
theorem dX11_wordOf_21 : decode cX11_wordOf 21 = .ok (.lload_n 0, 1) := by decide +kernel
theorem dX11_wordOf_22 : decode cX11_wordOf 22 = .ok (.ldc2_w 154, 3) := by decide +kernel
theorem dX11_wordOf_25 : decode cX11_wordOf 25 = .ok (.lcmp, 1) := by decide +kernel
theorem dX11_wordOf_26 : decode cX11_wordOf 26 = .ok (.ifCond .ne 6, 3) := by decide +kernel
theorem dX11_wordOf_29 : decode cX11_wordOf 29 = .ok (.bipush 11, 2) := by decide +kernel
theorem dX11_wordOf_31 : decode cX11_wordOf 31 = .ok (.ireturn, 1) := by decide +kernel
theorem dX11_wordOf_32 : decode cX11_wordOf 32 = .ok (.lload_n 0, 1) := by decide +kernel
theorem dX11_wordOf_33 : decode cX11_wordOf 33 = .ok (.ldc2_w 156, 3) := by decide +kernel
theorem dX11_wordOf_36 : decode cX11_wordOf 36 = .ok (.lcmp, 1) := by decide +kernel
theorem dX11_wordOf_37 : decode cX11_wordOf 37 = .ok (.ifCond .ne 6, 3) := by decide +kernel
theorem dX11_wordOf_40 : decode cX11_wordOf 40 = .ok (.bipush 12, 2) := by decide +kernel
theorem dX11_wordOf_42 : decode cX11_wordOf 42 = .ok (.ireturn, 1) := by decide +kernel
theorem dX11_wordOf_43 : decode cX11_wordOf 43 = .ok (.lload_n 0, 1) := by decide +kernel
theorem dX11_wordOf_44 : decode cX11_wordOf 44 = .ok (.ldc2_w 158, 3) := by decide +kernel
theorem dX11_wordOf_47 : decode cX11_wordOf 47 = .ok (.lcmp, 1) := by decide +kernel
theorem dX11_wordOf_48 : decode cX11_wordOf 48 = .ok (.ifCond .ne 6, 3) := by decide +kernel
theorem dX11_wordOf_51 : decode cX11_wordOf 51 = .ok (.bipush 13, 2) := by decide +kernel
theorem dX11_wordOf_53 : decode cX11_wordOf 53 = .ok (.ireturn, 1) := by decide +kernel
theorem dX11_wordOf_54 : decode cX11_wordOf 54 = .ok (.lload_n 0, 1) := by decide +kernel
theorem dX11_wordOf_55 : decode cX11_wordOf 55 = .ok (.ldc2_w 160, 3) := by decide +kernel
theorem dX11_wordOf_58 : decode cX11_wordOf 58 = .ok (.lcmp, 1) := by decide +kernel
theorem dX11_wordOf_59 : decode cX11_wordOf 59 = .ok (.ifCond .ne 8, 3) := by decide +kernel
theorem dX11_wordOf_62 : decode cX11_wordOf 62 = .ok (.bipush 14, 2) := by decide +kernel
theorem dX11_wordOf_64 : decode cX11_wordOf 64 = .ok (.goto 4, 3) := by decide +kernel
theorem dX11_wordOf_67 : decode cX11_wordOf 67 = .ok (.iconst 2, 1) := by decide +kernel
theorem dX11_wordOf_68 : decode cX11_wordOf 68 = .ok (.ireturn, 1) := by decide +kernel
set_option maxRecDepth 20000 in
theorem ggX11_next0_X11_see : GoodIn wsX11_next0 wsX11_see := goodIn_r _ [10, 11, 12, 34, 35, 36, 37, 38, 39, 40, 41, 42, 43, 44, 45, 46, 47, 48, 49, 50, 51, 52, 53, 54, 55, 56, 57, 58, 59, 60, 61, 62, 63, 64, 65, 66, 67, 68, 69, 70, 71, 72, 73, 74, 75, 76, 77, 78, 79, 80, 81, 82, 83, 84, 85, 86, 87, 88, 89, 90, 91, 92, 93, 94] (by decide +kernel) (by decide +kernel)
set_option maxRecDepth 20000 in
theorem gX11_next0_X11_see : GoodIn wsX11_next0 (wsV RX11 165 RX11 yX11_see wsX11_see) := goodIn_app (goodIn_of _ (by decide +kernel)) ggX11_next0_X11_see
set_option maxRecDepth 20000 in
theorem ggX11_next0_X11_isLetter : GoodIn wsX11_next0 wsX11_isLetter := goodIn_r _ [15, 16, 17, 9, 18, 19, 20, 21] (by decide +kernel) (by decide +kernel)
set_option maxRecDepth 20000 in
theorem gX11_next0_X11_isLetter : GoodIn wsX11_next0 (va_wsS RX11 175 yX11_isLetter wsX11_isLetter) := goodIn_app (goodIn_of _ (by decide +kernel)) ggX11_next0_X11_isLetter
set_option maxRecDepth 20000 in
theorem ggX11_next0_X11_isSmall : GoodIn wsX11_next0 wsX11_isSmall := goodIn_r _ [18, 19, 20, 9, 21] (by decide +kernel) (by decide +kernel)
set_option maxRecDepth 20000 in
theorem gX11_next0_X11_isSmall : GoodIn wsX11_next0 (va_wsS RX11 147 yX11_isSmall wsX11_isSmall) := goodIn_app (goodIn_of _ (by decide +kernel)) ggX11_next0_X11_isSmall
set_option maxRecDepth 20000 in
theorem ggX11_next0_X11_wordOf : GoodIn wsX11_next0 wsX11_wordOf := goodIn_r _ [24, 25, 26, 27, 28, 29, 30] (by decide +kernel) (by decide +kernel)
set_option maxRecDepth 20000 in
theorem gX11_next0_X11_wordOf : GoodIn wsX11_next0 (va_wsS RX11 182 yX11_wordOf wsX11_wordOf) := goodIn_app (goodIn_of _ (by decide +kernel)) ggX11_next0_X11_wordOf
set_option maxRecDepth 20000 in
theorem ggX11_next0_X11_isDigit : GoodIn wsX11_next0 wsX11_isDigit := goodIn_r _ [33, 19, 20, 9, 21] (by decide +kernel) (by decide +kernel)
set_option maxRecDepth 20000 in
theorem gX11_next0_X11_isDigit : GoodIn wsX11_next0 (va_wsS RX11 186 yX11_isDigit wsX11_isDigit) := goodIn_app (goodIn_of _ (by decide +kernel)) ggX11_next0_X11_isDigit
theorem dX11_next0_0 : decode cX11_next0 0 = .ok (.aload_n 0, 1) := by decide +kernel
theorem dX11_next0_1 : decode cX11_next0 1 = .ok (.aload_n 0, 1) := by decide +kernel
theorem dX11_next0_2 : decode cX11_next0 2 = .ok (.getfield 162, 3) := by decide +kernel
theorem dX11_next0_5 : decode cX11_next0 5 = .ok (.invokevirtual 165, 3) := by decide +kernel
theorem dX11_next0_8 : decode cX11_next0 8 = .ok (.bipush 32, 2) := by decide +kernel
theorem dX11_next0_10 : decode cX11_next0 10 = .ok (.if_icmp .eq 16, 3) := by decide +kernel
theorem dX11_next0_13 : decode cX11_next0 13 = .ok (.aload_n 0, 1) := by decide +kernel
theorem dX11_next0_14 : decode cX11_next0 14 = .ok (.aload_n 0, 1) := by decide +kernel
theorem dX11_next0_15 : decode cX11_next0 15 = .ok (.getfield 162, 3) := by decide +kernel
theorem dX11_next0_18 : decode cX11_next0 18 = .ok (.invokevirtual 165, 3) := by decide +kernel
theorem dX11_next0_21 : decode cX11_next0 21 = .ok (.bipush 10, 2) := by decide +kernel
theorem dX11_next0_23 : decode cX11_next0 23 = .ok (.if_icmp .ne 16, 3) := by decide +kernel
theorem dX11_next0_26 : decode cX11_next0 26 = .ok (.aload_n 0, 1) := by decide +kernel
theorem dX11_next0_27 : decode cX11_next0 27 = .ok (.dup, 1) := by decide +kernel
theorem dX11_next0_28 : decode cX11_next0 28 = .ok (.getfield 162, 3) := by decide +kernel
theorem dX11_next0_31 : decode cX11_next0 31 = .ok (.iconst 1, 1) := by decide +kernel
theorem dX11_next0_32 : decode cX11_next0 32 = .ok (.iadd, 1) := by decide +kernel
theorem dX11_next0_33 : decode cX11_next0 33 = .ok (.putfield 162, 3) := by decide +kernel
theorem dX11_next0_36 : decode cX11_next0 36 = .ok (.goto (-36), 3) := by decide +kernel
theorem dX11_next0_39 : decode cX11_next0 39 = .ok (.aload_n 0, 1) := by decide +kernel
theorem dX11_next0_40 : decode cX11_next0 40 = .ok (.aload_n 0, 1) := by decide +kernel
theorem dX11_next0_41 : decode cX11_next0 41 = .ok (.getfield 162, 3) := by decide +kernel
theorem dX11_next0_44 : decode cX11_next0 44 = .ok (.putfield 169, 3) := by decide +kernel
theorem dX11_next0_47 : decode cX11_next0 47 = .ok (.aload_n 0, 1) := by decide +kernel
theorem dX11_next0_48 : decode cX11_next0 48 = .ok (.aload_n 0, 1) := by decide +kernel
theorem dX11_next0_49 : decode cX11_next0 49 = .ok (.getfield 162, 3) := by decide +kernel
theorem dX11_next0_52 : decode cX11_next0 52 = .ok (.invokevirtual 165, 3) := by decide +kernel
theorem dX11_next0_55 : decode cX11_next0 55 = .ok (.istore_n 1, 1) := by decide +kernel
theorem dX11_next0_56 : decode cX11_next0 56 = .ok (.iconst 0, 1) := by decide +kernel
theorem dX11_next0_57 : decode cX11_next0 57 = .ok (.istore_n 2, 1) := by decide +kernel
theorem dX11_next0_58 : decode cX11_next0 58 = .ok (.iconst 1, 1) := by decide +kernel
theorem dX11_next0_59 : decode cX11_next0 59 = .ok (.istore_n 3, 1) := by decide +kernel
theorem dX11_next0_60 : decode cX11_next0 60 = .ok (.iload_n 1, 1) := by decide +kernel
theorem dX11_next0_61 : decode cX11_next0 61 = .ok (.iconst (-1), 1) := by decide +kernel
theorem dX11_next0_62 : decode cX11_next0 62 = .ok (.if_icmp .ne 11, 3) := by decide +kernel
theorem dX11_next0_65 : decode cX11_next0 65 = .ok (.aload_n 0, 1) := by decide +kernel
theorem dX11_next0_66 : decode cX11_next0 66 = .ok (.iconst 0, 1) := by decide +kernel
theorem dX11_next0_67 : decode cX11_next0 67 = .ok (.putfield 172, 3) := by decide +kernel
theorem dX11_next0_70 : decode cX11_next0 70 = .ok (.goto 254, 3) := by decide +kernel
theorem dX11_next0_73 : decode cX11_next0 73 = .ok (.iload_n 1, 1) := by decide +kernel
theorem dX11_next0_74 : decode cX11_next0 74 = .ok (.invokestatic 175, 3) := by decide +kernel
theorem dX11_next0_77 : decode cX11_next0 77 = .ok (.ifCond .eq 117, 3) := by decide +kernel
theorem dX11_next0_80 : decode cX11_next0 80 = .ok (.aload_n 0, 1) := by decide +kernel
theorem dX11_next0_81 : decode cX11_next0 81 = .ok (.lconst 0, 1) := by decide +kernel
theorem dX11_next0_82 : decode cX11_next0 82 = .ok (.putfield 178, 3) := by decide +kernel
theorem dX11_next0_85 : decode cX11_next0 85 = .ok (.aload_n 0, 1) := by decide +kernel
theorem dX11_next0_86 : decode cX11_next0 86 = .ok (.aload_n 0, 1) := by decide +kernel
theorem dX11_next0_87 : decode cX11_next0 87 = .ok (.getfield 162, 3) := by decide +kernel
theorem dX11_next0_90 : decode cX11_next0 90 = .ok (.invokevirtual 165, 3) := by decide +kernel
theorem dX11_next0_93 : decode cX11_next0 93 = .ok (.invokestatic 175, 3) := by decide +kernel
theorem dX11_next0_96 : decode cX11_next0 96 = .ok (.ifCond .eq 70, 3) := by decide +kernel
theorem dX11_next0_99 : decode cX11_next0 99 = .ok (.iload_n 3, 1) := by decide +kernel
theorem dX11_next0_100 : decode cX11_next0 100 = .ok (.ifCond .eq 21, 3) := by decide +kernel
theorem dX11_next0_103 : decode cX11_next0 103 = .ok (.aload_n 0, 1) := by decide +kernel
theorem dX11_next0_104 : decode cX11_next0 104 = .ok (.aload_n 0, 1) := by decide +kernel
theorem dX11_next0_105 : decode cX11_next0 105 = .ok (.getfield 162, 3) := by decide +kernel
theorem dX11_next0_108 : decode cX11_next0 108 = .ok (.invokevirtual 165, 3) := by decide +kernel
theorem dX11_next0_111 : decode cX11_next0 111 = .ok (.invokestatic 147, 3) := by decide +kernel
theorem dX11_next0_114 : decode cX11_next0 114 = .ok (.ifCond .eq 7, 3) := by decide +kernel
theorem dX11_next0_117 : decode cX11_next0 117 = .ok (.iconst 1, 1) := by decide +kernel
theorem dX11_next0_118 : decode cX11_next0 118 = .ok (.goto 4, 3) := by decide +kernel
theorem dX11_next0_121 : decode cX11_next0 121 = .ok (.iconst 0, 1) := by decide +kernel
theorem dX11_next0_122 : decode cX11_next0 122 = .ok (.istore_n 3, 1) := by decide +kernel
theorem dX11_next0_123 : decode cX11_next0 123 = .ok (.iload_n 2, 1) := by decide +kernel
theorem dX11_next0_124 : decode cX11_next0 124 = .ok (.bipush 7, 2) := by decide +kernel
theorem dX11_next0_126 : decode cX11_next0 126 = .ok (.if_icmp .ge 24, 3) := by decide +kernel
theorem dX11_next0_129 : decode cX11_next0 129 = .ok (.aload_n 0, 1) := by decide +kernel
theorem dX11_next0_130 : decode cX11_next0 130 = .ok (.aload_n 0, 1) := by decide +kernel
theorem dX11_next0_131 : decode cX11_next0 131 = .ok (.getfield 178, 3) := by decide +kernel
theorem dX11_next0_134 : decode cX11_next0 134 = .ok (.bipush 8, 2) := by decide +kernel
theorem dX11_next0_136 : decode cX11_next0 136 = .ok (.lshl, 1) := by decide +kernel
theorem dX11_next0_137 : decode cX11_next0 137 = .ok (.aload_n 0, 1) := by decide +kernel
theorem dX11_next0_138 : decode cX11_next0 138 = .ok (.aload_n 0, 1) := by decide +kernel
theorem dX11_next0_139 : decode cX11_next0 139 = .ok (.getfield 162, 3) := by decide +kernel
theorem dX11_next0_142 : decode cX11_next0 142 = .ok (.invokevirtual 165, 3) := by decide +kernel
theorem dX11_next0_145 : decode cX11_next0 145 = .ok (.i2l, 1) := by decide +kernel
theorem dX11_next0_146 : decode cX11_next0 146 = .ok (.lor, 1) := by decide +kernel
theorem dX11_next0_147 : decode cX11_next0 147 = .ok (.putfield 178, 3) := by decide +kernel
theorem dX11_next0_150 : decode cX11_next0 150 = .ok (.iinc 2 1, 3) := by decide +kernel
theorem dX11_next0_153 : decode cX11_next0 153 = .ok (.aload_n 0, 1) := by decide +kernel
theorem dX11_next0_154 : decode cX11_next0 154 = .ok (.dup, 1) := by decide +kernel
theorem dX11_next0_155 : decode cX11_next0 155 = .ok (.getfield 162, 3) := by decide +kernel
theorem dX11_next0_158 : decode cX11_next0 158 = .ok (.iconst 1, 1) := by decide +kernel
theorem dX11_next0_159 : decode cX11_next0 159 = .ok (.iadd, 1) := by decide +kernel
theorem dX11_next0_160 : decode cX11_next0 160 = .ok (.putfield 162, 3) := by decide +kernel
theorem dX11_next0_163 : decode cX11_next0 163 = .ok (.goto (-78), 3) := by decide +kernel
theorem dX11_next0_166 : decode cX11_next0 166 = .ok (.aload_n 0, 1) := by decide +kernel
theorem dX11_next0_167 : decode cX11_next0 167 = .ok (.iload_n 2, 1) := by decide +kernel
theorem dX11_next0_168 : decode cX11_next0 168 = .ok (.bipush 7, 2) := by decide +kernel
theorem dX11_next0_170 : decode cX11_next0 170 = .ok (.if_icmp .ge 17, 3) := by decide +kernel
theorem dX11_next0_173 : decode cX11_next0 173 = .ok (.iload_n 3, 1) := by decide +kernel
theorem dX11_next0_174 : decode cX11_next0 174 = .ok (.ifCond .eq 13, 3) := by decide +kernel
theorem dX11_next0_177 : decode cX11_next0 177 = .ok (.aload_n 0, 1) := by decide +kernel
theorem dX11_next0_178 : decode cX11_next0 178 = .ok (.getfield 178, 3) := by decide +kernel
theorem dX11_next0_181 : decode cX11_next0 181 = .ok (.invokestatic 182, 3) := by decide +kernel
theorem dX11_next0_184 : decode cX11_next0 184 = .ok (.goto 4, 3) := by decide +kernel
theorem dX11_next0_187 : decode cX11_next0 187 = .ok (.iconst 1, 1) := by decide +kernel
theorem dX11_next0_188 : decode cX11_next0 188 = .ok (.putfield 172, 3) := by decide +kernel
theorem dX11_next0_191 : decode cX11_next0 191 = .ok (.goto 133, 3) := by decide +kernel
theorem dX11_next0_194 : decode cX11_next0 194 = .ok (.iload_n 1, 1) := by decide +kernel
theorem dX11_next0_195 : decode cX11_next0 195 = .ok (.invokestatic 186, 3) := by decide +kernel
theorem dX11_next0_198 : decode cX11_next0 198 = .ok (.ifCond .eq 83, 3) := by decide +kernel
theorem dX11_next0_201 : decode cX11_next0 201 = .ok (.aload_n 0, 1) := by decide +kernel
theorem dX11_next0_202 : decode cX11_next0 202 = .ok (.iconst 0, 1) := by decide +kernel
theorem dX11_next0_203 : decode cX11_next0 203 = .ok (.putfield 189, 3) := by decide +kernel
theorem dX11_next0_206 : decode cX11_next0 206 = .ok (.aload_n 0, 1) := by decide +kernel
theorem dX11_next0_207 : decode cX11_next0 207 = .ok (.aload_n 0, 1) := by decide +kernel
theorem dX11_next0_208 : decode cX11_next0 208 = .ok (.getfield 162, 3) := by decide +kernel
theorem dX11_next0_211 : decode cX11_next0 211 = .ok (.invokevirtual 165, 3) := by decide +kernel
theorem dX11_next0_214 : decode cX11_next0 214 = .ok (.invokestatic 186, 3) := by decide +kernel
theorem dX11_next0_217 : decode cX11_next0 217 = .ok (.ifCond .eq 47, 3) := by decide +kernel
theorem dX11_next0_220 : decode cX11_next0 220 = .ok (.iload_n 2, 1) := by decide +kernel
theorem dX11_next0_221 : decode cX11_next0 221 = .ok (.iconst 2, 1) := by decide +kernel
theorem dX11_next0_222 : decode cX11_next0 222 = .ok (.if_icmp .ge 26, 3) := by decide +kernel
theorem dX11_next0_225 : decode cX11_next0 225 = .ok (.aload_n 0, 1) := by decide +kernel
theorem dX11_next0_226 : decode cX11_next0 226 = .ok (.bipush 10, 2) := by decide +kernel
theorem dX11_next0_228 : decode cX11_next0 228 = .ok (.aload_n 0, 1) := by decide +kernel
theorem dX11_next0_229 : decode cX11_next0 229 = .ok (.getfield 189, 3) := by decide +kernel
theorem dX11_next0_232 : decode cX11_next0 232 = .ok (.imul, 1) := by decide +kernel
theorem dX11_next0_233 : decode cX11_next0 233 = .ok (.aload_n 0, 1) := by decide +kernel
theorem dX11_next0_234 : decode cX11_next0 234 = .ok (.aload_n 0, 1) := by decide +kernel
theorem dX11_next0_235 : decode cX11_next0 235 = .ok (.getfield 162, 3) := by decide +kernel
theorem dX11_next0_238 : decode cX11_next0 238 = .ok (.invokevirtual 165, 3) := by decide +kernel
theorem dX11_next0_241 : decode cX11_next0 241 = .ok (.iadd, 1) := by decide +kernel
theorem dX11_next0_242 : decode cX11_next0 242 = .ok (.bipush 48, 2) := by decide +kernel
theorem dX11_next0_244 : decode cX11_next0 244 = .ok (.isub, 1) := by decide +kernel
theorem dX11_next0_245 : decode cX11_next0 245 = .ok (.putfield 189, 3) := by decide +kernel
theorem dX11_next0_248 : decode cX11_next0 248 = .ok (.iinc 2 1, 3) := by decide +kernel
theorem dX11_next0_251 : decode cX11_next0 251 = .ok (.aload_n 0, 1) := by decide +kernel
theorem dX11_next0_252 : decode cX11_next0 252 = .ok (.dup, 1) := by decide +kernel
theorem dX11_next0_253 : decode cX11_next0 253 = .ok (.getfield 162, 3) := by decide +kernel
theorem dX11_next0_256 : decode cX11_next0 256 = .ok (.iconst 1, 1) := by decide +kernel
theorem dX11_next0_257 : decode cX11_next0 257 = .ok (.iadd, 1) := by decide +kernel
theorem dX11_next0_258 : decode cX11_next0 258 = .ok (.putfield 162, 3) := by decide +kernel
theorem dX11_next0_261 : decode cX11_next0 261 = .ok (.goto (-55), 3) := by decide +kernel
theorem dX11_next0_264 : decode cX11_next0 264 = .ok (.aload_n 0, 1) := by decide +kernel
theorem dX11_next0_265 : decode cX11_next0 265 = .ok (.iload_n 2, 1) := by decide +kernel
theorem dX11_next0_266 : decode cX11_next0 266 = .ok (.iconst 3, 1) := by decide +kernel
theorem dX11_next0_267 : decode cX11_next0 267 = .ok (.if_icmp .ge 7, 3) := by decide +kernel
theorem dX11_next0_270 : decode cX11_next0 270 = .ok (.iconst 3, 1) := by decide +kernel
theorem dX11_next0_271 : decode cX11_next0 271 = .ok (.goto 4, 3) := by decide +kernel
theorem dX11_next0_274 : decode cX11_next0 274 = .ok (.iconst 1, 1) := by decide +kernel
theorem dX11_next0_275 : decode cX11_next0 275 = .ok (.putfield 172, 3) := by decide +kernel
theorem dX11_next0_278 : decode cX11_next0 278 = .ok (.goto 46, 3) := by decide +kernel
theorem dX11_next0_281 : decode cX11_next0 281 = .ok (.aload_n 0, 1) := by decide +kernel
theorem dX11_next0_282 : decode cX11_next0 282 = .ok (.dup, 1) := by decide +kernel
theorem dX11_next0_283 : decode cX11_next0 283 = .ok (.getfield 162, 3) := by decide +kernel
theorem dX11_next0_286 : decode cX11_next0 286 = .ok (.iconst 1, 1) := by decide +kernel
theorem dX11_next0_287 : decode cX11_next0 287 = .ok (.iadd, 1) := by decide +kernel
theorem dX11_next0_288 : decode cX11_next0 288 = .ok (.putfield 162, 3) := by decide +kernel
theorem dX11_next0_291 : decode cX11_next0 291 = .ok (.aload_n 0, 1) := by decide +kernel
theorem dX11_next0_292 : decode cX11_next0 292 = .ok (.iload_n 1, 1) := by decide +kernel
theorem dX11_next0_293 : decode cX11_next0 293 = .ok (.bipush 58, 2) := by decide +kernel
theorem dX11_next0_295 : decode cX11_next0 295 = .ok (.if_icmp .eq 21, 3) := by decide +kernel
theorem dX11_next0_298 : decode cX11_next0 298 = .ok (.iload_n 1, 1) := by decide +kernel
theorem dX11_next0_299 : decode cX11_next0 299 = .ok (.bipush 59, 2) := by decide +kernel
theorem dX11_next0_301 : decode cX11_next0 301 = .ok (.if_icmp .eq 15, 3) := by decide +kernel
theorem dX11_next0_304 : decode cX11_next0 304 = .ok (.iload_n 1, 1) := by decide +kernel
theorem dX11_next0_305 : decode cX11_next0 305 = .ok (.bipush 40, 2) := by decide +kernel
theorem dX11_next0_307 : decode cX11_next0 307 = .ok (.if_icmp .eq 9, 3) := by decide +kernel
theorem dX11_next0_310 : decode cX11_next0 310 = .ok (.iload_n 1, 1) := by decide +kernel
theorem dX11_next0_311 : decode cX11_next0 311 = .ok (.bipush 41, 2) := by decide +kernel
theorem dX11_next0_313 : decode cX11_next0 313 = .ok (.if_icmp .ne 7, 3) := by decide +kernel
theorem dX11_next0_316 : decode cX11_next0 316 = .ok (.iload_n 1, 1) := by decide +kernel
theorem dX11_next0_317 : decode cX11_next0 317 = .ok (.goto 4, 3) := by decide +kernel
theorem dX11_next0_320 : decode cX11_next0 320 = .ok (.iconst 1, 1) := by decide +kernel
theorem dX11_next0_321 : decode cX11_next0 321 = .ok (.putfield 172, 3) := by decide +kernel
theorem dX11_next0_324 : decode cX11_next0 324 = .ok (.return_, 1) := by decide +kernel
theorem dX11_bad_0 : decode cX11_bad 0 = .ok (.aload_n 0, 1) := by decide +kernel
theorem dX11_bad_1 : decode cX11_bad 1 = .ok (.iload_n 1, 1) := by decide +kernel
theorem dX11_bad_2 : decode cX11_bad 2 = .ok (.putfield 192, 3) := by decide +kernel
theorem dX11_bad_5 : decode cX11_bad 5 = .ok (.aload_n 0, 1) := by decide +kernel
theorem dX11_bad_6 : decode cX11_bad 6 = .ok (.aload_n 0, 1) := by decide +kernel
theorem dX11_bad_7 : decode cX11_bad 7 = .ok (.getfield 169, 3) := by decide +kernel
theorem dX11_bad_10 : decode cX11_bad 10 = .ok (.putfield 195, 3) := by decide +kernel
theorem dX11_bad_13 : decode cX11_bad 13 = .ok (.iconst 0, 1) := by decide +kernel
theorem dX11_bad_14 : decode cX11_bad 14 = .ok (.ireturn, 1) := by decide +kernel
set_option maxRecDepth 20000 in
theorem ggX11_need_X11_bad : GoodIn wsX11_need wsX11_bad := goodIn_r _ [6, 7, 8, 9, 44, 45, 46, 47, 48, 49, 50, 51, 52, 53, 54, 55, 56, 57, 58, 59, 60, 61, 62, 63, 64, 65, 66, 67, 68, 69, 70, 71, 72, 73, 74, 75, 76, 77, 78, 79, 80, 81, 82, 83, 84, 85, 86, 87, 88, 89, 90, 91, 92, 93, 94, 95, 96, 97, 98, 99, 100, 101, 102, 103, 104] (by decide +kernel) (by decide +kernel)
set_option maxRecDepth 20000 in
theorem gX11_need_X11_bad : GoodIn wsX11_need (wsV RX11 198 RX11 yX11_bad wsX11_bad) := goodIn_app (goodIn_of _ (by decide +kernel)) ggX11_need_X11_bad
set_option maxRecDepth 20000 in
theorem ggX11_need_X11_next0 : GoodIn wsX11_need wsX11_next0 := goodIn_r _ [13, 14, 8, 1, 15, 16, 17, 18, 19, 5, 20, 21, 22, 23, 24, 25, 26, 27, 28, 29, 30, 31, 32, 33, 34, 35, 36, 37, 38, 39, 40, 41, 42, 43, 44, 45, 46, 47, 48, 49, 50, 51, 52, 53, 54, 55, 56, 57, 58, 59, 60, 61, 62, 63, 64, 65, 66, 67, 68, 69, 70, 71, 72, 73, 74, 75, 76, 77, 78, 79, 80, 81, 82, 83, 84, 85, 86, 87, 88, 89, 90, 91, 92, 93, 94, 95, 96, 97, 98, 99, 100, 101, 102, 103, 104] (by decide +kernel) (by decide +kernel)
set_option maxRecDepth 20000 in
theorem gX11_need_X11_next0 : GoodIn wsX11_need (wsV RX11 201 RX11 yX11_next0 wsX11_next0) := goodIn_app (goodIn_of _ (by decide +kernel)) ggX11_need_X11_next0
theorem dX11_need_0 : decode cX11_need 0 = .ok (.aload_n 0, 1) := by decide +kernel
theorem dX11_need_1 : decode cX11_need 1 = .ok (.getfield 172, 3) := by decide +kernel
theorem dX11_need_4 : decode cX11_need 4 = .ok (.iload_n 1, 1) := by decide +kernel
theorem dX11_need_5 : decode cX11_need 5 = .ok (.if_icmp .eq 9, 3) := by decide +kernel
theorem dX11_need_8 : decode cX11_need 8 = .ok (.aload_n 0, 1) := by decide +kernel
theorem dX11_need_9 : decode cX11_need 9 = .ok (.iconst 1, 1) := by decide +kernel
theorem dX11_need_10 : decode cX11_need 10 = .ok (.invokevirtual 198, 3) := by decide +kernel
theorem dX11_need_13 : decode cX11_need 13 = .ok (.ireturn, 1) := by decide +kernel
theorem dX11_need_14 : decode cX11_need 14 = .ok (.aload_n 0, 1) := by decide +kernel
theorem dX11_need_15 : decode cX11_need 15 = .ok (.invokevirtual 201, 3) := by decide +kernel
theorem dX11_need_18 : decode cX11_need 18 = .ok (.iconst 1, 1) := by decide +kernel
theorem dX11_need_19 : decode cX11_need 19 = .ok (.ireturn, 1) := by decide +kernel
set_option maxRecDepth 20000 in
theorem ggX11_number_X11_bad : GoodIn wsX11_number wsX11_bad := goodIn_r _ [8, 9, 10, 11, 45, 46, 47, 48, 49, 50, 51, 52, 53, 54, 55, 56, 57, 58, 59, 60, 61, 62, 63, 64, 65, 66, 67, 68, 69, 70, 71, 72, 73, 74, 75, 76, 77, 78, 79, 80, 81, 82, 83, 84, 85, 86, 87, 88, 89, 90, 91, 92, 93, 94, 95, 96, 97, 98, 99, 100, 101, 102, 103, 104, 105] (by decide +kernel) (by decide +kernel)
set_option maxRecDepth 20000 in
theorem gX11_number_X11_bad : GoodIn wsX11_number (wsV RX11 198 RX11 yX11_bad wsX11_bad) := goodIn_app (goodIn_of _ (by decide +kernel)) ggX11_number_X11_bad
set_option maxRecDepth 20000 in
theorem ggX11_number_X11_isIn : GoodIn wsX11_number wsX11_isIn := goodIn_r _ [14] (by decide +kernel) (by decide +kernel)
set_option maxRecDepth 20000 in
theorem gX11_number_X11_isIn : GoodIn wsX11_number (va_wsS RX11 136 yX11_isIn wsX11_isIn) := goodIn_app (goodIn_of _ (by decide +kernel)) ggX11_number_X11_isIn
set_option maxRecDepth 20000 in
theorem ggX11_number_X11_next0 : GoodIn wsX11_number wsX11_next0 := goodIn_r _ [18, 19, 10, 1, 20, 2, 21, 22, 23, 7, 24, 25, 26, 27, 28, 29, 30, 31, 32, 12, 13, 14, 33, 34, 35, 36, 37, 38, 39, 40, 41, 42, 43, 44, 45, 46, 47, 48, 49, 50, 51, 52, 53, 54, 55, 56, 57, 58, 59, 60, 61, 62, 63, 64, 65, 66, 67, 68, 69, 70, 71, 72, 73, 74, 75, 76, 77, 78, 79, 80, 81, 82, 83, 84, 85, 86, 87, 88, 89, 90, 91, 92, 93, 94, 95, 96, 97, 98, 99, 100, 101, 102, 103, 104, 105] (by decide +kernel) (by decide +kernel)
set_option maxRecDepth 20000 in
theorem gX11_number_X11_next0 : GoodIn wsX11_number (wsV RX11 201 RX11 yX11_next0 wsX11_next0) := goodIn_app (goodIn_of _ (by decide +kernel)) ggX11_number_X11_next0
theorem dX11_number_0 : decode cX11_number 0 = .ok (.aload_n 0, 1) := by decide +kernel
theorem dX11_number_1 : decode cX11_number 1 = .ok (.getfield 172, 3) := by decide +kernel
theorem dX11_number_4 : decode cX11_number 4 = .ok (.iconst 3, 1) := by decide +kernel
theorem dX11_number_5 : decode cX11_number 5 = .ok (.if_icmp .eq 9, 3) := by decide +kernel
theorem dX11_number_8 : decode cX11_number 8 = .ok (.aload_n 0, 1) := by decide +kernel
theorem dX11_number_9 : decode cX11_number 9 = .ok (.iconst 1, 1) := by decide +kernel
theorem dX11_number_10 : decode cX11_number 10 = .ok (.invokevirtual 198, 3) := by decide +kernel
theorem dX11_number_13 : decode cX11_number 13 = .ok (.ireturn, 1) := by decide +kernel
theorem dX11_number_14 : decode cX11_number 14 = .ok (.aload_n 0, 1) := by decide +kernel
theorem dX11_number_15 : decode cX11_number 15 = .ok (.getfield 189, 3) := by decide +kernel
theorem dX11_number_18 : decode cX11_number 18 = .ok (.iload_n 1, 1) := by decide +kernel
theorem dX11_number_19 : decode cX11_number 19 = .ok (.iload_n 2, 1) := by decide +kernel
theorem dX11_number_20 : decode cX11_number 20 = .ok (.invokestatic 136, 3) := by decide +kernel
theorem dX11_number_23 : decode cX11_number 23 = .ok (.ifCond .ne 9, 3) := by decide +kernel
theorem dX11_number_26 : decode cX11_number 26 = .ok (.aload_n 0, 1) := by decide +kernel
theorem dX11_number_27 : decode cX11_number 27 = .ok (.iconst 3, 1) := by decide +kernel
theorem dX11_number_28 : decode cX11_number 28 = .ok (.invokevirtual 198, 3) := by decide +kernel
theorem dX11_number_31 : decode cX11_number 31 = .ok (.ireturn, 1) := by decide +kernel
theorem dX11_number_32 : decode cX11_number 32 = .ok (.aload_n 0, 1) := by decide +kernel
theorem dX11_number_33 : decode cX11_number 33 = .ok (.aload_n 0, 1) := by decide +kernel
theorem dX11_number_34 : decode cX11_number 34 = .ok (.getfield 189, 3) := by decide +kernel
theorem dX11_number_37 : decode cX11_number 37 = .ok (.putfield 204, 3) := by decide +kernel
theorem dX11_number_40 : decode cX11_number 40 = .ok (.aload_n 0, 1) := by decide +kernel
theorem dX11_number_41 : decode cX11_number 41 = .ok (.invokevirtual 201, 3) := by decide +kernel
theorem dX11_number_44 : decode cX11_number 44 = .ok (.iconst 1, 1) := by decide +kernel
theorem dX11_number_45 : decode cX11_number 45 = .ok (.ireturn, 1) := by decide +kernel
theorem dX11_isThere_0 : decode cX11_isThere 0 = .ok (.iconst 0, 1) := by decide +kernel
theorem dX11_isThere_1 : decode cX11_isThere 1 = .ok (.istore_n 1, 1) := by decide +kernel
theorem dX11_isThere_2 : decode cX11_isThere 2 = .ok (.iconst 0, 1) := by decide +kernel
theorem dX11_isThere_3 : decode cX11_isThere 3 = .ok (.istore_n 2, 1) := by decide +kernel
theorem dX11_isThere_4 : decode cX11_isThere 4 = .ok (.iload_n 2, 1) := by decide +kernel
theorem dX11_isThere_5 : decode cX11_isThere 5 = .ok (.aload_n 0, 1) := by decide +kernel
theorem dX11_isThere_6 : decode cX11_isThere 6 = .ok (.getfield 207, 3) := by decide +kernel
theorem dX11_isThere_9 : decode cX11_isThere 9 = .ok (.if_icmp .ge 33, 3) := by decide +kernel
theorem dX11_isThere_12 : decode cX11_isThere 12 = .ok (.iload_n 1, 1) := by decide +kernel
theorem dX11_isThere_13 : decode cX11_isThere 13 = .ok (.ifCond .ne 17, 3) := by decide +kernel
theorem dX11_isThere_16 : decode cX11_isThere 16 = .ok (.aload_n 0, 1) := by decide +kernel
theorem dX11_isThere_17 : decode cX11_isThere 17 = .ok (.getfield 32, 3) := by decide +kernel
theorem dX11_isThere_20 : decode cX11_isThere 20 = .ok (.iload_n 2, 1) := by decide +kernel
theorem dX11_isThere_21 : decode cX11_isThere 21 = .ok (.laload, 1) := by decide +kernel
theorem dX11_isThere_22 : decode cX11_isThere 22 = .ok (.aload_n 0, 1) := by decide +kernel
theorem dX11_isThere_23 : decode cX11_isThere 23 = .ok (.getfield 178, 3) := by decide +kernel
theorem dX11_isThere_26 : decode cX11_isThere 26 = .ok (.lcmp, 1) := by decide +kernel
theorem dX11_isThere_27 : decode cX11_isThere 27 = .ok (.ifCond .ne 7, 3) := by decide +kernel
theorem dX11_isThere_30 : decode cX11_isThere 30 = .ok (.iconst 1, 1) := by decide +kernel
theorem dX11_isThere_31 : decode cX11_isThere 31 = .ok (.goto 4, 3) := by decide +kernel
theorem dX11_isThere_34 : decode cX11_isThere 34 = .ok (.iconst 0, 1) := by decide +kernel
theorem dX11_isThere_35 : decode cX11_isThere 35 = .ok (.istore_n 1, 1) := by decide +kernel
theorem dX11_isThere_36 : decode cX11_isThere 36 = .ok (.iinc 2 1, 3) := by decide +kernel
theorem dX11_isThere_39 : decode cX11_isThere 39 = .ok (.goto (-35), 3) := by decide +kernel
theorem dX11_isThere_42 : decode cX11_isThere 42 = .ok (.iconst 0, 1) := by decide +kernel
theorem dX11_isThere_43 : decode cX11_isThere 43 = .ok (.istore_n 2, 1) := by decide +kernel
theorem dX11_isThere_44 : decode cX11_isThere 44 = .ok (.iload_n 2, 1) := by decide +kernel
theorem dX11_isThere_45 : decode cX11_isThere 45 = .ok (.aload_n 0, 1) := by decide +kernel
theorem dX11_isThere_46 : decode cX11_isThere 46 = .ok (.getfield 210, 3) := by decide +kernel
theorem dX11_isThere_49 : decode cX11_isThere 49 = .ok (.if_icmp .ge 33, 3) := by decide +kernel
theorem dX11_isThere_52 : decode cX11_isThere 52 = .ok (.iload_n 1, 1) := by decide +kernel
theorem dX11_isThere_53 : decode cX11_isThere 53 = .ok (.ifCond .ne 17, 3) := by decide +kernel
theorem dX11_isThere_56 : decode cX11_isThere 56 = .ok (.aload_n 0, 1) := by decide +kernel
theorem dX11_isThere_57 : decode cX11_isThere 57 = .ok (.getfield 36, 3) := by decide +kernel
theorem dX11_isThere_60 : decode cX11_isThere 60 = .ok (.iload_n 2, 1) := by decide +kernel
theorem dX11_isThere_61 : decode cX11_isThere 61 = .ok (.laload, 1) := by decide +kernel
theorem dX11_isThere_62 : decode cX11_isThere 62 = .ok (.aload_n 0, 1) := by decide +kernel
theorem dX11_isThere_63 : decode cX11_isThere 63 = .ok (.getfield 178, 3) := by decide +kernel
theorem dX11_isThere_66 : decode cX11_isThere 66 = .ok (.lcmp, 1) := by decide +kernel
theorem dX11_isThere_67 : decode cX11_isThere 67 = .ok (.ifCond .ne 7, 3) := by decide +kernel
theorem dX11_isThere_70 : decode cX11_isThere 70 = .ok (.iconst 1, 1) := by decide +kernel
theorem dX11_isThere_71 : decode cX11_isThere 71 = .ok (.goto 4, 3) := by decide +kernel
theorem dX11_isThere_74 : decode cX11_isThere 74 = .ok (.iconst 0, 1) := by decide +kernel
theorem dX11_isThere_75 : decode cX11_isThere 75 = .ok (.istore_n 1, 1) := by decide +kernel
theorem dX11_isThere_76 : decode cX11_isThere 76 = .ok (.iinc 2 1, 3) := by decide +kernel
theorem dX11_isThere_79 : decode cX11_isThere 79 = .ok (.goto (-35), 3) := by decide +kernel
theorem dX11_isThere_82 : decode cX11_isThere 82 = .ok (.iload_n 1, 1) := by decide +kernel
theorem dX11_isThere_83 : decode cX11_isThere 83 = .ok (.ireturn, 1) := by decide +kernel
set_option maxRecDepth 20000 in
theorem ggX11_aCure_X11_bad : GoodIn wsX11_aCure wsX11_bad := goodIn_r _ [14, 15, 16, 17, 64, 65, 66, 67, 68, 69, 70, 71, 72, 73, 74, 75, 76, 77, 78, 79, 80, 81, 82, 83, 84, 85, 86, 87, 88, 89, 90, 91, 92, 93, 94, 95, 96, 97, 98, 99, 100, 101, 102, 103, 104, 105, 106, 107, 108, 109, 110, 111, 112, 113, 114, 115, 116, 117, 118, 119, 120, 121, 122, 123, 124] (by decide +kernel) (by decide +kernel)
set_option maxRecDepth 20000 in
theorem gX11_aCure_X11_bad : GoodIn wsX11_aCure (wsV RX11 198 RX11 yX11_bad wsX11_bad) := goodIn_app (goodIn_of _ (by decide +kernel)) ggX11_aCure_X11_bad
set_option maxRecDepth 20000 in
theorem ggX11_aCure_X11_next0 : GoodIn wsX11_aCure wsX11_next0 := goodIn_r _ [21, 22, 16, 1, 5, 23, 24, 25, 26, 13, 27, 28, 29, 30, 31, 32, 33, 34, 35, 36, 37, 38, 39, 40, 41, 42, 43, 44, 45, 46, 47, 48, 49, 50, 64, 65, 66, 67, 68, 69, 70, 71, 72, 73, 74, 75, 76, 77, 78, 79, 80, 81, 82, 83, 84, 85, 86, 87, 88, 89, 90, 91, 92, 93, 94, 95, 96, 97, 98, 99, 100, 101, 102, 103, 104, 105, 106, 107, 108, 109, 110, 111, 112, 113, 114, 115, 116, 117, 118, 119, 120, 121, 122, 123, 124] (by decide +kernel) (by decide +kernel)
set_option maxRecDepth 20000 in
theorem gX11_aCure_X11_next0 : GoodIn wsX11_aCure (wsV RX11 201 RX11 yX11_next0 wsX11_next0) := goodIn_app (goodIn_of _ (by decide +kernel)) ggX11_aCure_X11_next0
set_option maxRecDepth 20000 in
theorem ggX11_aCure_X11_isThere : GoodIn wsX11_aCure wsX11_isThere := goodIn_r _ [54, 3, 55, 5, 2, 4, 64, 65, 66, 67, 68, 69, 70, 71, 72, 73, 74, 75, 76, 77, 78, 79, 80, 81, 82, 83, 84, 85, 86, 87, 88, 89, 90, 91, 92, 93, 94, 95, 96, 97, 98, 99, 100, 101, 102, 103, 104, 105, 106, 107, 108, 109, 110, 111, 112, 113, 114, 115, 116, 117, 118, 119, 120, 121, 122, 123, 124] (by decide +kernel) (by decide +kernel)
set_option maxRecDepth 20000 in
theorem gX11_aCure_X11_isThere : GoodIn wsX11_aCure (wsV RX11 213 RX11 yX11_isThere wsX11_isThere) := goodIn_app (goodIn_of _ (by decide +kernel)) ggX11_aCure_X11_isThere
set_option maxRecDepth 20000 in
theorem ggX11_aCure_X11_need : GoodIn wsX11_aCure wsX11_need := goodIn_r _ [59, 1, 10, 11, 12, 13, 14, 15, 16, 17, 18, 19, 20, 21, 22, 5, 23, 24, 25, 26, 27, 28, 29, 30, 31, 32, 33, 34, 35, 36, 37, 38, 39, 40, 41, 42, 43, 44, 45, 46, 47, 48, 49, 50, 64, 65, 66, 67, 68, 69, 70, 71, 72, 73, 74, 75, 76, 77, 78, 79, 80, 81, 82, 83, 84, 85, 86, 87, 88, 89, 90, 91, 92, 93, 94, 95, 96, 97, 98, 99, 100, 101, 102, 103, 104, 105, 106, 107, 108, 109, 110, 111, 112, 113, 114, 115, 116, 117, 118, 119, 120, 121, 122, 123, 124] (by decide +kernel) (by decide +kernel)
set_option maxRecDepth 20000 in
theorem gX11_aCure_X11_need : GoodIn wsX11_aCure (wsV RX11 217 RX11 yX11_need wsX11_need) := goodIn_app (goodIn_of _ (by decide +kernel)) ggX11_aCure_X11_need
set_option maxRecDepth 20000 in
theorem ggX11_aCure_X11_number : GoodIn wsX11_aCure wsX11_number := goodIn_r _ [63, 1, 23, 9, 10, 11, 12, 13, 14, 15, 16, 17, 36, 37, 38, 18, 19, 20, 21, 22, 5, 24, 25, 26, 27, 28, 29, 30, 31, 32, 33, 34, 35, 39, 40, 41, 42, 43, 44, 45, 46, 47, 48, 49, 50, 64, 65, 66, 67, 68, 69, 70, 71, 72, 73, 74, 75, 76, 77, 78, 79, 80, 81, 82, 83, 84, 85, 86, 87, 88, 89, 90, 91, 92, 93, 94, 95, 96, 97, 98, 99, 100, 101, 102, 103, 104, 105, 106, 107, 108, 109, 110, 111, 112, 113, 114, 115, 116, 117, 118, 119, 120, 121, 122, 123, 124] (by decide +kernel) (by decide +kernel)
set_option maxRecDepth 20000 in
theorem gX11_aCure_X11_number : GoodIn wsX11_aCure (wsV RX11 220 RX11 yX11_number wsX11_number) := goodIn_app (goodIn_of _ (by decide +kernel)) ggX11_aCure_X11_number
theorem dX11_aCure_0 : decode cX11_aCure 0 = .ok (.aload_n 0, 1) := by decide +kernel
theorem dX11_aCure_1 : decode cX11_aCure 1 = .ok (.getfield 172, 3) := by decide +kernel
theorem dX11_aCure_4 : decode cX11_aCure 4 = .ok (.iconst 4, 1) := by decide +kernel
theorem dX11_aCure_5 : decode cX11_aCure 5 = .ok (.if_icmp .eq 9, 3) := by decide +kernel
theorem dX11_aCure_8 : decode cX11_aCure 8 = .ok (.aload_n 0, 1) := by decide +kernel
theorem dX11_aCure_9 : decode cX11_aCure 9 = .ok (.iconst 1, 1) := by decide +kernel
theorem dX11_aCure_10 : decode cX11_aCure 10 = .ok (.invokevirtual 198, 3) := by decide +kernel
theorem dX11_aCure_13 : decode cX11_aCure 13 = .ok (.ireturn, 1) := by decide +kernel
theorem dX11_aCure_14 : decode cX11_aCure 14 = .ok (.aload_n 0, 1) := by decide +kernel
theorem dX11_aCure_15 : decode cX11_aCure 15 = .ok (.getfield 210, 3) := by decide +kernel
theorem dX11_aCure_18 : decode cX11_aCure 18 = .ok (.istore_n 1, 1) := by decide +kernel
theorem dX11_aCure_19 : decode cX11_aCure 19 = .ok (.aload_n 0, 1) := by decide +kernel
theorem dX11_aCure_20 : decode cX11_aCure 20 = .ok (.getfield 207, 3) := by decide +kernel
theorem dX11_aCure_23 : decode cX11_aCure 23 = .ok (.iload_n 1, 1) := by decide +kernel
theorem dX11_aCure_24 : decode cX11_aCure 24 = .ok (.iadd, 1) := by decide +kernel
theorem dX11_aCure_25 : decode cX11_aCure 25 = .ok (.bipush 8, 2) := by decide +kernel
theorem dX11_aCure_27 : decode cX11_aCure 27 = .ok (.if_icmp .ne 9, 3) := by decide +kernel
theorem dX11_aCure_30 : decode cX11_aCure 30 = .ok (.aload_n 0, 1) := by decide +kernel
theorem dX11_aCure_31 : decode cX11_aCure 31 = .ok (.iconst 4, 1) := by decide +kernel
theorem dX11_aCure_32 : decode cX11_aCure 32 = .ok (.invokevirtual 198, 3) := by decide +kernel
theorem dX11_aCure_35 : decode cX11_aCure 35 = .ok (.ireturn, 1) := by decide +kernel
theorem dX11_aCure_36 : decode cX11_aCure 36 = .ok (.aload_n 0, 1) := by decide +kernel
theorem dX11_aCure_37 : decode cX11_aCure 37 = .ok (.invokevirtual 201, 3) := by decide +kernel
theorem dX11_aCure_40 : decode cX11_aCure 40 = .ok (.aload_n 0, 1) := by decide +kernel
theorem dX11_aCure_41 : decode cX11_aCure 41 = .ok (.getfield 172, 3) := by decide +kernel
theorem dX11_aCure_44 : decode cX11_aCure 44 = .ok (.iconst 2, 1) := by decide +kernel
theorem dX11_aCure_45 : decode cX11_aCure 45 = .ok (.if_icmp .eq 9, 3) := by decide +kernel
theorem dX11_aCure_48 : decode cX11_aCure 48 = .ok (.aload_n 0, 1) := by decide +kernel
theorem dX11_aCure_49 : decode cX11_aCure 49 = .ok (.iconst 1, 1) := by decide +kernel
theorem dX11_aCure_50 : decode cX11_aCure 50 = .ok (.invokevirtual 198, 3) := by decide +kernel
theorem dX11_aCure_53 : decode cX11_aCure 53 = .ok (.ireturn, 1) := by decide +kernel
theorem dX11_aCure_54 : decode cX11_aCure 54 = .ok (.aload_n 0, 1) := by decide +kernel
theorem dX11_aCure_55 : decode cX11_aCure 55 = .ok (.invokevirtual 213, 3) := by decide +kernel
theorem dX11_aCure_58 : decode cX11_aCure 58 = .ok (.ifCond .eq 9, 3) := by decide +kernel
theorem dX11_aCure_61 : decode cX11_aCure 61 = .ok (.aload_n 0, 1) := by decide +kernel
theorem dX11_aCure_62 : decode cX11_aCure 62 = .ok (.iconst 2, 1) := by decide +kernel
theorem dX11_aCure_63 : decode cX11_aCure 63 = .ok (.invokevirtual 198, 3) := by decide +kernel
theorem dX11_aCure_66 : decode cX11_aCure 66 = .ok (.ireturn, 1) := by decide +kernel
theorem dX11_aCure_67 : decode cX11_aCure 67 = .ok (.aload_n 0, 1) := by decide +kernel
theorem dX11_aCure_68 : decode cX11_aCure 68 = .ok (.getfield 36, 3) := by decide +kernel
theorem dX11_aCure_71 : decode cX11_aCure 71 = .ok (.iload_n 1, 1) := by decide +kernel
theorem dX11_aCure_72 : decode cX11_aCure 72 = .ok (.aload_n 0, 1) := by decide +kernel
theorem dX11_aCure_73 : decode cX11_aCure 73 = .ok (.getfield 178, 3) := by decide +kernel
theorem dX11_aCure_76 : decode cX11_aCure 76 = .ok (.lastore, 1) := by decide +kernel
theorem dX11_aCure_77 : decode cX11_aCure 77 = .ok (.aload_n 0, 1) := by decide +kernel
theorem dX11_aCure_78 : decode cX11_aCure 78 = .ok (.getfield 45, 3) := by decide +kernel
theorem dX11_aCure_81 : decode cX11_aCure 81 = .ok (.iload_n 1, 1) := by decide +kernel
theorem dX11_aCure_82 : decode cX11_aCure 82 = .ok (.iconst 0, 1) := by decide +kernel
theorem dX11_aCure_83 : decode cX11_aCure 83 = .ok (.iastore, 1) := by decide +kernel
theorem dX11_aCure_84 : decode cX11_aCure 84 = .ok (.aload_n 0, 1) := by decide +kernel
theorem dX11_aCure_85 : decode cX11_aCure 85 = .ok (.dup, 1) := by decide +kernel
theorem dX11_aCure_86 : decode cX11_aCure 86 = .ok (.getfield 210, 3) := by decide +kernel
theorem dX11_aCure_89 : decode cX11_aCure 89 = .ok (.iconst 1, 1) := by decide +kernel
theorem dX11_aCure_90 : decode cX11_aCure 90 = .ok (.iadd, 1) := by decide +kernel
theorem dX11_aCure_91 : decode cX11_aCure 91 = .ok (.putfield 210, 3) := by decide +kernel
theorem dX11_aCure_94 : decode cX11_aCure 94 = .ok (.aload_n 0, 1) := by decide +kernel
