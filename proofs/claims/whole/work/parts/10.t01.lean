set_option maxRecDepth 100000 in
theorem tw_0 : Cond.selects RX8 yX8_readLetters yX8_readLetters ∈ lw_tbl := List.mem_of_getElem? (i := 0) (by decide +kernel)
set_option maxRecDepth 100000 in
theorem tw_1 : Cond.selects RX8 yX8_wordToken yX8_wordToken ∈ lw_tbl := List.mem_of_getElem? (i := 1) (by decide +kernel)
set_option maxRecDepth 100000 in
theorem tw_2 : Cond.selects RX8 yX8_isWord yX8_isWord ∈ lw_tbl := List.mem_of_getElem? (i := 2) (by decide +kernel)
set_option maxRecDepth 100000 in
theorem tw_3 : Cond.selects RX8 yX8_readDigits yX8_readDigits ∈ lw_tbl := List.mem_of_getElem? (i := 3) (by decide +kernel)
set_option maxRecDepth 100000 in
theorem tw_4 : Cond.selects RX2 yX2_take yX2_take ∈ lw_tbl := List.mem_of_getElem? (i := 4) (by decide +kernel)
set_option maxRecDepth 100000 in
theorem tw_5 : Cond.selects RX2 yX2_takeCure yX2_takeCure ∈ lw_tbl := List.mem_of_getElem? (i := 5) (by decide +kernel)
set_option maxRecDepth 100000 in
theorem tw_6 : Cond.selects RX2 yX2_fail yX2_fail ∈ lw_tbl := List.mem_of_getElem? (i := 6) (by decide +kernel)
set_option maxRecDepth 100000 in
theorem tw_7 : Cond.selects RX2 yX2_takeName yX2_takeName ∈ lw_tbl := List.mem_of_getElem? (i := 7) (by decide +kernel)
set_option maxRecDepth 100000 in
theorem tw_8 : Cond.selects RX2 yX2_isTold yX2_isTold ∈ lw_tbl := List.mem_of_getElem? (i := 8) (by decide +kernel)
set_option maxRecDepth 100000 in
theorem tw_9 : Cond.selects RX2 yX2_takeColon yX2_takeColon ∈ lw_tbl := List.mem_of_getElem? (i := 9) (by decide +kernel)
set_option maxRecDepth 100000 in
theorem tw_10 : Cond.selects RX2 yX2_takeAct yX2_takeAct ∈ lw_tbl := List.mem_of_getElem? (i := 10) (by decide +kernel)
set_option maxRecDepth 100000 in
theorem tw_11 : Cond.selects RX2 yX2_beginAct yX2_beginAct ∈ lw_tbl := List.mem_of_getElem? (i := 11) (by decide +kernel)
set_option maxRecDepth 100000 in
theorem tw_12 : Cond.selects RX2 yX2_takeFirst yX2_takeFirst ∈ lw_tbl := List.mem_of_getElem? (i := 12) (by decide +kernel)
set_option maxRecDepth 100000 in
theorem tw_13 : Cond.selects RX2 yX2_canStand yX2_canStand ∈ lw_tbl := List.mem_of_getElem? (i := 13) (by decide +kernel)
set_option maxRecDepth 100000 in
theorem tw_14 : Cond.selects RX2 yX2_takeSecond yX2_takeSecond ∈ lw_tbl := List.mem_of_getElem? (i := 14) (by decide +kernel)
set_option maxRecDepth 100000 in
theorem tw_15 : Cond.selects RX2 yX2_takeBracket yX2_takeBracket ∈ lw_tbl := List.mem_of_getElem? (i := 15) (by decide +kernel)
set_option maxRecDepth 100000 in
theorem tw_16 : Cond.selects RX10 yX10_isToCome yX10_isToCome ∈ lw_tbl := List.mem_of_getElem? (i := 16) (by decide +kernel)
set_option maxRecDepth 100000 in
theorem tw_17 : Cond.selects RX3 yX3_addAct yX3_addAct ∈ lw_tbl := List.mem_of_getElem? (i := 17) (by decide +kernel)
set_option maxRecDepth 100000 in
theorem tw_18 : Cond.selects RX3 yX3_addGlass yX3_addGlass ∈ lw_tbl := List.mem_of_getElem? (i := 18) (by decide +kernel)
set_option maxRecDepth 100000 in
theorem tw_19 : Cond.selects RX3 yX3_addBath yX3_addBath ∈ lw_tbl := List.mem_of_getElem? (i := 19) (by decide +kernel)
set_option maxRecDepth 100000 in
theorem tw_20 : Cond.selects RX3 yX3_findFree yX3_findFree ∈ lw_tbl := List.mem_of_getElem? (i := 20) (by decide +kernel)
set_option maxRecDepth 100000 in
theorem tw_21 : Cond.selects RX5 yX5_tellAct yX5_tellAct ∈ lw_tbl := List.mem_of_getElem? (i := 21) (by decide +kernel)
set_option maxRecDepth 100000 in
theorem tw_22 : Cond.selects RX1 yX1_listGuests yX1_listGuests ∈ lw_tbl := List.mem_of_getElem? (i := 22) (by decide +kernel)
set_option maxRecDepth 100000 in
theorem tw_23 : Cond.selects RX1 yX1_isHopeless yX1_isHopeless ∈ lw_tbl := List.mem_of_getElem? (i := 23) (by decide +kernel)
set_option maxRecDepth 100000 in
theorem tw_24 : Cond.selects RX1 yX1_keepOrder yX1_keepOrder ∈ lw_tbl := List.mem_of_getElem? (i := 24) (by decide +kernel)
set_option maxRecDepth 100000 in
theorem tw_25 : Cond.selects RX1 yX1_place yX1_place ∈ lw_tbl := List.mem_of_getElem? (i := 25) (by decide +kernel)
set_option maxRecDepth 100000 in
theorem tw_26 : Cond.selects RX1 yX1_unplace yX1_unplace ∈ lw_tbl := List.mem_of_getElem? (i := 26) (by decide +kernel)
set_option maxRecDepth 100000 in
theorem tw_27 : Cond.selects RX10 yX10_countGuests yX10_countGuests ∈ lw_tbl := List.mem_of_getElem? (i := 27) (by decide +kernel)
set_option maxRecDepth 100000 in
theorem tw_28 : Cond.selects RX10 yX10_countWater yX10_countWater ∈ lw_tbl := List.mem_of_getElem? (i := 28) (by decide +kernel)
set_option maxRecDepth 100000 in
theorem tw_29 : Cond.selects RX10 yX10_pourOut yX10_pourOut ∈ lw_tbl := List.mem_of_getElem? (i := 29) (by decide +kernel)
set_option maxRecDepth 100000 in
theorem tw_30 : Cond.selects RX11 yX11_next0 yX11_next0 ∈ lw_tbl := List.mem_of_getElem? (i := 30) (by decide +kernel)
set_option maxRecDepth 100000 in
theorem tw_31 : Cond.selects RX11 yX11_see yX11_see ∈ lw_tbl := List.mem_of_getElem? (i := 31) (by decide +kernel)
set_option maxRecDepth 100000 in
theorem tw_32 : Cond.selects RX11 yX11_aCure yX11_aCure ∈ lw_tbl := List.mem_of_getElem? (i := 32) (by decide +kernel)
set_option maxRecDepth 100000 in
theorem tw_33 : Cond.selects RX11 yX11_bad yX11_bad ∈ lw_tbl := List.mem_of_getElem? (i := 33) (by decide +kernel)
set_option maxRecDepth 100000 in
theorem tw_34 : Cond.selects RX11 yX11_isThere yX11_isThere ∈ lw_tbl := List.mem_of_getElem? (i := 34) (by decide +kernel)
set_option maxRecDepth 100000 in
theorem tw_35 : Cond.selects RX11 yX11_need yX11_need ∈ lw_tbl := List.mem_of_getElem? (i := 35) (by decide +kernel)
set_option maxRecDepth 100000 in
theorem tw_36 : Cond.selects RX11 yX11_number yX11_number ∈ lw_tbl := List.mem_of_getElem? (i := 36) (by decide +kernel)
set_option maxRecDepth 100000 in
theorem tw_37 : Cond.selects RX11 yX11_isHere yX11_isHere ∈ lw_tbl := List.mem_of_getElem? (i := 37) (by decide +kernel)
set_option maxRecDepth 100000 in
theorem tw_38 : Cond.selects RX11 yX11_ranks yX11_ranks ∈ lw_tbl := List.mem_of_getElem? (i := 38) (by decide +kernel)
set_option maxRecDepth 100000 in
theorem tw_39 : Cond.selects RX11 yX11_lays yX11_lays ∈ lw_tbl := List.mem_of_getElem? (i := 39) (by decide +kernel)
set_option maxRecDepth 100000 in
theorem tw_40 : Cond.selects RX11 yX11_clear yX11_clear ∈ lw_tbl := List.mem_of_getElem? (i := 40) (by decide +kernel)
set_option maxRecDepth 100000 in
theorem tw_41 : Cond.selects RX11 yX11_here yX11_here ∈ lw_tbl := List.mem_of_getElem? (i := 41) (by decide +kernel)
set_option maxRecDepth 100000 in
theorem tw_42 : Cond.selects RX11 yX11_goes yX11_goes ∈ lw_tbl := List.mem_of_getElem? (i := 42) (by decide +kernel)
set_option maxRecDepth 100000 in
theorem tw_43 : Cond.selects RX11 yX11_drinks yX11_drinks ∈ lw_tbl := List.mem_of_getElem? (i := 43) (by decide +kernel)
set_option maxRecDepth 100000 in
theorem tw_44 : Cond.selects RX11 yX11_hasGlass yX11_hasGlass ∈ lw_tbl := List.mem_of_getElem? (i := 44) (by decide +kernel)
set_option maxRecDepth 100000 in
theorem tw_45 : Cond.selects RX11 yX11_does yX11_does ∈ lw_tbl := List.mem_of_getElem? (i := 45) (by decide +kernel)
set_option maxRecDepth 100000 in
theorem tw_46 : Cond.selects RX11 yX11_bathes yX11_bathes ∈ lw_tbl := List.mem_of_getElem? (i := 46) (by decide +kernel)
set_option maxRecDepth 100000 in
theorem tw_47 : Cond.selects RX11 yX11_isFree yX11_isFree ∈ lw_tbl := List.mem_of_getElem? (i := 47) (by decide +kernel)
set_option maxRecDepth 100000 in
theorem tw_48 : Cond.selects RX11 yX11_finds yX11_finds ∈ lw_tbl := List.mem_of_getElem? (i := 48) (by decide +kernel)
set_option maxRecDepth 100000 in
theorem tw_49 : Cond.selects RX11 yX11_nextOrder yX11_nextOrder ∈ lw_tbl := List.mem_of_getElem? (i := 49) (by decide +kernel)
set_option maxRecDepth 100000 in
theorem tw_51 : Cond.initialized RX10 ∈ lw_tbl := List.mem_of_getElem? (i := 51) (by decide +kernel)
set_option maxRecDepth 100000 in
theorem tw_52 : Cond.initialized RX9 ∈ lw_tbl := List.mem_of_getElem? (i := 52) (by decide +kernel)
set_option maxRecDepth 100000 in
theorem tw_53 : Cond.initialized RX2 ∈ lw_tbl := List.mem_of_getElem? (i := 53) (by decide +kernel)
set_option maxRecDepth 100000 in
theorem tw_54 : Cond.initialized RX8 ∈ lw_tbl := List.mem_of_getElem? (i := 54) (by decide +kernel)
set_option maxRecDepth 100000 in
theorem tw_55 : Cond.initialized RX6 ∈ lw_tbl := List.mem_of_getElem? (i := 55) (by decide +kernel)
set_option maxRecDepth 100000 in
theorem tw_56 : Cond.initialized RX7 ∈ lw_tbl := List.mem_of_getElem? (i := 56) (by decide +kernel)
set_option maxRecDepth 100000 in
theorem tw_57 : Cond.initialized RX0 ∈ lw_tbl := List.mem_of_getElem? (i := 57) (by decide +kernel)
set_option maxRecDepth 100000 in
theorem tw_58 : Cond.initialized RX4 ∈ lw_tbl := List.mem_of_getElem? (i := 58) (by decide +kernel)
set_option maxRecDepth 100000 in
theorem tw_59 : Cond.initialized RX3 ∈ lw_tbl := List.mem_of_getElem? (i := 59) (by decide +kernel)
set_option maxRecDepth 100000 in
theorem tw_60 : Cond.initialized RX5 ∈ lw_tbl := List.mem_of_getElem? (i := 60) (by decide +kernel)
set_option maxRecDepth 100000 in
theorem tw_61 : Cond.initialized RX1 ∈ lw_tbl := List.mem_of_getElem? (i := 61) (by decide +kernel)
set_option maxRecDepth 100000 in
theorem tw_62 : Cond.initialized RX11 ∈ lw_tbl := List.mem_of_getElem? (i := 62) (by decide +kernel)
set_option maxRecDepth 100000 in
theorem tw_63 : Cond.initialized RJ0 ∈ lw_tbl := List.mem_of_getElem? (i := 63) (by decide +kernel)
set_option maxRecDepth 100000 in
theorem tw_64 : Cond.initialized RJ1 ∈ lw_tbl := List.mem_of_getElem? (i := 64) (by decide +kernel)
set_option maxRecDepth 100000 in
theorem tw_65 : Cond.initialized RJ3 ∈ lw_tbl := List.mem_of_getElem? (i := 65) (by decide +kernel)
set_option maxRecDepth 100000 in
theorem tw_66 : Cond.initialized RJ2 ∈ lw_tbl := List.mem_of_getElem? (i := 66) (by decide +kernel)
set_option maxRecDepth 100000 in
theorem tw_67 : Cond.initialized RJ7 ∈ lw_tbl := List.mem_of_getElem? (i := 67) (by decide +kernel)
set_option maxRecDepth 100000 in
theorem tw_68 : Cond.initialized "java/lang/Math" ∈ lw_tbl := List.mem_of_getElem? (i := 68) (by decide +kernel)
set_option maxRecDepth 100000 in
theorem tw_69 : Cond.initialized "java/lang/System" ∈ lw_tbl := List.mem_of_getElem? (i := 69) (by decide +kernel)
set_option maxRecDepth 100000 in
theorem tw_74 : Cond.code yX10_init cX10_init 1 none ∈ lw_tbl := List.mem_of_getElem? (i := 74) (by decide +kernel)
set_option maxRecDepth 100000 in
theorem tw_75 : Cond.methodLink RX10 1 objectInit ∈ lw_tbl := List.mem_of_getElem? (i := 75) (by decide +kernel)
set_option maxRecDepth 100000 in
theorem tw_76 : Cond.instanceMethod objectInit ∈ lw_tbl := List.mem_of_getElem? (i := 76) (by decide +kernel)
set_option maxRecDepth 100000 in
theorem tw_77 : Cond.code objectInit ⟨#[0xb1]⟩ 1 none ∈ lw_tbl := List.mem_of_getElem? (i := 77) (by decide +kernel)
set_option maxRecDepth 100000 in
theorem tw_78 : Cond.classLink RX10 7 RX9 ∈ lw_tbl := List.mem_of_getElem? (i := 78) (by decide +kernel)
set_option maxRecDepth 100000 in
theorem tw_79 : Cond.instantiable RX9 6 ∈ lw_tbl := List.mem_of_getElem? (i := 79) (by decide +kernel)
set_option maxRecDepth 100000 in
theorem tw_80 : Cond.methodLink RX10 9 yX9_init ∈ lw_tbl := List.mem_of_getElem? (i := 80) (by decide +kernel)
set_option maxRecDepth 100000 in
theorem tw_81 : Cond.instanceMethod yX9_init ∈ lw_tbl := List.mem_of_getElem? (i := 81) (by decide +kernel)
set_option maxRecDepth 100000 in
theorem tw_82 : Cond.code yX9_init cX9_init 2 none ∈ lw_tbl := List.mem_of_getElem? (i := 82) (by decide +kernel)
set_option maxRecDepth 100000 in
theorem tw_83 : Cond.methodLink RX9 3 objectInit ∈ lw_tbl := List.mem_of_getElem? (i := 83) (by decide +kernel)
set_option maxRecDepth 100000 in
theorem tw_84 : Cond.classLink RX9 9 RX7 ∈ lw_tbl := List.mem_of_getElem? (i := 84) (by decide +kernel)
set_option maxRecDepth 100000 in
theorem tw_86 : Cond.classLink RX9 17 RX0 ∈ lw_tbl := List.mem_of_getElem? (i := 86) (by decide +kernel)
set_option maxRecDepth 100000 in
theorem tw_88 : Cond.classLink RX9 23 RX4 ∈ lw_tbl := List.mem_of_getElem? (i := 88) (by decide +kernel)
set_option maxRecDepth 100000 in
theorem tw_90 : Cond.classLink RX9 33 RX2 ∈ lw_tbl := List.mem_of_getElem? (i := 90) (by decide +kernel)
set_option maxRecDepth 100000 in
theorem tw_91 : Cond.instantiable RX2 10 ∈ lw_tbl := List.mem_of_getElem? (i := 91) (by decide +kernel)
set_option maxRecDepth 100000 in
theorem tw_92 : Cond.methodLink RX9 35 yX2_init ∈ lw_tbl := List.mem_of_getElem? (i := 92) (by decide +kernel)
set_option maxRecDepth 100000 in
theorem tw_93 : Cond.instanceMethod yX2_init ∈ lw_tbl := List.mem_of_getElem? (i := 93) (by decide +kernel)
set_option maxRecDepth 100000 in
theorem tw_94 : Cond.code yX2_init cX2_init 2 none ∈ lw_tbl := List.mem_of_getElem? (i := 94) (by decide +kernel)
set_option maxRecDepth 100000 in
theorem tw_95 : Cond.methodLink RX2 3 objectInit ∈ lw_tbl := List.mem_of_getElem? (i := 95) (by decide +kernel)
set_option maxRecDepth 100000 in
theorem tw_96 : Cond.classLink RX2 9 RX8 ∈ lw_tbl := List.mem_of_getElem? (i := 96) (by decide +kernel)
set_option maxRecDepth 100000 in
theorem tw_97 : Cond.instantiable RX8 7 ∈ lw_tbl := List.mem_of_getElem? (i := 97) (by decide +kernel)
set_option maxRecDepth 100000 in
theorem tw_99 : Cond.instanceMethod yX8_init ∈ lw_tbl := List.mem_of_getElem? (i := 99) (by decide +kernel)
set_option maxRecDepth 100000 in
theorem tw_100 : Cond.code yX8_init cX8_init 1 none ∈ lw_tbl := List.mem_of_getElem? (i := 100) (by decide +kernel)
set_option maxRecDepth 100000 in
theorem tw_101 : Cond.methodLink RX8 3 objectInit ∈ lw_tbl := List.mem_of_getElem? (i := 101) (by decide +kernel)
set_option maxRecDepth 100000 in
theorem tw_102 : Cond.fieldLink RX8 9 "CureTown$Tape" "bytes" "[B" ∈ lw_tbl := List.mem_of_getElem? (i := 102) (by decide +kernel)
set_option maxRecDepth 100000 in
theorem tw_103 : Cond.fieldLink RX8 15 "CureTown$Tape" "length" "I" ∈ lw_tbl := List.mem_of_getElem? (i := 103) (by decide +kernel)
set_option maxRecDepth 100000 in
theorem tw_104 : Cond.fieldLink RX2 65 "CureTown$Tape" "length" "I" ∈ lw_tbl := List.mem_of_getElem? (i := 104) (by decide +kernel)
set_option maxRecDepth 100000 in
theorem tw_105 : Cond.fieldLink RX10 92 "CureTown$Tape" "length" "I" ∈ lw_tbl := List.mem_of_getElem? (i := 105) (by decide +kernel)
set_option maxRecDepth 100000 in
theorem tw_106 : Cond.fieldLink RX8 19 "CureTown$Tape" "token" "I" ∈ lw_tbl := List.mem_of_getElem? (i := 106) (by decide +kernel)
set_option maxRecDepth 100000 in
theorem tw_107 : Cond.fieldLink RX2 58 "CureTown$Tape" "token" "I" ∈ lw_tbl := List.mem_of_getElem? (i := 107) (by decide +kernel)
set_option maxRecDepth 100000 in
theorem tw_108 : Cond.fieldLink RX8 22 "CureTown$Tape" "place" "I" ∈ lw_tbl := List.mem_of_getElem? (i := 108) (by decide +kernel)
set_option maxRecDepth 100000 in
theorem tw_109 : Cond.fieldLink RX2 89 "CureTown$Tape" "place" "I" ∈ lw_tbl := List.mem_of_getElem? (i := 109) (by decide +kernel)
set_option maxRecDepth 100000 in
theorem tw_110 : Cond.fieldLink RX8 25 "CureTown$Tape" "behind" "I" ∈ lw_tbl := List.mem_of_getElem? (i := 110) (by decide +kernel)
set_option maxRecDepth 100000 in
theorem tw_111 : Cond.fieldLink RX8 28 "CureTown$Tape" "number" "I" ∈ lw_tbl := List.mem_of_getElem? (i := 111) (by decide +kernel)
set_option maxRecDepth 100000 in
theorem tw_112 : Cond.fieldLink RX2 132 "CureTown$Tape" "number" "I" ∈ lw_tbl := List.mem_of_getElem? (i := 112) (by decide +kernel)
set_option maxRecDepth 100000 in
theorem tw_113 : Cond.fieldLink RX8 31 "CureTown$Tape" "name" "I" ∈ lw_tbl := List.mem_of_getElem? (i := 113) (by decide +kernel)
set_option maxRecDepth 100000 in
theorem tw_114 : Cond.fieldLink RX2 95 "CureTown$Tape" "name" "I" ∈ lw_tbl := List.mem_of_getElem? (i := 114) (by decide +kernel)
set_option maxRecDepth 100000 in
theorem tw_130 : Cond.arrayClass .int ∈ lw_tbl := List.mem_of_getElem? (i := 130) (by decide +kernel)
set_option maxRecDepth 100000 in
theorem tw_131 : Cond.arrayClass .byte ∈ lw_tbl := List.mem_of_getElem? (i := 131) (by decide +kernel)
set_option maxRecDepth 100000 in
theorem tw_132 : Cond.classLink RX2 18 RX6 ∈ lw_tbl := List.mem_of_getElem? (i := 132) (by decide +kernel)
set_option maxRecDepth 100000 in
theorem tw_134 : Cond.instantiable RX6 5 ∈ lw_tbl := List.mem_of_getElem? (i := 134) (by decide +kernel)
set_option maxRecDepth 100000 in
theorem tw_136 : Cond.instanceMethod yX6_init ∈ lw_tbl := List.mem_of_getElem? (i := 136) (by decide +kernel)
set_option maxRecDepth 100000 in
theorem tw_137 : Cond.code yX6_init cX6_init 1 none ∈ lw_tbl := List.mem_of_getElem? (i := 137) (by decide +kernel)
set_option maxRecDepth 100000 in
theorem tw_138 : Cond.methodLink RX6 3 objectInit ∈ lw_tbl := List.mem_of_getElem? (i := 138) (by decide +kernel)
set_option maxRecDepth 100000 in
theorem tw_139 : Cond.fieldLink RX6 9 "CureTown$Regimen" "name" "I" ∈ lw_tbl := List.mem_of_getElem? (i := 139) (by decide +kernel)
set_option maxRecDepth 100000 in
theorem tw_140 : Cond.fieldLink RX2 105 "CureTown$Regimen" "name" "I" ∈ lw_tbl := List.mem_of_getElem? (i := 140) (by decide +kernel)
set_option maxRecDepth 100000 in
theorem tw_141 : Cond.fieldLink RX6 15 "CureTown$Regimen" "count" "I" ∈ lw_tbl := List.mem_of_getElem? (i := 141) (by decide +kernel)
set_option maxRecDepth 100000 in
theorem tw_142 : Cond.fieldLink RX3 76 "CureTown$Regimen" "count" "I" ∈ lw_tbl := List.mem_of_getElem? (i := 142) (by decide +kernel)
set_option maxRecDepth 100000 in
theorem tw_143 : Cond.fieldLink RX2 112 "CureTown$Regimen" "count" "I" ∈ lw_tbl := List.mem_of_getElem? (i := 143) (by decide +kernel)
set_option maxRecDepth 100000 in
theorem tw_144 : Cond.fieldLink RX6 18 "CureTown$Regimen" "kinds" "[I" ∈ lw_tbl := List.mem_of_getElem? (i := 144) (by decide +kernel)
set_option maxRecDepth 100000 in
theorem tw_145 : Cond.fieldLink RX3 85 "CureTown$Regimen" "kinds" "[I" ∈ lw_tbl := List.mem_of_getElem? (i := 145) (by decide +kernel)
set_option maxRecDepth 100000 in
theorem tw_146 : Cond.fieldLink RX2 116 "CureTown$Regimen" "kinds" "[I" ∈ lw_tbl := List.mem_of_getElem? (i := 146) (by decide +kernel)
set_option maxRecDepth 100000 in
theorem tw_147 : Cond.fieldLink RX6 22 "CureTown$Regimen" "firsts" "[I" ∈ lw_tbl := List.mem_of_getElem? (i := 147) (by decide +kernel)
set_option maxRecDepth 100000 in
theorem tw_148 : Cond.fieldLink RX3 89 "CureTown$Regimen" "firsts" "[I" ∈ lw_tbl := List.mem_of_getElem? (i := 148) (by decide +kernel)
set_option maxRecDepth 100000 in
theorem tw_149 : Cond.fieldLink RX2 129 "CureTown$Regimen" "firsts" "[I" ∈ lw_tbl := List.mem_of_getElem? (i := 149) (by decide +kernel)
set_option maxRecDepth 100000 in
theorem tw_150 : Cond.fieldLink RX6 25 "CureTown$Regimen" "seconds" "[I" ∈ lw_tbl := List.mem_of_getElem? (i := 150) (by decide +kernel)
set_option maxRecDepth 100000 in
theorem tw_151 : Cond.fieldLink RX3 95 "CureTown$Regimen" "seconds" "[I" ∈ lw_tbl := List.mem_of_getElem? (i := 151) (by decide +kernel)
set_option maxRecDepth 100000 in
theorem tw_152 : Cond.fieldLink RX2 109 "CureTown$Regimen" "seconds" "[I" ∈ lw_tbl := List.mem_of_getElem? (i := 152) (by decide +kernel)
set_option maxRecDepth 100000 in
theorem tw_164 : Cond.fieldLink RX2 12 "CureTown$Book" "tape" "LCureTown$Tape;" ∈ lw_tbl := List.mem_of_getElem? (i := 164) (by decide +kernel)
set_option maxRecDepth 100000 in
theorem tw_165 : Cond.fieldLink RX10 86 "CureTown$Book" "tape" "LCureTown$Tape;" ∈ lw_tbl := List.mem_of_getElem? (i := 165) (by decide +kernel)
set_option maxRecDepth 100000 in
theorem tw_166 : Cond.fieldLink RX2 20 "CureTown$Book" "regimens" "[LCureTown$Regimen;" ∈ lw_tbl := List.mem_of_getElem? (i := 166) (by decide +kernel)
set_option maxRecDepth 100000 in
theorem tw_167 : Cond.fieldLink RX3 66 "CureTown$Book" "regimens" "[LCureTown$Regimen;" ∈ lw_tbl := List.mem_of_getElem? (i := 167) (by decide +kernel)
set_option maxRecDepth 100000 in
theorem tw_168 : Cond.fieldLink RX2 24 "CureTown$Book" "count" "I" ∈ lw_tbl := List.mem_of_getElem? (i := 168) (by decide +kernel)
set_option maxRecDepth 100000 in
theorem tw_169 : Cond.fieldLink RX10 107 "CureTown$Book" "count" "I" ∈ lw_tbl := List.mem_of_getElem? (i := 169) (by decide +kernel)
set_option maxRecDepth 100000 in
theorem tw_170 : Cond.fieldLink RX2 28 "CureTown$Book" "fault" "I" ∈ lw_tbl := List.mem_of_getElem? (i := 170) (by decide +kernel)
set_option maxRecDepth 100000 in
theorem tw_171 : Cond.fieldLink RX10 104 "CureTown$Book" "fault" "I" ∈ lw_tbl := List.mem_of_getElem? (i := 171) (by decide +kernel)
set_option maxRecDepth 100000 in
theorem tw_172 : Cond.fieldLink RX2 31 "CureTown$Book" "faultPlace" "I" ∈ lw_tbl := List.mem_of_getElem? (i := 172) (by decide +kernel)
set_option maxRecDepth 100000 in
theorem tw_173 : Cond.fieldLink RX10 110 "CureTown$Book" "faultPlace" "I" ∈ lw_tbl := List.mem_of_getElem? (i := 173) (by decide +kernel)
set_option maxRecDepth 100000 in
theorem tw_174 : Cond.fieldLink RX2 34 "CureTown$Book" "told" "I" ∈ lw_tbl := List.mem_of_getElem? (i := 174) (by decide +kernel)
set_option maxRecDepth 100000 in
theorem tw_175 : Cond.fieldLink RX2 37 "CureTown$Book" "wants" "I" ∈ lw_tbl := List.mem_of_getElem? (i := 175) (by decide +kernel)
set_option maxRecDepth 100000 in
theorem tw_176 : Cond.fieldLink RX2 40 "CureTown$Book" "openCount" "I" ∈ lw_tbl := List.mem_of_getElem? (i := 176) (by decide +kernel)
set_option maxRecDepth 100000 in
theorem tw_177 : Cond.fieldLink RX2 43 "CureTown$Book" "openActs" "[I" ∈ lw_tbl := List.mem_of_getElem? (i := 177) (by decide +kernel)
set_option maxRecDepth 100000 in
theorem tw_178 : Cond.fieldLink RX2 48 "CureTown$Book" "current" "LCureTown$Regimen;" ∈ lw_tbl := List.mem_of_getElem? (i := 178) (by decide +kernel)
set_option maxRecDepth 100000 in
theorem tw_200 : Cond.instantiable RX7 9 ∈ lw_tbl := List.mem_of_getElem? (i := 200) (by decide +kernel)
set_option maxRecDepth 100000 in
theorem tw_202 : Cond.instanceMethod yX7_init ∈ lw_tbl := List.mem_of_getElem? (i := 202) (by decide +kernel)
set_option maxRecDepth 100000 in
theorem tw_203 : Cond.code yX7_init cX7_init 1 none ∈ lw_tbl := List.mem_of_getElem? (i := 203) (by decide +kernel)
set_option maxRecDepth 100000 in
theorem tw_204 : Cond.methodLink RX7 3 objectInit ∈ lw_tbl := List.mem_of_getElem? (i := 204) (by decide +kernel)
set_option maxRecDepth 100000 in
theorem tw_205 : Cond.fieldLink RX7 9 "CureTown$Spring" "glasses" "I" ∈ lw_tbl := List.mem_of_getElem? (i := 205) (by decide +kernel)
set_option maxRecDepth 100000 in
theorem tw_206 : Cond.fieldLink RX10 52 "CureTown$Spring" "glasses" "I" ∈ lw_tbl := List.mem_of_getElem? (i := 206) (by decide +kernel)
set_option maxRecDepth 100000 in
theorem tw_207 : Cond.fieldLink RX3 165 "CureTown$Spring" "glasses" "I" ∈ lw_tbl := List.mem_of_getElem? (i := 207) (by decide +kernel)
set_option maxRecDepth 100000 in
theorem tw_208 : Cond.fieldLink RX7 15 "CureTown$Spring" "from" "I" ∈ lw_tbl := List.mem_of_getElem? (i := 208) (by decide +kernel)
