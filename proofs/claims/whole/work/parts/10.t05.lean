set_option maxRecDepth 100000 in
theorem tw_831 : Cond.methodLink RX10 173 yX10_countWater ∈ lw_tbl := List.mem_of_getElem? (i := 831) (by decide +kernel)
set_option maxRecDepth 100000 in
theorem tw_833 : Cond.instanceMethod yX10_countWater ∈ lw_tbl := List.mem_of_getElem? (i := 833) (by decide +kernel)
set_option maxRecDepth 100000 in
theorem tw_834 : Cond.code yX10_countWater cX10_countWater 2 none ∈ lw_tbl := List.mem_of_getElem? (i := 834) (by decide +kernel)
set_option maxRecDepth 100000 in
theorem tw_835 : Cond.methodLink RX10 215 yX3_countTaken ∈ lw_tbl := List.mem_of_getElem? (i := 835) (by decide +kernel)
set_option maxRecDepth 100000 in
theorem tw_836 : Cond.instanceMethod yX3_countTaken ∈ lw_tbl := List.mem_of_getElem? (i := 836) (by decide +kernel)
set_option maxRecDepth 100000 in
theorem tw_837 : Cond.selects RX3 yX3_countTaken yX3_countTaken ∈ lw_tbl := List.mem_of_getElem? (i := 837) (by decide +kernel)
set_option maxRecDepth 100000 in
theorem tw_838 : Cond.code yX3_countTaken cX3_countTaken 4 (some .int) ∈ lw_tbl := List.mem_of_getElem? (i := 838) (by decide +kernel)
set_option maxRecDepth 100000 in
theorem tw_839 : Cond.methodLink RX10 218 yX7_closeDay ∈ lw_tbl := List.mem_of_getElem? (i := 839) (by decide +kernel)
set_option maxRecDepth 100000 in
theorem tw_840 : Cond.instanceMethod yX7_closeDay ∈ lw_tbl := List.mem_of_getElem? (i := 840) (by decide +kernel)
set_option maxRecDepth 100000 in
theorem tw_841 : Cond.selects RX7 yX7_closeDay yX7_closeDay ∈ lw_tbl := List.mem_of_getElem? (i := 841) (by decide +kernel)
set_option maxRecDepth 100000 in
theorem tw_842 : Cond.code yX7_closeDay cX7_closeDay 6 none ∈ lw_tbl := List.mem_of_getElem? (i := 842) (by decide +kernel)
set_option maxRecDepth 100000 in
theorem tw_843 : Cond.methodLink RX10 176 yX10_pourOut ∈ lw_tbl := List.mem_of_getElem? (i := 843) (by decide +kernel)
set_option maxRecDepth 100000 in
theorem tw_845 : Cond.instanceMethod yX10_pourOut ∈ lw_tbl := List.mem_of_getElem? (i := 845) (by decide +kernel)
set_option maxRecDepth 100000 in
theorem tw_846 : Cond.code yX10_pourOut cX10_pourOut 3 none ∈ lw_tbl := List.mem_of_getElem? (i := 846) (by decide +kernel)
set_option maxRecDepth 100000 in
theorem tw_847 : Cond.methodLink RL 83 yX10_water ∈ lw_tbl := List.mem_of_getElem? (i := 847) (by decide +kernel)
set_option maxRecDepth 100000 in
theorem tw_848 : Cond.instanceMethod yX10_water ∈ lw_tbl := List.mem_of_getElem? (i := 848) (by decide +kernel)
set_option maxRecDepth 100000 in
theorem tw_849 : Cond.selects RX10 yX10_water yX10_water ∈ lw_tbl := List.mem_of_getElem? (i := 849) (by decide +kernel)
set_option maxRecDepth 100000 in
theorem tw_850 : Cond.code yX10_water cX10_water 4 (some .int) ∈ lw_tbl := List.mem_of_getElem? (i := 850) (by decide +kernel)
set_option maxRecDepth 100000 in
theorem tw_851 : Cond.methodLink RL 87 yX10_bottles ∈ lw_tbl := List.mem_of_getElem? (i := 851) (by decide +kernel)
set_option maxRecDepth 100000 in
theorem tw_852 : Cond.instanceMethod yX10_bottles ∈ lw_tbl := List.mem_of_getElem? (i := 852) (by decide +kernel)
set_option maxRecDepth 100000 in
theorem tw_853 : Cond.selects RX10 yX10_bottles yX10_bottles ∈ lw_tbl := List.mem_of_getElem? (i := 853) (by decide +kernel)
set_option maxRecDepth 100000 in
theorem tw_854 : Cond.code yX10_bottles cX10_bottles 3 (some .int) ∈ lw_tbl := List.mem_of_getElem? (i := 854) (by decide +kernel)
set_option maxRecDepth 100000 in
theorem tw_855 : Cond.methodLink RL 91 yX10_sell ∈ lw_tbl := List.mem_of_getElem? (i := 855) (by decide +kernel)
set_option maxRecDepth 100000 in
theorem tw_856 : Cond.instanceMethod yX10_sell ∈ lw_tbl := List.mem_of_getElem? (i := 856) (by decide +kernel)
set_option maxRecDepth 100000 in
theorem tw_857 : Cond.selects RX10 yX10_sell yX10_sell ∈ lw_tbl := List.mem_of_getElem? (i := 857) (by decide +kernel)
set_option maxRecDepth 100000 in
theorem tw_858 : Cond.code yX10_sell cX10_sell 7 (some .int) ∈ lw_tbl := List.mem_of_getElem? (i := 858) (by decide +kernel)
set_option maxRecDepth 100000 in
theorem tw_859 : Cond.methodLink RX10 194 Lib.Math.min.name ∈ lw_tbl := List.mem_of_getElem? (i := 859) (by decide +kernel)
set_option maxRecDepth 100000 in
theorem tw_860 : Cond.static Lib.Math.min.name ∈ lw_tbl := List.mem_of_getElem? (i := 860) (by decide +kernel)
set_option maxRecDepth 100000 in
theorem tw_861 : Cond.code Lib.Math.min.name Lib.Math.min.code 2 (some .int) ∈ lw_tbl := List.mem_of_getElem? (i := 861) (by decide +kernel)
set_option maxRecDepth 100000 in
theorem tw_862 : Cond.methodLink RL 95 yX10_bill ∈ lw_tbl := List.mem_of_getElem? (i := 862) (by decide +kernel)
set_option maxRecDepth 100000 in
theorem tw_863 : Cond.instanceMethod yX10_bill ∈ lw_tbl := List.mem_of_getElem? (i := 863) (by decide +kernel)
set_option maxRecDepth 100000 in
theorem tw_864 : Cond.selects RX10 yX10_bill yX10_bill ∈ lw_tbl := List.mem_of_getElem? (i := 864) (by decide +kernel)
set_option maxRecDepth 100000 in
theorem tw_865 : Cond.code yX10_bill cX10_bill 4 (some .int) ∈ lw_tbl := List.mem_of_getElem? (i := 865) (by decide +kernel)
set_option maxRecDepth 100000 in
theorem tw_870 : Cond.code yX11_init cX11_init 2 none ∈ lw_tbl := List.mem_of_getElem? (i := 870) (by decide +kernel)
set_option maxRecDepth 100000 in
theorem tw_871 : Cond.methodLink RX11 1 objectInit ∈ lw_tbl := List.mem_of_getElem? (i := 871) (by decide +kernel)
set_option maxRecDepth 100000 in
theorem tw_872 : Cond.fieldLink RX11 230 "CureTownModel" "day" "I" ∈ lw_tbl := List.mem_of_getElem? (i := 872) (by decide +kernel)
set_option maxRecDepth 100000 in
theorem tw_873 : Cond.fieldLink RX11 233 "CureTownModel" "guests" "I" ∈ lw_tbl := List.mem_of_getElem? (i := 873) (by decide +kernel)
set_option maxRecDepth 100000 in
theorem tw_874 : Cond.fieldLink RX11 207 "CureTownModel" "regimens" "I" ∈ lw_tbl := List.mem_of_getElem? (i := 874) (by decide +kernel)
set_option maxRecDepth 100000 in
theorem tw_875 : Cond.fieldLink RX11 7 "CureTownModel" "gives" "[I" ∈ lw_tbl := List.mem_of_getElem? (i := 875) (by decide +kernel)
set_option maxRecDepth 100000 in
theorem tw_876 : Cond.fieldLink RX11 13 "CureTownModel" "begins" "[I" ∈ lw_tbl := List.mem_of_getElem? (i := 876) (by decide +kernel)
set_option maxRecDepth 100000 in
theorem tw_877 : Cond.fieldLink RX11 16 "CureTownModel" "ends" "[I" ∈ lw_tbl := List.mem_of_getElem? (i := 877) (by decide +kernel)
set_option maxRecDepth 100000 in
theorem tw_878 : Cond.fieldLink RX11 19 "CureTownModel" "strength" "[I" ∈ lw_tbl := List.mem_of_getElem? (i := 878) (by decide +kernel)
set_option maxRecDepth 100000 in
theorem tw_879 : Cond.fieldLink RX11 22 "CureTownModel" "kindOf" "[I" ∈ lw_tbl := List.mem_of_getElem? (i := 879) (by decide +kernel)
set_option maxRecDepth 100000 in
theorem tw_880 : Cond.fieldLink RX11 25 "CureTownModel" "rate" "[I" ∈ lw_tbl := List.mem_of_getElem? (i := 880) (by decide +kernel)
set_option maxRecDepth 100000 in
theorem tw_881 : Cond.fieldLink RX11 28 "CureTownModel" "open" "[Z" ∈ lw_tbl := List.mem_of_getElem? (i := 881) (by decide +kernel)
set_option maxRecDepth 100000 in
theorem tw_882 : Cond.fieldLink RX11 32 "CureTownModel" "name" "[J" ∈ lw_tbl := List.mem_of_getElem? (i := 882) (by decide +kernel)
set_option maxRecDepth 100000 in
theorem tw_883 : Cond.fieldLink RX11 36 "CureTownModel" "freshName" "[J" ∈ lw_tbl := List.mem_of_getElem? (i := 883) (by decide +kernel)
set_option maxRecDepth 100000 in
theorem tw_884 : Cond.fieldLink RX11 39 "CureTownModel" "many" "[I" ∈ lw_tbl := List.mem_of_getElem? (i := 884) (by decide +kernel)
set_option maxRecDepth 100000 in
theorem tw_885 : Cond.fieldLink RX11 42 "CureTownModel" "step" "[I" ∈ lw_tbl := List.mem_of_getElem? (i := 885) (by decide +kernel)
set_option maxRecDepth 100000 in
theorem tw_886 : Cond.fieldLink RX11 45 "CureTownModel" "freshMany" "[I" ∈ lw_tbl := List.mem_of_getElem? (i := 886) (by decide +kernel)
set_option maxRecDepth 100000 in
theorem tw_887 : Cond.fieldLink RX11 48 "CureTownModel" "fresh" "[I" ∈ lw_tbl := List.mem_of_getElem? (i := 887) (by decide +kernel)
set_option maxRecDepth 100000 in
theorem tw_888 : Cond.fieldLink RX11 210 "CureTownModel" "freshRegimens" "I" ∈ lw_tbl := List.mem_of_getElem? (i := 888) (by decide +kernel)
set_option maxRecDepth 100000 in
theorem tw_889 : Cond.fieldLink RX11 51 "CureTownModel" "tape" "[I" ∈ lw_tbl := List.mem_of_getElem? (i := 889) (by decide +kernel)
set_option maxRecDepth 100000 in
theorem tw_890 : Cond.fieldLink RX11 144 "CureTownModel" "taped" "I" ∈ lw_tbl := List.mem_of_getElem? (i := 890) (by decide +kernel)
set_option maxRecDepth 100000 in
theorem tw_891 : Cond.fieldLink RX11 162 "CureTownModel" "at" "I" ∈ lw_tbl := List.mem_of_getElem? (i := 891) (by decide +kernel)
set_option maxRecDepth 100000 in
theorem tw_892 : Cond.fieldLink RX11 172 "CureTownModel" "token" "I" ∈ lw_tbl := List.mem_of_getElem? (i := 892) (by decide +kernel)
set_option maxRecDepth 100000 in
theorem tw_893 : Cond.fieldLink RX11 169 "CureTownModel" "tokenAt" "I" ∈ lw_tbl := List.mem_of_getElem? (i := 893) (by decide +kernel)
set_option maxRecDepth 100000 in
theorem tw_894 : Cond.fieldLink RX11 189 "CureTownModel" "value" "I" ∈ lw_tbl := List.mem_of_getElem? (i := 894) (by decide +kernel)
set_option maxRecDepth 100000 in
theorem tw_895 : Cond.fieldLink RX11 192 "CureTownModel" "wrong" "I" ∈ lw_tbl := List.mem_of_getElem? (i := 895) (by decide +kernel)
set_option maxRecDepth 100000 in
theorem tw_896 : Cond.fieldLink RX11 195 "CureTownModel" "wrongAt" "I" ∈ lw_tbl := List.mem_of_getElem? (i := 896) (by decide +kernel)
set_option maxRecDepth 100000 in
theorem tw_897 : Cond.fieldLink RX11 227 "CureTownModel" "faultKind" "I" ∈ lw_tbl := List.mem_of_getElem? (i := 897) (by decide +kernel)
set_option maxRecDepth 100000 in
theorem tw_898 : Cond.fieldLink RX11 54 "CureTownModel" "faultPlace" "I" ∈ lw_tbl := List.mem_of_getElem? (i := 898) (by decide +kernel)
set_option maxRecDepth 100000 in
theorem tw_899 : Cond.fieldLink RX11 178 "CureTownModel" "word" "J" ∈ lw_tbl := List.mem_of_getElem? (i := 899) (by decide +kernel)
set_option maxRecDepth 100000 in
theorem tw_900 : Cond.fieldLink RX11 204 "CureTownModel" "got" "I" ∈ lw_tbl := List.mem_of_getElem? (i := 900) (by decide +kernel)
set_option maxRecDepth 100000 in
theorem tw_901 : Cond.fieldLink RX11 58 "CureTownModel" "bracket" "[I" ∈ lw_tbl := List.mem_of_getElem? (i := 901) (by decide +kernel)
set_option maxRecDepth 100000 in
theorem tw_902 : Cond.fieldLink RX11 61 "CureTownModel" "rank" "[I" ∈ lw_tbl := List.mem_of_getElem? (i := 902) (by decide +kernel)
set_option maxRecDepth 100000 in
theorem tw_903 : Cond.fieldLink RX11 64 "CureTownModel" "regimen" "[I" ∈ lw_tbl := List.mem_of_getElem? (i := 903) (by decide +kernel)
set_option maxRecDepth 100000 in
theorem tw_904 : Cond.fieldLink RX11 67 "CureTownModel" "from" "[I" ∈ lw_tbl := List.mem_of_getElem? (i := 904) (by decide +kernel)
set_option maxRecDepth 100000 in
theorem tw_905 : Cond.fieldLink RX11 70 "CureTownModel" "to" "[I" ∈ lw_tbl := List.mem_of_getElem? (i := 905) (by decide +kernel)
set_option maxRecDepth 100000 in
theorem tw_906 : Cond.fieldLink RX11 73 "CureTownModel" "bound" "[I" ∈ lw_tbl := List.mem_of_getElem? (i := 906) (by decide +kernel)
set_option maxRecDepth 100000 in
theorem tw_907 : Cond.fieldLink RX11 76 "CureTownModel" "nights" "[I" ∈ lw_tbl := List.mem_of_getElem? (i := 907) (by decide +kernel)
set_option maxRecDepth 100000 in
theorem tw_908 : Cond.fieldLink RX11 79 "CureTownModel" "tax" "[I" ∈ lw_tbl := List.mem_of_getElem? (i := 908) (by decide +kernel)
set_option maxRecDepth 100000 in
theorem tw_909 : Cond.fieldLink RX11 82 "CureTownModel" "drunk" "[I" ∈ lw_tbl := List.mem_of_getElem? (i := 909) (by decide +kernel)
set_option maxRecDepth 100000 in
theorem tw_910 : Cond.fieldLink RX11 85 "CureTownModel" "did" "[I" ∈ lw_tbl := List.mem_of_getElem? (i := 910) (by decide +kernel)
set_option maxRecDepth 100000 in
theorem tw_911 : Cond.fieldLink RX11 88 "CureTownModel" "taken" "[I" ∈ lw_tbl := List.mem_of_getElem? (i := 911) (by decide +kernel)
set_option maxRecDepth 100000 in
theorem tw_912 : Cond.fieldLink RX11 91 "CureTownModel" "order" "[I" ∈ lw_tbl := List.mem_of_getElem? (i := 912) (by decide +kernel)
set_option maxRecDepth 100000 in
theorem tw_913 : Cond.fieldLink RX11 94 "CureTownModel" "done" "[I" ∈ lw_tbl := List.mem_of_getElem? (i := 913) (by decide +kernel)
set_option maxRecDepth 100000 in
theorem tw_914 : Cond.fieldLink RX11 97 "CureTownModel" "end" "[I" ∈ lw_tbl := List.mem_of_getElem? (i := 914) (by decide +kernel)
set_option maxRecDepth 100000 in
theorem tw_915 : Cond.fieldLink RX11 100 "CureTownModel" "glasses" "[I" ∈ lw_tbl := List.mem_of_getElem? (i := 915) (by decide +kernel)
set_option maxRecDepth 100000 in
theorem tw_916 : Cond.fieldLink RX11 103 "CureTownModel" "lost" "[I" ∈ lw_tbl := List.mem_of_getElem? (i := 916) (by decide +kernel)
set_option maxRecDepth 100000 in
theorem tw_917 : Cond.fieldLink RX11 106 "CureTownModel" "bathed" "[Z" ∈ lw_tbl := List.mem_of_getElem? (i := 917) (by decide +kernel)
set_option maxRecDepth 100000 in
theorem tw_918 : Cond.fieldLink RX11 109 "CureTownModel" "when" "[I" ∈ lw_tbl := List.mem_of_getElem? (i := 918) (by decide +kernel)
set_option maxRecDepth 100000 in
theorem tw_919 : Cond.fieldLink RX11 112 "CureTownModel" "where" "[I" ∈ lw_tbl := List.mem_of_getElem? (i := 919) (by decide +kernel)
set_option maxRecDepth 100000 in
theorem tw_920 : Cond.fieldLink RX11 115 "CureTownModel" "what0" "[I" ∈ lw_tbl := List.mem_of_getElem? (i := 920) (by decide +kernel)
set_option maxRecDepth 100000 in
theorem tw_921 : Cond.fieldLink RX11 239 "CureTownModel" "now" "I" ∈ lw_tbl := List.mem_of_getElem? (i := 921) (by decide +kernel)
set_option maxRecDepth 100000 in
theorem tw_922 : Cond.fieldLink RX11 118 "CureTownModel" "bestOrder" "[I" ∈ lw_tbl := List.mem_of_getElem? (i := 922) (by decide +kernel)
set_option maxRecDepth 100000 in
theorem tw_923 : Cond.fieldLink RX11 279 "CureTownModel" "bestDone" "I" ∈ lw_tbl := List.mem_of_getElem? (i := 923) (by decide +kernel)
set_option maxRecDepth 100000 in
theorem tw_924 : Cond.fieldLink RX11 282 "CureTownModel" "bestEnds" "I" ∈ lw_tbl := List.mem_of_getElem? (i := 924) (by decide +kernel)
set_option maxRecDepth 100000 in
theorem tw_925 : Cond.fieldLink RX11 291 "CureTownModel" "isBest" "Z" ∈ lw_tbl := List.mem_of_getElem? (i := 925) (by decide +kernel)
set_option maxRecDepth 100000 in
theorem tw_926 : Cond.fieldLink RX11 121 "CureTownModel" "bottles" "[I" ∈ lw_tbl := List.mem_of_getElem? (i := 926) (by decide +kernel)
set_option maxRecDepth 100000 in
theorem tw_927 : Cond.fieldLink RX11 124 "CureTownModel" "given" "[I" ∈ lw_tbl := List.mem_of_getElem? (i := 927) (by decide +kernel)
set_option maxRecDepth 100000 in
theorem tw_928 : Cond.fieldLink RX11 127 "CureTownModel" "drawn" "[I" ∈ lw_tbl := List.mem_of_getElem? (i := 928) (by decide +kernel)
set_option maxRecDepth 100000 in
theorem tw_929 : Cond.fieldLink RX11 130 "CureTownModel" "filled" "[I" ∈ lw_tbl := List.mem_of_getElem? (i := 929) (by decide +kernel)
set_option maxRecDepth 100000 in
theorem tw_930 : Cond.fieldLink RX11 133 "CureTownModel" "off" "[I" ∈ lw_tbl := List.mem_of_getElem? (i := 930) (by decide +kernel)
set_option maxRecDepth 100000 in
theorem tw_931 : Cond.fieldLink RX11 298 "CureTownModel" "soldAll" "I" ∈ lw_tbl := List.mem_of_getElem? (i := 931) (by decide +kernel)
set_option maxRecDepth 100000 in
theorem tw_932 : Cond.fieldLink RX11 295 "CureTownModel" "poured" "I" ∈ lw_tbl := List.mem_of_getElem? (i := 932) (by decide +kernel)
set_option maxRecDepth 100000 in
theorem tw_1056 : Cond.methodLink RL 17 yX11_spring ∈ lw_tbl := List.mem_of_getElem? (i := 1056) (by decide +kernel)
set_option maxRecDepth 100000 in
theorem tw_1057 : Cond.instanceMethod yX11_spring ∈ lw_tbl := List.mem_of_getElem? (i := 1057) (by decide +kernel)
set_option maxRecDepth 100000 in
theorem tw_1058 : Cond.selects RX11 yX11_spring yX11_spring ∈ lw_tbl := List.mem_of_getElem? (i := 1058) (by decide +kernel)
set_option maxRecDepth 100000 in
theorem tw_1059 : Cond.code yX11_spring cX11_spring 6 (some .boolean) ∈ lw_tbl := List.mem_of_getElem? (i := 1059) (by decide +kernel)
set_option maxRecDepth 100000 in
theorem tw_1060 : Cond.methodLink RX11 140 yX11_isSpring ∈ lw_tbl := List.mem_of_getElem? (i := 1060) (by decide +kernel)
set_option maxRecDepth 100000 in
theorem tw_1061 : Cond.static yX11_isSpring ∈ lw_tbl := List.mem_of_getElem? (i := 1061) (by decide +kernel)
set_option maxRecDepth 100000 in
theorem tw_1062 : Cond.code yX11_isSpring cX11_isSpring 1 (some .boolean) ∈ lw_tbl := List.mem_of_getElem? (i := 1062) (by decide +kernel)
set_option maxRecDepth 100000 in
theorem tw_1063 : Cond.methodLink RX11 136 yX11_isIn ∈ lw_tbl := List.mem_of_getElem? (i := 1063) (by decide +kernel)
set_option maxRecDepth 100000 in
theorem tw_1064 : Cond.static yX11_isIn ∈ lw_tbl := List.mem_of_getElem? (i := 1064) (by decide +kernel)
set_option maxRecDepth 100000 in
theorem tw_1065 : Cond.code yX11_isIn cX11_isIn 3 (some .boolean) ∈ lw_tbl := List.mem_of_getElem? (i := 1065) (by decide +kernel)
set_option maxRecDepth 100000 in
theorem tw_1066 : Cond.methodLink RL 22 yX11_bath ∈ lw_tbl := List.mem_of_getElem? (i := 1066) (by decide +kernel)
set_option maxRecDepth 100000 in
theorem tw_1067 : Cond.instanceMethod yX11_bath ∈ lw_tbl := List.mem_of_getElem? (i := 1067) (by decide +kernel)
set_option maxRecDepth 100000 in
theorem tw_1068 : Cond.selects RX11 yX11_bath yX11_bath ∈ lw_tbl := List.mem_of_getElem? (i := 1068) (by decide +kernel)
set_option maxRecDepth 100000 in
theorem tw_1069 : Cond.code yX11_bath cX11_bath 4 (some .boolean) ∈ lw_tbl := List.mem_of_getElem? (i := 1069) (by decide +kernel)
set_option maxRecDepth 100000 in
theorem tw_1070 : Cond.methodLink RL 27 yX11_rate ∈ lw_tbl := List.mem_of_getElem? (i := 1070) (by decide +kernel)
set_option maxRecDepth 100000 in
theorem tw_1071 : Cond.instanceMethod yX11_rate ∈ lw_tbl := List.mem_of_getElem? (i := 1071) (by decide +kernel)
set_option maxRecDepth 100000 in
theorem tw_1072 : Cond.selects RX11 yX11_rate yX11_rate ∈ lw_tbl := List.mem_of_getElem? (i := 1072) (by decide +kernel)
set_option maxRecDepth 100000 in
theorem tw_1073 : Cond.code yX11_rate cX11_rate 3 (some .boolean) ∈ lw_tbl := List.mem_of_getElem? (i := 1073) (by decide +kernel)
set_option maxRecDepth 100000 in
theorem tw_1074 : Cond.methodLink RL 32 yX11_feed ∈ lw_tbl := List.mem_of_getElem? (i := 1074) (by decide +kernel)
set_option maxRecDepth 100000 in
theorem tw_1075 : Cond.instanceMethod yX11_feed ∈ lw_tbl := List.mem_of_getElem? (i := 1075) (by decide +kernel)
set_option maxRecDepth 100000 in
theorem tw_1076 : Cond.selects RX11 yX11_feed yX11_feed ∈ lw_tbl := List.mem_of_getElem? (i := 1076) (by decide +kernel)
set_option maxRecDepth 100000 in
theorem tw_1077 : Cond.code yX11_feed cX11_feed 8 (some .int) ∈ lw_tbl := List.mem_of_getElem? (i := 1077) (by decide +kernel)
set_option maxRecDepth 100000 in
theorem tw_1078 : Cond.methodLink RL 37 yX11_end ∈ lw_tbl := List.mem_of_getElem? (i := 1078) (by decide +kernel)
set_option maxRecDepth 100000 in
theorem tw_1079 : Cond.instanceMethod yX11_end ∈ lw_tbl := List.mem_of_getElem? (i := 1079) (by decide +kernel)
set_option maxRecDepth 100000 in
theorem tw_1080 : Cond.selects RX11 yX11_end yX11_end ∈ lw_tbl := List.mem_of_getElem? (i := 1080) (by decide +kernel)
set_option maxRecDepth 100000 in
theorem tw_1081 : Cond.code yX11_end cX11_end 2 (some .boolean) ∈ lw_tbl := List.mem_of_getElem? (i := 1081) (by decide +kernel)
set_option maxRecDepth 100000 in
theorem tw_1082 : Cond.methodLink RL 42 yX11_load ∈ lw_tbl := List.mem_of_getElem? (i := 1082) (by decide +kernel)
set_option maxRecDepth 100000 in
theorem tw_1083 : Cond.instanceMethod yX11_load ∈ lw_tbl := List.mem_of_getElem? (i := 1083) (by decide +kernel)
set_option maxRecDepth 100000 in
theorem tw_1084 : Cond.selects RX11 yX11_load yX11_load ∈ lw_tbl := List.mem_of_getElem? (i := 1084) (by decide +kernel)
set_option maxRecDepth 100000 in
theorem tw_1085 : Cond.code yX11_load cX11_load 4 (some .int) ∈ lw_tbl := List.mem_of_getElem? (i := 1085) (by decide +kernel)
set_option maxRecDepth 100000 in
theorem tw_1086 : Cond.methodLink RX11 201 yX11_next0 ∈ lw_tbl := List.mem_of_getElem? (i := 1086) (by decide +kernel)
set_option maxRecDepth 100000 in
theorem tw_1088 : Cond.instanceMethod yX11_next0 ∈ lw_tbl := List.mem_of_getElem? (i := 1088) (by decide +kernel)
set_option maxRecDepth 100000 in
theorem tw_1089 : Cond.code yX11_next0 cX11_next0 4 none ∈ lw_tbl := List.mem_of_getElem? (i := 1089) (by decide +kernel)
set_option maxRecDepth 100000 in
theorem tw_1090 : Cond.methodLink RX11 165 yX11_see ∈ lw_tbl := List.mem_of_getElem? (i := 1090) (by decide +kernel)
set_option maxRecDepth 100000 in
theorem tw_1092 : Cond.instanceMethod yX11_see ∈ lw_tbl := List.mem_of_getElem? (i := 1092) (by decide +kernel)
set_option maxRecDepth 100000 in
theorem tw_1093 : Cond.code yX11_see cX11_see 2 (some .int) ∈ lw_tbl := List.mem_of_getElem? (i := 1093) (by decide +kernel)
set_option maxRecDepth 100000 in
theorem tw_1094 : Cond.methodLink RX11 175 yX11_isLetter ∈ lw_tbl := List.mem_of_getElem? (i := 1094) (by decide +kernel)
set_option maxRecDepth 100000 in
theorem tw_1095 : Cond.static yX11_isLetter ∈ lw_tbl := List.mem_of_getElem? (i := 1095) (by decide +kernel)
set_option maxRecDepth 100000 in
theorem tw_1096 : Cond.code yX11_isLetter cX11_isLetter 1 (some .boolean) ∈ lw_tbl := List.mem_of_getElem? (i := 1096) (by decide +kernel)
set_option maxRecDepth 100000 in
theorem tw_1097 : Cond.methodLink RX11 147 yX11_isSmall ∈ lw_tbl := List.mem_of_getElem? (i := 1097) (by decide +kernel)
set_option maxRecDepth 100000 in
theorem tw_1098 : Cond.static yX11_isSmall ∈ lw_tbl := List.mem_of_getElem? (i := 1098) (by decide +kernel)
set_option maxRecDepth 100000 in
theorem tw_1099 : Cond.code yX11_isSmall cX11_isSmall 1 (some .boolean) ∈ lw_tbl := List.mem_of_getElem? (i := 1099) (by decide +kernel)
set_option maxRecDepth 100000 in
theorem tw_1100 : Cond.methodLink RX11 182 yX11_wordOf ∈ lw_tbl := List.mem_of_getElem? (i := 1100) (by decide +kernel)
set_option maxRecDepth 100000 in
theorem tw_1101 : Cond.static yX11_wordOf ∈ lw_tbl := List.mem_of_getElem? (i := 1101) (by decide +kernel)
set_option maxRecDepth 100000 in
theorem tw_1102 : Cond.code yX11_wordOf cX11_wordOf 2 (some .int) ∈ lw_tbl := List.mem_of_getElem? (i := 1102) (by decide +kernel)
set_option maxRecDepth 100000 in
theorem tw_1103 : Cond.constantLong RX11 150 (1668641381) ∈ lw_tbl := List.mem_of_getElem? (i := 1103) (by decide +kernel)
set_option maxRecDepth 100000 in
theorem tw_1104 : Cond.constantLong RX11 152 (444199957363) ∈ lw_tbl := List.mem_of_getElem? (i := 1104) (by decide +kernel)
set_option maxRecDepth 100000 in
theorem tw_1105 : Cond.constantLong RX11 154 (1650553960) ∈ lw_tbl := List.mem_of_getElem? (i := 1105) (by decide +kernel)
set_option maxRecDepth 100000 in
theorem tw_1106 : Cond.constantLong RX11 156 (1919251316) ∈ lw_tbl := List.mem_of_getElem? (i := 1106) (by decide +kernel)
set_option maxRecDepth 100000 in
theorem tw_1107 : Cond.constantLong RX11 158 (504364296556) ∈ lw_tbl := List.mem_of_getElem? (i := 1107) (by decide +kernel)
set_option maxRecDepth 100000 in
theorem tw_1108 : Cond.constantLong RX11 160 (1700881256) ∈ lw_tbl := List.mem_of_getElem? (i := 1108) (by decide +kernel)
set_option maxRecDepth 100000 in
theorem tw_1109 : Cond.methodLink RX11 186 yX11_isDigit ∈ lw_tbl := List.mem_of_getElem? (i := 1109) (by decide +kernel)
set_option maxRecDepth 100000 in
theorem tw_1110 : Cond.static yX11_isDigit ∈ lw_tbl := List.mem_of_getElem? (i := 1110) (by decide +kernel)
set_option maxRecDepth 100000 in
theorem tw_1111 : Cond.code yX11_isDigit cX11_isDigit 1 (some .boolean) ∈ lw_tbl := List.mem_of_getElem? (i := 1111) (by decide +kernel)
