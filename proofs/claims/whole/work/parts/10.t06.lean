set_option maxRecDepth 100000 in
theorem tw_1112 : Cond.methodLink RX11 224 yX11_aCure ∈ lw_tbl := List.mem_of_getElem? (i := 1112) (by decide +kernel)
set_option maxRecDepth 100000 in
theorem tw_1114 : Cond.instanceMethod yX11_aCure ∈ lw_tbl := List.mem_of_getElem? (i := 1114) (by decide +kernel)
set_option maxRecDepth 100000 in
theorem tw_1115 : Cond.code yX11_aCure cX11_aCure 5 (some .boolean) ∈ lw_tbl := List.mem_of_getElem? (i := 1115) (by decide +kernel)
set_option maxRecDepth 100000 in
theorem tw_1116 : Cond.methodLink RX11 198 yX11_bad ∈ lw_tbl := List.mem_of_getElem? (i := 1116) (by decide +kernel)
set_option maxRecDepth 100000 in
theorem tw_1118 : Cond.instanceMethod yX11_bad ∈ lw_tbl := List.mem_of_getElem? (i := 1118) (by decide +kernel)
set_option maxRecDepth 100000 in
theorem tw_1119 : Cond.code yX11_bad cX11_bad 2 (some .boolean) ∈ lw_tbl := List.mem_of_getElem? (i := 1119) (by decide +kernel)
set_option maxRecDepth 100000 in
theorem tw_1120 : Cond.methodLink RX11 213 yX11_isThere ∈ lw_tbl := List.mem_of_getElem? (i := 1120) (by decide +kernel)
set_option maxRecDepth 100000 in
theorem tw_1122 : Cond.instanceMethod yX11_isThere ∈ lw_tbl := List.mem_of_getElem? (i := 1122) (by decide +kernel)
set_option maxRecDepth 100000 in
theorem tw_1123 : Cond.code yX11_isThere cX11_isThere 3 (some .boolean) ∈ lw_tbl := List.mem_of_getElem? (i := 1123) (by decide +kernel)
set_option maxRecDepth 100000 in
theorem tw_1124 : Cond.methodLink RX11 217 yX11_need ∈ lw_tbl := List.mem_of_getElem? (i := 1124) (by decide +kernel)
set_option maxRecDepth 100000 in
theorem tw_1126 : Cond.instanceMethod yX11_need ∈ lw_tbl := List.mem_of_getElem? (i := 1126) (by decide +kernel)
set_option maxRecDepth 100000 in
theorem tw_1127 : Cond.code yX11_need cX11_need 2 (some .boolean) ∈ lw_tbl := List.mem_of_getElem? (i := 1127) (by decide +kernel)
set_option maxRecDepth 100000 in
theorem tw_1128 : Cond.methodLink RX11 220 yX11_number ∈ lw_tbl := List.mem_of_getElem? (i := 1128) (by decide +kernel)
set_option maxRecDepth 100000 in
theorem tw_1130 : Cond.instanceMethod yX11_number ∈ lw_tbl := List.mem_of_getElem? (i := 1130) (by decide +kernel)
set_option maxRecDepth 100000 in
theorem tw_1131 : Cond.code yX11_number cX11_number 3 (some .boolean) ∈ lw_tbl := List.mem_of_getElem? (i := 1131) (by decide +kernel)
set_option maxRecDepth 100000 in
theorem tw_1132 : Cond.methodLink RL 47 yX11_fault ∈ lw_tbl := List.mem_of_getElem? (i := 1132) (by decide +kernel)
set_option maxRecDepth 100000 in
theorem tw_1133 : Cond.instanceMethod yX11_fault ∈ lw_tbl := List.mem_of_getElem? (i := 1133) (by decide +kernel)
set_option maxRecDepth 100000 in
theorem tw_1134 : Cond.selects RX11 yX11_fault yX11_fault ∈ lw_tbl := List.mem_of_getElem? (i := 1134) (by decide +kernel)
set_option maxRecDepth 100000 in
theorem tw_1135 : Cond.code yX11_fault cX11_fault 2 (some .int) ∈ lw_tbl := List.mem_of_getElem? (i := 1135) (by decide +kernel)
set_option maxRecDepth 100000 in
theorem tw_1136 : Cond.methodLink RL 51 yX11_guest ∈ lw_tbl := List.mem_of_getElem? (i := 1136) (by decide +kernel)
set_option maxRecDepth 100000 in
theorem tw_1137 : Cond.instanceMethod yX11_guest ∈ lw_tbl := List.mem_of_getElem? (i := 1137) (by decide +kernel)
set_option maxRecDepth 100000 in
theorem tw_1138 : Cond.selects RX11 yX11_guest yX11_guest ∈ lw_tbl := List.mem_of_getElem? (i := 1138) (by decide +kernel)
set_option maxRecDepth 100000 in
theorem tw_1139 : Cond.code yX11_guest cX11_guest 7 (some .int) ∈ lw_tbl := List.mem_of_getElem? (i := 1139) (by decide +kernel)
set_option maxRecDepth 100000 in
theorem tw_1140 : Cond.methodLink RL 55 yX11_leave ∈ lw_tbl := List.mem_of_getElem? (i := 1140) (by decide +kernel)
set_option maxRecDepth 100000 in
theorem tw_1141 : Cond.instanceMethod yX11_leave ∈ lw_tbl := List.mem_of_getElem? (i := 1141) (by decide +kernel)
set_option maxRecDepth 100000 in
theorem tw_1142 : Cond.selects RX11 yX11_leave yX11_leave ∈ lw_tbl := List.mem_of_getElem? (i := 1142) (by decide +kernel)
set_option maxRecDepth 100000 in
theorem tw_1143 : Cond.code yX11_leave cX11_leave 3 (some .boolean) ∈ lw_tbl := List.mem_of_getElem? (i := 1143) (by decide +kernel)
set_option maxRecDepth 100000 in
theorem tw_1144 : Cond.methodLink RL 64 yX11_plan ∈ lw_tbl := List.mem_of_getElem? (i := 1144) (by decide +kernel)
set_option maxRecDepth 100000 in
theorem tw_1145 : Cond.instanceMethod yX11_plan ∈ lw_tbl := List.mem_of_getElem? (i := 1145) (by decide +kernel)
set_option maxRecDepth 100000 in
theorem tw_1146 : Cond.selects RX11 yX11_plan yX11_plan ∈ lw_tbl := List.mem_of_getElem? (i := 1146) (by decide +kernel)
set_option maxRecDepth 100000 in
theorem tw_1147 : Cond.code yX11_plan cX11_plan 6 (some .int) ∈ lw_tbl := List.mem_of_getElem? (i := 1147) (by decide +kernel)
set_option maxRecDepth 100000 in
theorem tw_1148 : Cond.methodLink RX11 269 yX11_isDay ∈ lw_tbl := List.mem_of_getElem? (i := 1148) (by decide +kernel)
set_option maxRecDepth 100000 in
theorem tw_1149 : Cond.static yX11_isDay ∈ lw_tbl := List.mem_of_getElem? (i := 1149) (by decide +kernel)
set_option maxRecDepth 100000 in
theorem tw_1150 : Cond.code yX11_isDay cX11_isDay 2 (some .boolean) ∈ lw_tbl := List.mem_of_getElem? (i := 1150) (by decide +kernel)
set_option maxRecDepth 100000 in
theorem tw_1151 : Cond.methodLink RX11 236 yX11_isHere ∈ lw_tbl := List.mem_of_getElem? (i := 1151) (by decide +kernel)
set_option maxRecDepth 100000 in
theorem tw_1153 : Cond.instanceMethod yX11_isHere ∈ lw_tbl := List.mem_of_getElem? (i := 1153) (by decide +kernel)
set_option maxRecDepth 100000 in
theorem tw_1154 : Cond.code yX11_isHere cX11_isHere 3 (some .boolean) ∈ lw_tbl := List.mem_of_getElem? (i := 1154) (by decide +kernel)
set_option maxRecDepth 100000 in
theorem tw_1155 : Cond.methodLink RX11 272 yX11_ranks ∈ lw_tbl := List.mem_of_getElem? (i := 1155) (by decide +kernel)
set_option maxRecDepth 100000 in
theorem tw_1157 : Cond.instanceMethod yX11_ranks ∈ lw_tbl := List.mem_of_getElem? (i := 1157) (by decide +kernel)
set_option maxRecDepth 100000 in
theorem tw_1158 : Cond.code yX11_ranks cX11_ranks 5 none ∈ lw_tbl := List.mem_of_getElem? (i := 1158) (by decide +kernel)
set_option maxRecDepth 100000 in
theorem tw_1159 : Cond.methodLink RX11 276 yX11_lays ∈ lw_tbl := List.mem_of_getElem? (i := 1159) (by decide +kernel)
set_option maxRecDepth 100000 in
theorem tw_1161 : Cond.instanceMethod yX11_lays ∈ lw_tbl := List.mem_of_getElem? (i := 1161) (by decide +kernel)
set_option maxRecDepth 100000 in
theorem tw_1162 : Cond.code yX11_lays cX11_lays 3 none ∈ lw_tbl := List.mem_of_getElem? (i := 1162) (by decide +kernel)
set_option maxRecDepth 100000 in
theorem tw_1163 : Cond.methodLink RX11 259 yX11_clear ∈ lw_tbl := List.mem_of_getElem? (i := 1163) (by decide +kernel)
set_option maxRecDepth 100000 in
theorem tw_1165 : Cond.instanceMethod yX11_clear ∈ lw_tbl := List.mem_of_getElem? (i := 1165) (by decide +kernel)
set_option maxRecDepth 100000 in
theorem tw_1166 : Cond.code yX11_clear cX11_clear 2 none ∈ lw_tbl := List.mem_of_getElem? (i := 1166) (by decide +kernel)
set_option maxRecDepth 100000 in
theorem tw_1167 : Cond.methodLink RX11 262 yX11_here ∈ lw_tbl := List.mem_of_getElem? (i := 1167) (by decide +kernel)
set_option maxRecDepth 100000 in
theorem tw_1169 : Cond.instanceMethod yX11_here ∈ lw_tbl := List.mem_of_getElem? (i := 1169) (by decide +kernel)
set_option maxRecDepth 100000 in
theorem tw_1170 : Cond.code yX11_here cX11_here 4 (some .int) ∈ lw_tbl := List.mem_of_getElem? (i := 1170) (by decide +kernel)
set_option maxRecDepth 100000 in
theorem tw_1171 : Cond.methodLink RX11 265 yX11_goes ∈ lw_tbl := List.mem_of_getElem? (i := 1171) (by decide +kernel)
set_option maxRecDepth 100000 in
theorem tw_1173 : Cond.instanceMethod yX11_goes ∈ lw_tbl := List.mem_of_getElem? (i := 1173) (by decide +kernel)
set_option maxRecDepth 100000 in
theorem tw_1174 : Cond.code yX11_goes cX11_goes 9 none ∈ lw_tbl := List.mem_of_getElem? (i := 1174) (by decide +kernel)
set_option maxRecDepth 100000 in
theorem tw_1175 : Cond.methodLink RX11 253 yX11_drinks ∈ lw_tbl := List.mem_of_getElem? (i := 1175) (by decide +kernel)
set_option maxRecDepth 100000 in
theorem tw_1177 : Cond.instanceMethod yX11_drinks ∈ lw_tbl := List.mem_of_getElem? (i := 1177) (by decide +kernel)
set_option maxRecDepth 100000 in
theorem tw_1178 : Cond.code yX11_drinks cX11_drinks 4 (some .boolean) ∈ lw_tbl := List.mem_of_getElem? (i := 1178) (by decide +kernel)
set_option maxRecDepth 100000 in
theorem tw_1179 : Cond.methodLink RX11 242 yX11_hasGlass ∈ lw_tbl := List.mem_of_getElem? (i := 1179) (by decide +kernel)
set_option maxRecDepth 100000 in
theorem tw_1181 : Cond.instanceMethod yX11_hasGlass ∈ lw_tbl := List.mem_of_getElem? (i := 1181) (by decide +kernel)
set_option maxRecDepth 100000 in
theorem tw_1182 : Cond.code yX11_hasGlass cX11_hasGlass 3 (some .boolean) ∈ lw_tbl := List.mem_of_getElem? (i := 1182) (by decide +kernel)
set_option maxRecDepth 100000 in
theorem tw_1183 : Cond.methodLink RX11 245 yX11_does ∈ lw_tbl := List.mem_of_getElem? (i := 1183) (by decide +kernel)
set_option maxRecDepth 100000 in
theorem tw_1185 : Cond.instanceMethod yX11_does ∈ lw_tbl := List.mem_of_getElem? (i := 1185) (by decide +kernel)
set_option maxRecDepth 100000 in
theorem tw_1186 : Cond.code yX11_does cX11_does 7 none ∈ lw_tbl := List.mem_of_getElem? (i := 1186) (by decide +kernel)
set_option maxRecDepth 100000 in
theorem tw_1187 : Cond.methodLink RX11 256 yX11_bathes ∈ lw_tbl := List.mem_of_getElem? (i := 1187) (by decide +kernel)
set_option maxRecDepth 100000 in
theorem tw_1189 : Cond.instanceMethod yX11_bathes ∈ lw_tbl := List.mem_of_getElem? (i := 1189) (by decide +kernel)
set_option maxRecDepth 100000 in
theorem tw_1190 : Cond.code yX11_bathes cX11_bathes 7 (some .boolean) ∈ lw_tbl := List.mem_of_getElem? (i := 1190) (by decide +kernel)
set_option maxRecDepth 100000 in
theorem tw_1191 : Cond.methodLink RX11 249 yX11_isFree ∈ lw_tbl := List.mem_of_getElem? (i := 1191) (by decide +kernel)
set_option maxRecDepth 100000 in
theorem tw_1193 : Cond.instanceMethod yX11_isFree ∈ lw_tbl := List.mem_of_getElem? (i := 1193) (by decide +kernel)
set_option maxRecDepth 100000 in
theorem tw_1194 : Cond.code yX11_isFree cX11_isFree 7 (some .boolean) ∈ lw_tbl := List.mem_of_getElem? (i := 1194) (by decide +kernel)
set_option maxRecDepth 100000 in
theorem tw_1195 : Cond.methodLink RL 68 yX11_taken ∈ lw_tbl := List.mem_of_getElem? (i := 1195) (by decide +kernel)
set_option maxRecDepth 100000 in
theorem tw_1196 : Cond.instanceMethod yX11_taken ∈ lw_tbl := List.mem_of_getElem? (i := 1196) (by decide +kernel)
set_option maxRecDepth 100000 in
theorem tw_1197 : Cond.selects RX11 yX11_taken yX11_taken ∈ lw_tbl := List.mem_of_getElem? (i := 1197) (by decide +kernel)
set_option maxRecDepth 100000 in
theorem tw_1198 : Cond.code yX11_taken cX11_taken 4 (some .int) ∈ lw_tbl := List.mem_of_getElem? (i := 1198) (by decide +kernel)
set_option maxRecDepth 100000 in
theorem tw_1199 : Cond.methodLink RL 73 yX11_best ∈ lw_tbl := List.mem_of_getElem? (i := 1199) (by decide +kernel)
set_option maxRecDepth 100000 in
theorem tw_1200 : Cond.instanceMethod yX11_best ∈ lw_tbl := List.mem_of_getElem? (i := 1200) (by decide +kernel)
set_option maxRecDepth 100000 in
theorem tw_1201 : Cond.selects RX11 yX11_best yX11_best ∈ lw_tbl := List.mem_of_getElem? (i := 1201) (by decide +kernel)
set_option maxRecDepth 100000 in
theorem tw_1202 : Cond.code yX11_best cX11_best 3 (some .int) ∈ lw_tbl := List.mem_of_getElem? (i := 1202) (by decide +kernel)
set_option maxRecDepth 100000 in
theorem tw_1203 : Cond.methodLink RX11 288 yX11_finds ∈ lw_tbl := List.mem_of_getElem? (i := 1203) (by decide +kernel)
set_option maxRecDepth 100000 in
theorem tw_1205 : Cond.instanceMethod yX11_finds ∈ lw_tbl := List.mem_of_getElem? (i := 1205) (by decide +kernel)
set_option maxRecDepth 100000 in
theorem tw_1206 : Cond.code yX11_finds cX11_finds 7 none ∈ lw_tbl := List.mem_of_getElem? (i := 1206) (by decide +kernel)
set_option maxRecDepth 100000 in
theorem tw_1207 : Cond.methodLink RX11 285 yX11_nextOrder ∈ lw_tbl := List.mem_of_getElem? (i := 1207) (by decide +kernel)
set_option maxRecDepth 100000 in
theorem tw_1209 : Cond.instanceMethod yX11_nextOrder ∈ lw_tbl := List.mem_of_getElem? (i := 1209) (by decide +kernel)
set_option maxRecDepth 100000 in
theorem tw_1210 : Cond.code yX11_nextOrder cX11_nextOrder 7 (some .boolean) ∈ lw_tbl := List.mem_of_getElem? (i := 1210) (by decide +kernel)
set_option maxRecDepth 100000 in
theorem tw_1211 : Cond.methodLink RL 78 yX11_keep ∈ lw_tbl := List.mem_of_getElem? (i := 1211) (by decide +kernel)
set_option maxRecDepth 100000 in
theorem tw_1212 : Cond.instanceMethod yX11_keep ∈ lw_tbl := List.mem_of_getElem? (i := 1212) (by decide +kernel)
set_option maxRecDepth 100000 in
theorem tw_1213 : Cond.selects RX11 yX11_keep yX11_keep ∈ lw_tbl := List.mem_of_getElem? (i := 1213) (by decide +kernel)
set_option maxRecDepth 100000 in
theorem tw_1214 : Cond.code yX11_keep cX11_keep 2 (some .boolean) ∈ lw_tbl := List.mem_of_getElem? (i := 1214) (by decide +kernel)
set_option maxRecDepth 100000 in
theorem tw_1215 : Cond.methodLink RL 82 yX11_next ∈ lw_tbl := List.mem_of_getElem? (i := 1215) (by decide +kernel)
set_option maxRecDepth 100000 in
theorem tw_1216 : Cond.instanceMethod yX11_next ∈ lw_tbl := List.mem_of_getElem? (i := 1216) (by decide +kernel)
set_option maxRecDepth 100000 in
theorem tw_1217 : Cond.selects RX11 yX11_next yX11_next ∈ lw_tbl := List.mem_of_getElem? (i := 1217) (by decide +kernel)
set_option maxRecDepth 100000 in
theorem tw_1218 : Cond.code yX11_next cX11_next 5 (some .int) ∈ lw_tbl := List.mem_of_getElem? (i := 1218) (by decide +kernel)
set_option maxRecDepth 100000 in
theorem tw_1219 : Cond.methodLink RL 86 yX11_water ∈ lw_tbl := List.mem_of_getElem? (i := 1219) (by decide +kernel)
set_option maxRecDepth 100000 in
theorem tw_1220 : Cond.instanceMethod yX11_water ∈ lw_tbl := List.mem_of_getElem? (i := 1220) (by decide +kernel)
set_option maxRecDepth 100000 in
theorem tw_1221 : Cond.selects RX11 yX11_water yX11_water ∈ lw_tbl := List.mem_of_getElem? (i := 1221) (by decide +kernel)
set_option maxRecDepth 100000 in
theorem tw_1222 : Cond.code yX11_water cX11_water 3 (some .int) ∈ lw_tbl := List.mem_of_getElem? (i := 1222) (by decide +kernel)
set_option maxRecDepth 100000 in
theorem tw_1223 : Cond.methodLink RL 90 yX11_bottles ∈ lw_tbl := List.mem_of_getElem? (i := 1223) (by decide +kernel)
set_option maxRecDepth 100000 in
theorem tw_1224 : Cond.instanceMethod yX11_bottles ∈ lw_tbl := List.mem_of_getElem? (i := 1224) (by decide +kernel)
set_option maxRecDepth 100000 in
theorem tw_1225 : Cond.selects RX11 yX11_bottles yX11_bottles ∈ lw_tbl := List.mem_of_getElem? (i := 1225) (by decide +kernel)
set_option maxRecDepth 100000 in
theorem tw_1226 : Cond.code yX11_bottles cX11_bottles 3 (some .int) ∈ lw_tbl := List.mem_of_getElem? (i := 1226) (by decide +kernel)
set_option maxRecDepth 100000 in
theorem tw_1227 : Cond.methodLink RL 94 yX11_sell ∈ lw_tbl := List.mem_of_getElem? (i := 1227) (by decide +kernel)
set_option maxRecDepth 100000 in
theorem tw_1228 : Cond.instanceMethod yX11_sell ∈ lw_tbl := List.mem_of_getElem? (i := 1228) (by decide +kernel)
set_option maxRecDepth 100000 in
theorem tw_1229 : Cond.selects RX11 yX11_sell yX11_sell ∈ lw_tbl := List.mem_of_getElem? (i := 1229) (by decide +kernel)
set_option maxRecDepth 100000 in
theorem tw_1230 : Cond.code yX11_sell cX11_sell 6 (some .int) ∈ lw_tbl := List.mem_of_getElem? (i := 1230) (by decide +kernel)
set_option maxRecDepth 100000 in
theorem tw_1231 : Cond.methodLink RL 98 yX11_bill ∈ lw_tbl := List.mem_of_getElem? (i := 1231) (by decide +kernel)
set_option maxRecDepth 100000 in
theorem tw_1232 : Cond.instanceMethod yX11_bill ∈ lw_tbl := List.mem_of_getElem? (i := 1232) (by decide +kernel)
set_option maxRecDepth 100000 in
theorem tw_1233 : Cond.selects RX11 yX11_bill yX11_bill ∈ lw_tbl := List.mem_of_getElem? (i := 1233) (by decide +kernel)
set_option maxRecDepth 100000 in
theorem tw_1234 : Cond.code yX11_bill cX11_bill 3 (some .int) ∈ lw_tbl := List.mem_of_getElem? (i := 1234) (by decide +kernel)
set_option maxRecDepth 100000 in
theorem tw_1235 : Cond.methodLink RL 59 yX11_look ∈ lw_tbl := List.mem_of_getElem? (i := 1235) (by decide +kernel)
set_option maxRecDepth 100000 in
theorem tw_1236 : Cond.instanceMethod yX11_look ∈ lw_tbl := List.mem_of_getElem? (i := 1236) (by decide +kernel)
set_option maxRecDepth 100000 in
theorem tw_1237 : Cond.selects RX11 yX11_look yX11_look ∈ lw_tbl := List.mem_of_getElem? (i := 1237) (by decide +kernel)
set_option maxRecDepth 100000 in
theorem tw_1238 : Cond.code yX11_look cX11_look 4 (some .int) ∈ lw_tbl := List.mem_of_getElem? (i := 1238) (by decide +kernel)
set_option maxRecDepth 100000 in
theorem tw_1239 : Cond.fieldLink RJ0 9 "java/lang/String" "value" "[B" ∈ lw_tbl := List.mem_of_getElem? (i := 1239) (by decide +kernel)
set_option maxRecDepth 100000 in
theorem tw_1240 : Cond.fieldLink RJ0 15 "java/lang/String" "coder" "B" ∈ lw_tbl := List.mem_of_getElem? (i := 1240) (by decide +kernel)
