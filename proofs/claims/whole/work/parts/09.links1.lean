set_option maxRecDepth 20000 in
theorem mfX1_takeOf : MFv mX1_takeOf 1 := ⟨⟨mem_g 114 (by decide +kernel) rfl, mem_gt (in_tb5 (List.mem_of_getElem? (i := 14) (by rfl))) rfl, ⟨by decide +kernel, by decide +kernel, by decide +kernel⟩, by decide⟩, mem_g 1078 (by decide +kernel) rfl, mem_g 29 (by decide +kernel) rfl⟩
set_option maxRecDepth 20000 in
theorem mfX1_learn : MFv mX1_learn 1 := ⟨⟨mem_g 114 (by decide +kernel) rfl, mem_gt (in_tb5 (List.mem_of_getElem? (i := 18) (by rfl))) rfl, ⟨by decide +kernel, by decide +kernel, by decide +kernel⟩, by decide⟩, mem_g 1082 (by decide +kernel) rfl, mem_g 30 (by decide +kernel) rfl⟩
set_option maxRecDepth 20000 in
theorem mfX2_know : MFv mX2_know 2 := ⟨⟨mem_g 115 (by decide +kernel) rfl, mem_gt (in_tb5 (List.mem_of_getElem? (i := 22) (by rfl))) rfl, ⟨by decide +kernel, by decide +kernel, by decide +kernel⟩, by decide⟩, mem_g 1085 (by decide +kernel) rfl, mem_g 1086 (by decide +kernel) rfl⟩
set_option maxRecDepth 20000 in
theorem mfX3_bestLook : MFv mX3_bestLook 1 := ⟨⟨mem_g 107 (by decide +kernel) rfl, mem_gt (in_tb5 (List.mem_of_getElem? (i := 27) (by rfl))) rfl, ⟨by decide +kernel, by decide +kernel, by decide +kernel⟩, by decide⟩, mem_g 1090 (by decide +kernel) rfl, mem_g 1091 (by decide +kernel) rfl⟩
set_option maxRecDepth 20000 in
theorem mfX2_line : MFv mX2_line 2 := ⟨⟨mem_g 115 (by decide +kernel) rfl, mem_gt (in_tb5 (List.mem_of_getElem? (i := 33) (by rfl))) rfl, ⟨by decide +kernel, by decide +kernel, by decide +kernel⟩, by decide⟩, mem_g 1096 (by decide +kernel) rfl, mem_g 1097 (by decide +kernel) rfl⟩
set_option maxRecDepth 20000 in
theorem mfX10_begins : MFv mX10_begins 2 := ⟨⟨mem_g 113 (by decide +kernel) rfl, mem_gt (in_tb5 (List.mem_of_getElem? (i := 38) (by rfl))) rfl, ⟨by decide +kernel, by decide +kernel, by decide +kernel⟩, by decide⟩, mem_g 1101 (by decide +kernel) rfl, mem_g 1102 (by decide +kernel) rfl⟩
set_option maxRecDepth 20000 in
theorem mfX10_middle : MFv mX10_middle 1 := ⟨⟨mem_g 113 (by decide +kernel) rfl, mem_gt (in_tb5 (List.mem_of_getElem? (i := 42) (by rfl))) rfl, ⟨by decide +kernel, by decide +kernel, by decide +kernel⟩, by decide⟩, mem_g 1105 (by decide +kernel) rfl, mem_g 1106 (by decide +kernel) rfl⟩
set_option maxRecDepth 20000 in
theorem mfX10_finish : MFv mX10_finish 1 := ⟨⟨mem_g 113 (by decide +kernel) rfl, mem_gt (in_tb5 (List.mem_of_getElem? (i := 46) (by rfl))) rfl, ⟨by decide +kernel, by decide +kernel, by decide +kernel⟩, by decide⟩, mem_g 1109 (by decide +kernel) rfl, mem_g 1110 (by decide +kernel) rfl⟩
set_option maxRecDepth 20000 in
theorem mfX2_run : MFv mX2_run 3 := ⟨⟨mem_g 115 (by decide +kernel) rfl, mem_gt (in_tb5 (List.mem_of_getElem? (i := 50) (by rfl))) rfl, ⟨by decide +kernel, by decide +kernel, by decide +kernel⟩, by decide⟩, mem_g 1114 (by decide +kernel) rfl, mem_g 31 (by decide +kernel) rfl⟩
set_option maxRecDepth 20000 in
theorem mfX10_step : MFv mX10_step 1 := ⟨⟨mem_g 113 (by decide +kernel) rfl, mem_gt (in_tb5 (List.mem_of_getElem? (i := 54) (by rfl))) rfl, ⟨by decide +kernel, by decide +kernel, by decide +kernel⟩, by decide⟩, mem_g 1117 (by decide +kernel) rfl, mem_g 1118 (by decide +kernel) rfl⟩
set_option maxRecDepth 20000 in
theorem mfX2_join : MFs mX2_join 3 := ⟨⟨mem_g 115 (by decide +kernel) rfl, mem_gt (in_tb5 (List.mem_of_getElem? (i := 57) (by rfl))) rfl, ⟨by decide +kernel, by decide +kernel, by decide +kernel⟩, by decide⟩, mem_g 1121 (by decide +kernel) rfl⟩
set_option maxRecDepth 20000 in
theorem mfX2_value : MFv mX2_value 2 := ⟨⟨mem_g 115 (by decide +kernel) rfl, mem_gt (in_tb5 (List.mem_of_getElem? (i := 61) (by rfl))) rfl, ⟨by decide +kernel, by decide +kernel, by decide +kernel⟩, by decide⟩, mem_g 1124 (by decide +kernel) rfl, mem_g 1125 (by decide +kernel) rfl⟩
set_option maxRecDepth 20000 in
theorem mfX10_start : MFv mX10_start 1 := ⟨⟨mem_g 113 (by decide +kernel) rfl, mem_gt (in_tb5 (List.mem_of_getElem? (i := 65) (by rfl))) rfl, ⟨by decide +kernel, by decide +kernel, by decide +kernel⟩, by decide⟩, mem_g 1128 (by decide +kernel) rfl, mem_g 1129 (by decide +kernel) rfl⟩
set_option maxRecDepth 20000 in
theorem mfX1_isTempted : MFv mX1_isTempted 3 := ⟨⟨mem_g 114 (by decide +kernel) rfl, mem_gt (in_tb5 (List.mem_of_getElem? (i := 69) (by rfl))) rfl, ⟨by decide +kernel, by decide +kernel, by decide +kernel⟩, by decide⟩, mem_g 1133 (by decide +kernel) rfl, mem_g 32 (by decide +kernel) rfl⟩
set_option maxRecDepth 20000 in
theorem mfX4_bind : MFv mX4_bind 2 := ⟨⟨mem_g 131 (by decide +kernel) rfl, mem_gt (in_tb5 (List.mem_of_getElem? (i := 73) (by rfl))) rfl, ⟨by decide +kernel, by decide +kernel, by decide +kernel⟩, by decide⟩, mem_g 1136 (by decide +kernel) rfl, mem_g 1137 (by decide +kernel) rfl⟩
set_option maxRecDepth 20000 in
theorem mfX1_countPairs : MFv mX1_countPairs 0 := ⟨⟨mem_g 114 (by decide +kernel) rfl, mem_gt (in_tb5 (List.mem_of_getElem? (i := 77) (by rfl))) rfl, ⟨by decide +kernel, by decide +kernel, by decide +kernel⟩, by decide⟩, mem_g 1140 (by decide +kernel) rfl, mem_g 1141 (by decide +kernel) rfl⟩
set_option maxRecDepth 20000 in
theorem mfX11_one : MFv mX11_one 2 := ⟨⟨mem_g 106 (by decide +kernel) rfl, mem_gt (in_tb5 (List.mem_of_getElem? (i := 81) (by rfl))) rfl, ⟨by decide +kernel, by decide +kernel, by decide +kernel⟩, by decide⟩, mem_g 1144 (by decide +kernel) rfl, mem_g 1145 (by decide +kernel) rfl⟩
set_option maxRecDepth 20000 in
theorem mfX1_about : MFv mX1_about 2 := ⟨⟨mem_g 114 (by decide +kernel) rfl, mem_gt (in_tb5 (List.mem_of_getElem? (i := 85) (by rfl))) rfl, ⟨by decide +kernel, by decide +kernel, by decide +kernel⟩, by decide⟩, mem_g 1148 (by decide +kernel) rfl, mem_g 1149 (by decide +kernel) rfl⟩
set_option maxRecDepth 20000 in
theorem mfX1_leaveOf : MFv mX1_leaveOf 1 := ⟨⟨mem_g 114 (by decide +kernel) rfl, mem_gt (in_tb5 (List.mem_of_getElem? (i := 90) (by rfl))) rfl, ⟨by decide +kernel, by decide +kernel, by decide +kernel⟩, by decide⟩, mem_g 1154 (by decide +kernel) rfl, mem_g 33 (by decide +kernel) rfl⟩
set_option maxRecDepth 20000 in
theorem mfX11_all : MFv mX11_all 3 := ⟨⟨mem_g 106 (by decide +kernel) rfl, mem_gt (in_tb5 (List.mem_of_getElem? (i := 94) (by rfl))) rfl, ⟨by decide +kernel, by decide +kernel, by decide +kernel⟩, by decide⟩, mem_g 1157 (by decide +kernel) rfl, mem_g 1158 (by decide +kernel) rfl⟩
set_option maxRecDepth 20000 in
theorem mfX1_together : MFv mX1_together 3 := ⟨⟨mem_g 114 (by decide +kernel) rfl, mem_gt (in_tb5 (List.mem_of_getElem? (i := 98) (by rfl))) rfl, ⟨by decide +kernel, by decide +kernel, by decide +kernel⟩, by decide⟩, mem_g 1161 (by decide +kernel) rfl, mem_g 1162 (by decide +kernel) rfl⟩
set_option maxRecDepth 20000 in
theorem mfX11_town : MFv mX11_town 1 := ⟨⟨mem_g 106 (by decide +kernel) rfl, mem_gt (in_tb5 (List.mem_of_getElem? (i := 103) (by rfl))) rfl, ⟨by decide +kernel, by decide +kernel, by decide +kernel⟩, by decide⟩, mem_g 1166 (by decide +kernel) rfl, mem_g 1167 (by decide +kernel) rfl⟩
set_option maxRecDepth 20000 in
theorem mfX1_stateNow : MFv mX1_stateNow 0 := ⟨⟨mem_g 114 (by decide +kernel) rfl, mem_gt (in_tb5 (List.mem_of_getElem? (i := 107) (by rfl))) rfl, ⟨by decide +kernel, by decide +kernel, by decide +kernel⟩, by decide⟩, mem_g 1170 (by decide +kernel) rfl, mem_g 1171 (by decide +kernel) rfl⟩
set_option maxRecDepth 20000 in
theorem mfX11_feast : MFv mX11_feast 1 := ⟨⟨mem_g 106 (by decide +kernel) rfl, mem_gt (in_tb5 (List.mem_of_getElem? (i := 111) (by rfl))) rfl, ⟨by decide +kernel, by decide +kernel, by decide +kernel⟩, by decide⟩, mem_g 1174 (by decide +kernel) rfl, mem_g 1175 (by decide +kernel) rfl⟩
set_option maxRecDepth 20000 in
theorem mfX0_invite : MFv mX0_invite 1 := ⟨⟨mem_g 122 (by decide +kernel) rfl, mem_gt (in_tb5 (List.mem_of_getElem? (i := 115) (by rfl))) rfl, ⟨by decide +kernel, by decide +kernel, by decide +kernel⟩, by decide⟩, mem_g 1178 (by decide +kernel) rfl, mem_g 1179 (by decide +kernel) rfl⟩
set_option maxRecDepth 20000 in
theorem mfX5_clear : MFv mX5_clear 0 := ⟨⟨mem_g 123 (by decide +kernel) rfl, mem_gt (in_tb5 (List.mem_of_getElem? (i := 120) (by rfl))) rfl, ⟨by decide +kernel, by decide +kernel, by decide +kernel⟩, by decide⟩, mem_g 1183 (by decide +kernel) rfl, mem_g 1184 (by decide +kernel) rfl⟩
set_option maxRecDepth 20000 in
theorem mfX11_likes : MFv mX11_likes 4 := ⟨⟨mem_g 106 (by decide +kernel) rfl, mem_gt (in_tb5 (List.mem_of_getElem? (i := 125) (by rfl))) rfl, ⟨by decide +kernel, by decide +kernel, by decide +kernel⟩, by decide⟩, mem_g 1188 (by decide +kernel) rfl, mem_g 1189 (by decide +kernel) rfl⟩
set_option maxRecDepth 20000 in
theorem mfX0_isGuest : MFv mX0_isGuest 1 := ⟨⟨mem_g 122 (by decide +kernel) rfl, mem_gt (in_tb5 (List.mem_of_getElem? (i := 129) (by rfl))) rfl, ⟨by decide +kernel, by decide +kernel, by decide +kernel⟩, by decide⟩, mem_g 1192 (by decide +kernel) rfl, mem_g 1193 (by decide +kernel) rfl⟩
set_option maxRecDepth 20000 in
theorem mfX0_tell : MFv mX0_tell 4 := ⟨⟨mem_g 122 (by decide +kernel) rfl, mem_gt (in_tb5 (List.mem_of_getElem? (i := 133) (by rfl))) rfl, ⟨by decide +kernel, by decide +kernel, by decide +kernel⟩, by decide⟩, mem_g 1196 (by decide +kernel) rfl, mem_g 1197 (by decide +kernel) rfl⟩
set_option maxRecDepth 20000 in
theorem mfX11_holds : MFv mX11_holds 0 := ⟨⟨mem_g 106 (by decide +kernel) rfl, mem_gt (in_tb5 (List.mem_of_getElem? (i := 138) (by rfl))) rfl, ⟨by decide +kernel, by decide +kernel, by decide +kernel⟩, by decide⟩, mem_g 1201 (by decide +kernel) rfl, mem_g 1202 (by decide +kernel) rfl⟩
set_option maxRecDepth 20000 in
theorem mfX0_refresh : MFv mX0_refresh 0 := ⟨⟨mem_g 122 (by decide +kernel) rfl, mem_gt (in_tb5 (List.mem_of_getElem? (i := 142) (by rfl))) rfl, ⟨by decide +kernel, by decide +kernel, by decide +kernel⟩, by decide⟩, mem_g 1205 (by decide +kernel) rfl, mem_g 1206 (by decide +kernel) rfl⟩
set_option maxRecDepth 20000 in
theorem mfX0_seat : MFv mX0_seat 2 := ⟨⟨mem_g 122 (by decide +kernel) rfl, mem_gt (in_tb5 (List.mem_of_getElem? (i := 146) (by rfl))) rfl, ⟨by decide +kernel, by decide +kernel, by decide +kernel⟩, by decide⟩, mem_g 1210 (by decide +kernel) rfl, mem_g 34 (by decide +kernel) rfl⟩
set_option maxRecDepth 20000 in
theorem mfX0_keepSeats : MFv mX0_keepSeats 0 := ⟨⟨mem_g 122 (by decide +kernel) rfl, mem_gt (in_tb5 (List.mem_of_getElem? (i := 150) (by rfl))) rfl, ⟨by decide +kernel, by decide +kernel, by decide +kernel⟩, by decide⟩, mem_g 1214 (by decide +kernel) rfl, mem_g 35 (by decide +kernel) rfl⟩
set_option maxRecDepth 20000 in
theorem mfJ7_copyOf_59c91 : MFs mJ7_copyOf_59c91 2 := ⟨⟨mem_g 108 (by decide +kernel) rfl, mem_gt (in_tb5 (List.mem_of_getElem? (i := 153) (by rfl))) rfl, ⟨by decide +kernel, by decide +kernel, by decide +kernel⟩, by decide⟩, mem_g 1217 (by decide +kernel) rfl⟩
set_option maxRecDepth 20000 in
theorem mfX0_isQuiet : MFv mX0_isQuiet 2 := ⟨⟨mem_g 122 (by decide +kernel) rfl, mem_gt (in_tb5 (List.mem_of_getElem? (i := 164) (by rfl))) rfl, ⟨by decide +kernel, by decide +kernel, by decide +kernel⟩, by decide⟩, mem_g 1228 (by decide +kernel) rfl, mem_g 36 (by decide +kernel) rfl⟩
set_option maxRecDepth 20000 in
theorem mfX0_likesMore : MFv mX0_likesMore 4 := ⟨⟨mem_g 122 (by decide +kernel) rfl, mem_gt (in_tb5 (List.mem_of_getElem? (i := 168) (by rfl))) rfl, ⟨by decide +kernel, by decide +kernel, by decide +kernel⟩, by decide⟩, mem_g 1232 (by decide +kernel) rfl, mem_g 37 (by decide +kernel) rfl⟩
set_option maxRecDepth 20000 in
theorem mfX0_liked : MFv mX0_liked 3 := ⟨⟨mem_g 122 (by decide +kernel) rfl, mem_gt (in_tb5 (List.mem_of_getElem? (i := 172) (by rfl))) rfl, ⟨by decide +kernel, by decide +kernel, by decide +kernel⟩, by decide⟩, mem_g 1235 (by decide +kernel) rfl, mem_g 1236 (by decide +kernel) rfl⟩
set_option maxRecDepth 20000 in
theorem mfX0_findBests : MFv mX0_findBests 0 := ⟨⟨mem_g 122 (by decide +kernel) rfl, mem_gt (in_tb5 (List.mem_of_getElem? (i := 176) (by rfl))) rfl, ⟨by decide +kernel, by decide +kernel, by decide +kernel⟩, by decide⟩, mem_g 1240 (by decide +kernel) rfl, mem_g 38 (by decide +kernel) rfl⟩
set_option maxRecDepth 20000 in
theorem mfX0_rankSum : MFv mX0_rankSum 2 := ⟨⟨mem_g 122 (by decide +kernel) rfl, mem_gt (in_tb5 (List.mem_of_getElem? (i := 180) (by rfl))) rfl, ⟨by decide +kernel, by decide +kernel, by decide +kernel⟩, by decide⟩, mem_g 1244 (by decide +kernel) rfl, mem_g 39 (by decide +kernel) rfl⟩
set_option maxRecDepth 20000 in
theorem mfX0_womanOf : MFv mX0_womanOf 2 := ⟨⟨mem_g 122 (by decide +kernel) rfl, mem_gt (in_tb5 (List.mem_of_getElem? (i := 184) (by rfl))) rfl, ⟨by decide +kernel, by decide +kernel, by decide +kernel⟩, by decide⟩, mem_g 1247 (by decide +kernel) rfl, mem_g 1248 (by decide +kernel) rfl⟩
set_option maxRecDepth 20000 in
theorem mfX0_total : MFv mX0_total 1 := ⟨⟨mem_g 122 (by decide +kernel) rfl, mem_gt (in_tb5 (List.mem_of_getElem? (i := 188) (by rfl))) rfl, ⟨by decide +kernel, by decide +kernel, by decide +kernel⟩, by decide⟩, mem_g 1251 (by decide +kernel) rfl, mem_g 1252 (by decide +kernel) rfl⟩
set_option maxRecDepth 20000 in
theorem mfX0_sum : MFv mX0_sum 2 := ⟨⟨mem_g 122 (by decide +kernel) rfl, mem_gt (in_tb5 (List.mem_of_getElem? (i := 192) (by rfl))) rfl, ⟨by decide +kernel, by decide +kernel, by decide +kernel⟩, by decide⟩, mem_g 1255 (by decide +kernel) rfl, mem_g 1256 (by decide +kernel) rfl⟩
set_option maxRecDepth 20000 in
theorem mfX0_findMost : MFv mX0_findMost 0 := ⟨⟨mem_g 122 (by decide +kernel) rfl, mem_gt (in_tb5 (List.mem_of_getElem? (i := 197) (by rfl))) rfl, ⟨by decide +kernel, by decide +kernel, by decide +kernel⟩, by decide⟩, mem_g 1261 (by decide +kernel) rfl, mem_g 40 (by decide +kernel) rfl⟩
set_option maxRecDepth 20000 in
theorem mfJ6_bitCount_0f7a4 : MFs mJ6_bitCount_0f7a4 1 := ⟨⟨mem_g 132 (by decide +kernel) rfl, mem_gt (in_tb5 (List.mem_of_getElem? (i := 200) (by rfl))) rfl, ⟨by decide +kernel, by decide +kernel, by decide +kernel⟩, by decide⟩, mem_g 1264 (by decide +kernel) rfl⟩
set_option maxRecDepth 20000 in
theorem mfX0_firstOfMost : MFv mX0_firstOfMost 2 := ⟨⟨mem_g 122 (by decide +kernel) rfl, mem_gt (in_tb5 (List.mem_of_getElem? (i := 207) (by rfl))) rfl, ⟨by decide +kernel, by decide +kernel, by decide +kernel⟩, by decide⟩, mem_g 1271 (by decide +kernel) rfl, mem_g 41 (by decide +kernel) rfl⟩
set_option maxRecDepth 20000 in
theorem mfX0_count : MFv mX0_count 0 := ⟨⟨mem_g 122 (by decide +kernel) rfl, mem_gt (in_tb5 (List.mem_of_getElem? (i := 211) (by rfl))) rfl, ⟨by decide +kernel, by decide +kernel, by decide +kernel⟩, by decide⟩, mem_g 1274 (by decide +kernel) rfl, mem_g 1275 (by decide +kernel) rfl⟩
set_option maxRecDepth 20000 in
theorem mfX11_pairing : MFv mX11_pairing 2 := ⟨⟨mem_g 106 (by decide +kernel) rfl, mem_gt (in_tb5 (List.mem_of_getElem? (i := 215) (by rfl))) rfl, ⟨by decide +kernel, by decide +kernel, by decide +kernel⟩, by decide⟩, mem_g 1278 (by decide +kernel) rfl, mem_g 1279 (by decide +kernel) rfl⟩
set_option maxRecDepth 20000 in
theorem mfX0_greatest : MFv mX0_greatest 0 := ⟨⟨mem_g 122 (by decide +kernel) rfl, mem_gt (in_tb5 (List.mem_of_getElem? (i := 219) (by rfl))) rfl, ⟨by decide +kernel, by decide +kernel, by decide +kernel⟩, by decide⟩, mem_g 1282 (by decide +kernel) rfl, mem_g 1283 (by decide +kernel) rfl⟩
set_option maxRecDepth 20000 in
theorem mfX0_mostOf : MFv mX0_mostOf 1 := ⟨⟨mem_g 122 (by decide +kernel) rfl, mem_gt (in_tb5 (List.mem_of_getElem? (i := 223) (by rfl))) rfl, ⟨by decide +kernel, by decide +kernel, by decide +kernel⟩, by decide⟩, mem_g 1286 (by decide +kernel) rfl, mem_g 1287 (by decide +kernel) rfl⟩
set_option maxRecDepth 20000 in
theorem mfX0_bestFor : MFv mX0_bestFor 1 := ⟨⟨mem_g 122 (by decide +kernel) rfl, mem_gt (in_tb5 (List.mem_of_getElem? (i := 227) (by rfl))) rfl, ⟨by decide +kernel, by decide +kernel, by decide +kernel⟩, by decide⟩, mem_g 1290 (by decide +kernel) rfl, mem_g 1291 (by decide +kernel) rfl⟩
set_option maxRecDepth 20000 in
theorem mfX11_mended : MFv mX11_mended 0 := ⟨⟨mem_g 106 (by decide +kernel) rfl, mem_gt (in_tb5 (List.mem_of_getElem? (i := 233) (by rfl))) rfl, ⟨by decide +kernel, by decide +kernel, by decide +kernel⟩, by decide⟩, mem_g 1296 (by decide +kernel) rfl, mem_g 1297 (by decide +kernel) rfl⟩
set_option maxRecDepth 20000 in
theorem mfX0_greatestThatHolds : MFv mX0_greatestThatHolds 0 := ⟨⟨mem_g 122 (by decide +kernel) rfl, mem_gt (in_tb5 (List.mem_of_getElem? (i := 237) (by rfl))) rfl, ⟨by decide +kernel, by decide +kernel, by decide +kernel⟩, by decide⟩, mem_g 1300 (by decide +kernel) rfl, mem_g 1301 (by decide +kernel) rfl⟩
set_option maxRecDepth 20000 in
theorem mfX11_price : MFv mX11_price 2 := ⟨⟨mem_g 106 (by decide +kernel) rfl, mem_gt (in_tb6 (List.mem_of_getElem? (i := 1) (by rfl))) rfl, ⟨by decide +kernel, by decide +kernel, by decide +kernel⟩, by decide⟩, mem_g 1304 (by decide +kernel) rfl, mem_g 1305 (by decide +kernel) rfl⟩
set_option maxRecDepth 20000 in
theorem mfX5_ask : MFv mX5_ask 2 := ⟨⟨mem_g 123 (by decide +kernel) rfl, mem_gt (in_tb6 (List.mem_of_getElem? (i := 5) (by rfl))) rfl, ⟨by decide +kernel, by decide +kernel, by decide +kernel⟩, by decide⟩, mem_g 1308 (by decide +kernel) rfl, mem_g 1309 (by decide +kernel) rfl⟩
set_option maxRecDepth 20000 in
theorem mfX11_sums : MFv mX11_sums 2 := ⟨⟨mem_g 106 (by decide +kernel) rfl, mem_gt (in_tb6 (List.mem_of_getElem? (i := 9) (by rfl))) rfl, ⟨by decide +kernel, by decide +kernel, by decide +kernel⟩, by decide⟩, mem_g 1312 (by decide +kernel) rfl, mem_g 1313 (by decide +kernel) rfl⟩
set_option maxRecDepth 20000 in
theorem mfX5_priceFits : MFv mX5_priceFits 0 := ⟨⟨mem_g 123 (by decide +kernel) rfl, mem_gt (in_tb6 (List.mem_of_getElem? (i := 13) (by rfl))) rfl, ⟨by decide +kernel, by decide +kernel, by decide +kernel⟩, by decide⟩, mem_g 1316 (by decide +kernel) rfl, mem_g 1317 (by decide +kernel) rfl⟩
set_option maxRecDepth 20000 in
theorem mfX0_guests : MFv mX0_guests 0 := ⟨⟨mem_g 122 (by decide +kernel) rfl, mem_gt (in_tb6 (List.mem_of_getElem? (i := 17) (by rfl))) rfl, ⟨by decide +kernel, by decide +kernel, by decide +kernel⟩, by decide⟩, mem_g 1320 (by decide +kernel) rfl, mem_g 1321 (by decide +kernel) rfl⟩
set_option maxRecDepth 20000 in
theorem mfX5_left : MFv mX5_left 2 := ⟨⟨mem_g 123 (by decide +kernel) rfl, mem_gt (in_tb6 (List.mem_of_getElem? (i := 22) (by rfl))) rfl, ⟨by decide +kernel, by decide +kernel, by decide +kernel⟩, by decide⟩, mem_g 1326 (by decide +kernel) rfl, mem_g 42 (by decide +kernel) rfl⟩
set_option maxRecDepth 20000 in
theorem mfX5_wantedBy : MFv mX5_wantedBy 1 := ⟨⟨mem_g 123 (by decide +kernel) rfl, mem_gt (in_tb6 (List.mem_of_getElem? (i := 27) (by rfl))) rfl, ⟨by decide +kernel, by decide +kernel, by decide +kernel⟩, by decide⟩, mem_g 1330 (by decide +kernel) rfl, mem_g 1331 (by decide +kernel) rfl⟩
set_option maxRecDepth 20000 in
theorem mfX5_leastOf : MFv mX5_leastOf 1 := ⟨⟨mem_g 123 (by decide +kernel) rfl, mem_gt (in_tb6 (List.mem_of_getElem? (i := 32) (by rfl))) rfl, ⟨by decide +kernel, by decide +kernel, by decide +kernel⟩, by decide⟩, mem_g 1335 (by decide +kernel) rfl, mem_g 1336 (by decide +kernel) rfl⟩
set_option maxRecDepth 20000 in
theorem mfX5_pushUp : MFv mX5_pushUp 2 := ⟨⟨mem_g 123 (by decide +kernel) rfl, mem_gt (in_tb6 (List.mem_of_getElem? (i := 36) (by rfl))) rfl, ⟨by decide +kernel, by decide +kernel, by decide +kernel⟩, by decide⟩, mem_g 1340 (by decide +kernel) rfl, mem_g 43 (by decide +kernel) rfl⟩
set_option maxRecDepth 20000 in
theorem mfX12_init : MFi mX12_init 0 := ⟨⟨mem_g 124 (by decide +kernel) rfl, mem_gt (in_tb6 (List.mem_of_getElem? (i := 42) (by rfl))) rfl, ⟨by decide +kernel, by decide +kernel, by decide +kernel⟩, by decide⟩, rfl, mem_g 1346 (by decide +kernel) rfl, rfl⟩
set_option maxRecDepth 20000 in
theorem mfX12_sorts : MFv mX12_sorts 2 := ⟨⟨mem_g 124 (by decide +kernel) rfl, mem_gt (in_tb7 (List.mem_of_getElem? (i := 32) (by rfl))) rfl, ⟨by decide +kernel, by decide +kernel, by decide +kernel⟩, by decide⟩, mem_g 1575 (by decide +kernel) rfl, mem_g 1576 (by decide +kernel) rfl⟩
set_option maxRecDepth 20000 in
theorem mfX12_isSide : MFv mX12_isSide 1 := ⟨⟨mem_g 124 (by decide +kernel) rfl, mem_gt (in_tb7 (List.mem_of_getElem? (i := 36) (by rfl))) rfl, ⟨by decide +kernel, by decide +kernel, by decide +kernel⟩, by decide⟩, mem_g 1580 (by decide +kernel) rfl, mem_g 44 (by decide +kernel) rfl⟩
set_option maxRecDepth 20000 in
theorem mfX12_isIn : MFv mX12_isIn 3 := ⟨⟨mem_g 124 (by decide +kernel) rfl, mem_gt (in_tb7 (List.mem_of_getElem? (i := 40) (by rfl))) rfl, ⟨by decide +kernel, by decide +kernel, by decide +kernel⟩, by decide⟩, mem_g 1584 (by decide +kernel) rfl, mem_g 45 (by decide +kernel) rfl⟩
set_option maxRecDepth 20000 in
theorem mfX12_look : MFv mX12_look 4 := ⟨⟨mem_g 124 (by decide +kernel) rfl, mem_gt (in_tb7 (List.mem_of_getElem? (i := 44) (by rfl))) rfl, ⟨by decide +kernel, by decide +kernel, by decide +kernel⟩, by decide⟩, mem_g 1587 (by decide +kernel) rfl, mem_g 1588 (by decide +kernel) rfl⟩
set_option maxRecDepth 20000 in
theorem mfX12_isSort : MFv mX12_isSort 2 := ⟨⟨mem_g 124 (by decide +kernel) rfl, mem_gt (in_tb7 (List.mem_of_getElem? (i := 48) (by rfl))) rfl, ⟨by decide +kernel, by decide +kernel, by decide +kernel⟩, by decide⟩, mem_g 1592 (by decide +kernel) rfl, mem_g 46 (by decide +kernel) rfl⟩
set_option maxRecDepth 20000 in
theorem mfX12_worth : MFv mX12_worth 4 := ⟨⟨mem_g 124 (by decide +kernel) rfl, mem_gt (in_tb7 (List.mem_of_getElem? (i := 52) (by rfl))) rfl, ⟨by decide +kernel, by decide +kernel, by decide +kernel⟩, by decide⟩, mem_g 1595 (by decide +kernel) rfl, mem_g 1596 (by decide +kernel) rfl⟩
set_option maxRecDepth 20000 in
theorem mfX12_set : MFv mX12_set 2 := ⟨⟨mem_g 124 (by decide +kernel) rfl, mem_gt (in_tb7 (List.mem_of_getElem? (i := 56) (by rfl))) rfl, ⟨by decide +kernel, by decide +kernel, by decide +kernel⟩, by decide⟩, mem_g 1599 (by decide +kernel) rfl, mem_g 1600 (by decide +kernel) rfl⟩
set_option maxRecDepth 20000 in
theorem mfX12_classes : MFv mX12_classes 2 := ⟨⟨mem_g 124 (by decide +kernel) rfl, mem_gt (in_tb7 (List.mem_of_getElem? (i := 60) (by rfl))) rfl, ⟨by decide +kernel, by decide +kernel, by decide +kernel⟩, by decide⟩, mem_g 1603 (by decide +kernel) rfl, mem_g 1604 (by decide +kernel) rfl⟩
set_option maxRecDepth 20000 in
theorem mfX12_areFalling : MFv mX12_areFalling 0 := ⟨⟨mem_g 124 (by decide +kernel) rfl, mem_gt (in_tb7 (List.mem_of_getElem? (i := 65) (by rfl))) rfl, ⟨by decide +kernel, by decide +kernel, by decide +kernel⟩, by decide⟩, mem_g 1609 (by decide +kernel) rfl, mem_g 47 (by decide +kernel) rfl⟩
set_option maxRecDepth 20000 in
theorem mfX12_findsClasses : MFv mX12_findsClasses 0 := ⟨⟨mem_g 124 (by decide +kernel) rfl, mem_gt (in_tb7 (List.mem_of_getElem? (i := 69) (by rfl))) rfl, ⟨by decide +kernel, by decide +kernel, by decide +kernel⟩, by decide⟩, mem_g 1613 (by decide +kernel) rfl, mem_g 48 (by decide +kernel) rfl⟩
set_option maxRecDepth 20000 in
theorem mfX12_barFrom : MFv mX12_barFrom 2 := ⟨⟨mem_g 124 (by decide +kernel) rfl, mem_gt (in_tb7 (List.mem_of_getElem? (i := 73) (by rfl))) rfl, ⟨by decide +kernel, by decide +kernel, by decide +kernel⟩, by decide⟩, mem_g 1617 (by decide +kernel) rfl, mem_g 49 (by decide +kernel) rfl⟩
set_option maxRecDepth 20000 in
theorem mfX12_patience : MFv mX12_patience 3 := ⟨⟨mem_g 124 (by decide +kernel) rfl, mem_gt (in_tb7 (List.mem_of_getElem? (i := 77) (by rfl))) rfl, ⟨by decide +kernel, by decide +kernel, by decide +kernel⟩, by decide⟩, mem_g 1620 (by decide +kernel) rfl, mem_g 1621 (by decide +kernel) rfl⟩
set_option maxRecDepth 20000 in
theorem mfX12_findsWaits : MFv mX12_findsWaits 0 := ⟨⟨mem_g 124 (by decide +kernel) rfl, mem_gt (in_tb7 (List.mem_of_getElem? (i := 81) (by rfl))) rfl, ⟨by decide +kernel, by decide +kernel, by decide +kernel⟩, by decide⟩, mem_g 1625 (by decide +kernel) rfl, mem_g 50 (by decide +kernel) rfl⟩
set_option maxRecDepth 20000 in
theorem mfX12_waitAhead : MFv mX12_waitAhead 3 := ⟨⟨mem_g 124 (by decide +kernel) rfl, mem_gt (in_tb7 (List.mem_of_getElem? (i := 85) (by rfl))) rfl, ⟨by decide +kernel, by decide +kernel, by decide +kernel⟩, by decide⟩, mem_g 1629 (by decide +kernel) rfl, mem_g 51 (by decide +kernel) rfl⟩
set_option maxRecDepth 20000 in
theorem mfX12_takes : MFv mX12_takes 4 := ⟨⟨mem_g 124 (by decide +kernel) rfl, mem_gt (in_tb7 (List.mem_of_getElem? (i := 89) (by rfl))) rfl, ⟨by decide +kernel, by decide +kernel, by decide +kernel⟩, by decide⟩, mem_g 1633 (by decide +kernel) rfl, mem_g 52 (by decide +kernel) rfl⟩
set_option maxRecDepth 20000 in
theorem mfX12_worthTo : MFv mX12_worthTo 3 := ⟨⟨mem_g 124 (by decide +kernel) rfl, mem_gt (in_tb7 (List.mem_of_getElem? (i := 93) (by rfl))) rfl, ⟨by decide +kernel, by decide +kernel, by decide +kernel⟩, by decide⟩, mem_g 1637 (by decide +kernel) rfl, mem_g 53 (by decide +kernel) rfl⟩
set_option maxRecDepth 20000 in
theorem mfX12_waitOf : MFv mX12_waitOf 3 := ⟨⟨mem_g 124 (by decide +kernel) rfl, mem_gt (in_tb7 (List.mem_of_getElem? (i := 97) (by rfl))) rfl, ⟨by decide +kernel, by decide +kernel, by decide +kernel⟩, by decide⟩, mem_g 1641 (by decide +kernel) rfl, mem_g 54 (by decide +kernel) rfl⟩
set_option maxRecDepth 20000 in
theorem mfX12_pairs : MFv mX12_pairs 4 := ⟨⟨mem_g 124 (by decide +kernel) rfl, mem_gt (in_tb7 (List.mem_of_getElem? (i := 101) (by rfl))) rfl, ⟨by decide +kernel, by decide +kernel, by decide +kernel⟩, by decide⟩, mem_g 1644 (by decide +kernel) rfl, mem_g 1645 (by decide +kernel) rfl⟩
set_option maxRecDepth 20000 in
theorem mfX12_feed : MFv mX12_feed 5 := ⟨⟨mem_g 124 (by decide +kernel) rfl, mem_gt (in_tb7 (List.mem_of_getElem? (i := 105) (by rfl))) rfl, ⟨by decide +kernel, by decide +kernel, by decide +kernel⟩, by decide⟩, mem_g 1648 (by decide +kernel) rfl, mem_g 1649 (by decide +kernel) rfl⟩
set_option maxRecDepth 20000 in
theorem mfX12_puts : MFv mX12_puts 1 := ⟨⟨mem_g 124 (by decide +kernel) rfl, mem_gt (in_tb7 (List.mem_of_getElem? (i := 109) (by rfl))) rfl, ⟨by decide +kernel, by decide +kernel, by decide +kernel⟩, by decide⟩, mem_g 1653 (by decide +kernel) rfl, mem_g 55 (by decide +kernel) rfl⟩
set_option maxRecDepth 20000 in
theorem mfX12_end : MFv mX12_end 1 := ⟨⟨mem_g 124 (by decide +kernel) rfl, mem_gt (in_tb7 (List.mem_of_getElem? (i := 113) (by rfl))) rfl, ⟨by decide +kernel, by decide +kernel, by decide +kernel⟩, by decide⟩, mem_g 1656 (by decide +kernel) rfl, mem_g 1657 (by decide +kernel) rfl⟩
set_option maxRecDepth 20000 in
theorem mfX12_way : MFv mX12_way 1 := ⟨⟨mem_g 124 (by decide +kernel) rfl, mem_gt (in_tb7 (List.mem_of_getElem? (i := 117) (by rfl))) rfl, ⟨by decide +kernel, by decide +kernel, by decide +kernel⟩, by decide⟩, mem_g 1660 (by decide +kernel) rfl, mem_g 1661 (by decide +kernel) rfl⟩
set_option maxRecDepth 20000 in
theorem mfX12_readWay : MFv mX12_readWay 0 := ⟨⟨mem_g 124 (by decide +kernel) rfl, mem_gt (in_tb7 (List.mem_of_getElem? (i := 121) (by rfl))) rfl, ⟨by decide +kernel, by decide +kernel, by decide +kernel⟩, by decide⟩, mem_g 1665 (by decide +kernel) rfl, mem_g 56 (by decide +kernel) rfl⟩
set_option maxRecDepth 20000 in
theorem mfX12_reads : MFv mX12_reads 0 := ⟨⟨mem_g 124 (by decide +kernel) rfl, mem_gt (in_tb7 (List.mem_of_getElem? (i := 125) (by rfl))) rfl, ⟨by decide +kernel, by decide +kernel, by decide +kernel⟩, by decide⟩, mem_g 1669 (by decide +kernel) rfl, mem_g 57 (by decide +kernel) rfl⟩
set_option maxRecDepth 20000 in
theorem mfX12_raw : MFv mX12_raw 1 := ⟨⟨mem_g 124 (by decide +kernel) rfl, mem_gt (in_tb7 (List.mem_of_getElem? (i := 129) (by rfl))) rfl, ⟨by decide +kernel, by decide +kernel, by decide +kernel⟩, by decide⟩, mem_g 1673 (by decide +kernel) rfl, mem_g 58 (by decide +kernel) rfl⟩
set_option maxRecDepth 20000 in
theorem mfX12_isLetter : MFv mX12_isLetter 1 := ⟨⟨mem_g 124 (by decide +kernel) rfl, mem_gt (in_tb7 (List.mem_of_getElem? (i := 133) (by rfl))) rfl, ⟨by decide +kernel, by decide +kernel, by decide +kernel⟩, by decide⟩, mem_g 1677 (by decide +kernel) rfl, mem_g 59 (by decide +kernel) rfl⟩
set_option maxRecDepth 20000 in
theorem mfX12_wordAt : MFv mX12_wordAt 2 := ⟨⟨mem_g 124 (by decide +kernel) rfl, mem_gt (in_tb7 (List.mem_of_getElem? (i := 137) (by rfl))) rfl, ⟨by decide +kernel, by decide +kernel, by decide +kernel⟩, by decide⟩, mem_g 1681 (by decide +kernel) rfl, mem_g 60 (by decide +kernel) rfl⟩
set_option maxRecDepth 20000 in
theorem mfX12_isDigit : MFv mX12_isDigit 1 := ⟨⟨mem_g 124 (by decide +kernel) rfl, mem_gt (in_tb7 (List.mem_of_getElem? (i := 141) (by rfl))) rfl, ⟨by decide +kernel, by decide +kernel, by decide +kernel⟩, by decide⟩, mem_g 1685 (by decide +kernel) rfl, mem_g 61 (by decide +kernel) rfl⟩
set_option maxRecDepth 20000 in
theorem mfX12_isMarkSign : MFv mX12_isMarkSign 1 := ⟨⟨mem_g 124 (by decide +kernel) rfl, mem_gt (in_tb7 (List.mem_of_getElem? (i := 145) (by rfl))) rfl, ⟨by decide +kernel, by decide +kernel, by decide +kernel⟩, by decide⟩, mem_g 1689 (by decide +kernel) rfl, mem_g 62 (by decide +kernel) rfl⟩
set_option maxRecDepth 20000 in
theorem mfX12_isWord : MFv mX12_isWord 1 := ⟨⟨mem_g 124 (by decide +kernel) rfl, mem_gt (in_tb7 (List.mem_of_getElem? (i := 149) (by rfl))) rfl, ⟨by decide +kernel, by decide +kernel, by decide +kernel⟩, by decide⟩, mem_g 1693 (by decide +kernel) rfl, mem_g 63 (by decide +kernel) rfl⟩
set_option maxRecDepth 20000 in
theorem mfX12_fails : MFv mX12_fails 1 := ⟨⟨mem_g 124 (by decide +kernel) rfl, mem_gt (in_tb7 (List.mem_of_getElem? (i := 153) (by rfl))) rfl, ⟨by decide +kernel, by decide +kernel, by decide +kernel⟩, by decide⟩, mem_g 1697 (by decide +kernel) rfl, mem_g 64 (by decide +kernel) rfl⟩
set_option maxRecDepth 20000 in
theorem mfX12_readLine : MFv mX12_readLine 1 := ⟨⟨mem_g 124 (by decide +kernel) rfl, mem_gt (in_tb7 (List.mem_of_getElem? (i := 157) (by rfl))) rfl, ⟨by decide +kernel, by decide +kernel, by decide +kernel⟩, by decide⟩, mem_g 1701 (by decide +kernel) rfl, mem_g 65 (by decide +kernel) rfl⟩
set_option maxRecDepth 20000 in
theorem mfX12_readSum : MFv mX12_readSum 0 := ⟨⟨mem_g 124 (by decide +kernel) rfl, mem_gt (in_tb7 (List.mem_of_getElem? (i := 161) (by rfl))) rfl, ⟨by decide +kernel, by decide +kernel, by decide +kernel⟩, by decide⟩, mem_g 1705 (by decide +kernel) rfl, mem_g 66 (by decide +kernel) rfl⟩
set_option maxRecDepth 20000 in
theorem mfX12_readProduct : MFv mX12_readProduct 0 := ⟨⟨mem_g 124 (by decide +kernel) rfl, mem_gt (in_tb7 (List.mem_of_getElem? (i := 165) (by rfl))) rfl, ⟨by decide +kernel, by decide +kernel, by decide +kernel⟩, by decide⟩, mem_g 1709 (by decide +kernel) rfl, mem_g 67 (by decide +kernel) rfl⟩
set_option maxRecDepth 20000 in
theorem mfX12_readUnit : MFv mX12_readUnit 0 := ⟨⟨mem_g 124 (by decide +kernel) rfl, mem_gt (in_tb7 (List.mem_of_getElem? (i := 169) (by rfl))) rfl, ⟨by decide +kernel, by decide +kernel, by decide +kernel⟩, by decide⟩, mem_g 1713 (by decide +kernel) rfl, mem_g 68 (by decide +kernel) rfl⟩
set_option maxRecDepth 20000 in
theorem mfX12_emits : MFv mX12_emits 2 := ⟨⟨mem_g 124 (by decide +kernel) rfl, mem_gt (in_tb7 (List.mem_of_getElem? (i := 173) (by rfl))) rfl, ⟨by decide +kernel, by decide +kernel, by decide +kernel⟩, by decide⟩, mem_g 1717 (by decide +kernel) rfl, mem_g 69 (by decide +kernel) rfl⟩
set_option maxRecDepth 20000 in
theorem mfX12_isSign : MFv mX12_isSign 1 := ⟨⟨mem_g 124 (by decide +kernel) rfl, mem_gt (in_tb7 (List.mem_of_getElem? (i := 177) (by rfl))) rfl, ⟨by decide +kernel, by decide +kernel, by decide +kernel⟩, by decide⟩, mem_g 1721 (by decide +kernel) rfl, mem_g 70 (by decide +kernel) rfl⟩
set_option maxRecDepth 20000 in
theorem mfX12_readAny : MFv mX12_readAny 0 := ⟨⟨mem_g 124 (by decide +kernel) rfl, mem_gt (in_tb7 (List.mem_of_getElem? (i := 181) (by rfl))) rfl, ⟨by decide +kernel, by decide +kernel, by decide +kernel⟩, by decide⟩, mem_g 1725 (by decide +kernel) rfl, mem_g 71 (by decide +kernel) rfl⟩
set_option maxRecDepth 20000 in
theorem mfX12_waitsFor : MFv mX12_waitsFor 1 := ⟨⟨mem_g 124 (by decide +kernel) rfl, mem_gt (in_tb7 (List.mem_of_getElem? (i := 185) (by rfl))) rfl, ⟨by decide +kernel, by decide +kernel, by decide +kernel⟩, by decide⟩, mem_g 1729 (by decide +kernel) rfl, mem_g 72 (by decide +kernel) rfl⟩
set_option maxRecDepth 20000 in
theorem mfX12_readCompared : MFv mX12_readCompared 0 := ⟨⟨mem_g 124 (by decide +kernel) rfl, mem_gt (in_tb7 (List.mem_of_getElem? (i := 189) (by rfl))) rfl, ⟨by decide +kernel, by decide +kernel, by decide +kernel⟩, by decide⟩, mem_g 1733 (by decide +kernel) rfl, mem_g 73 (by decide +kernel) rfl⟩
set_option maxRecDepth 20000 in
theorem mfX12_settles : MFv mX12_settles 1 := ⟨⟨mem_g 124 (by decide +kernel) rfl, mem_gt (in_tb7 (List.mem_of_getElem? (i := 193) (by rfl))) rfl, ⟨by decide +kernel, by decide +kernel, by decide +kernel⟩, by decide⟩, mem_g 1737 (by decide +kernel) rfl, mem_g 74 (by decide +kernel) rfl⟩
set_option maxRecDepth 20000 in
theorem mfX12_fault : MFv mX12_fault 1 := ⟨⟨mem_g 124 (by decide +kernel) rfl, mem_gt (in_tb7 (List.mem_of_getElem? (i := 197) (by rfl))) rfl, ⟨by decide +kernel, by decide +kernel, by decide +kernel⟩, by decide⟩, mem_g 1740 (by decide +kernel) rfl, mem_g 1741 (by decide +kernel) rfl⟩
set_option maxRecDepth 20000 in
theorem mfX12_come : MFv mX12_come 3 := ⟨⟨mem_g 124 (by decide +kernel) rfl, mem_gt (in_tb7 (List.mem_of_getElem? (i := 201) (by rfl))) rfl, ⟨by decide +kernel, by decide +kernel, by decide +kernel⟩, by decide⟩, mem_g 1744 (by decide +kernel) rfl, mem_g 1745 (by decide +kernel) rfl⟩
set_option maxRecDepth 20000 in
theorem mfX12_state : MFv mX12_state 1 := ⟨⟨mem_g 124 (by decide +kernel) rfl, mem_gt (in_tb7 (List.mem_of_getElem? (i := 205) (by rfl))) rfl, ⟨by decide +kernel, by decide +kernel, by decide +kernel⟩, by decide⟩, mem_g 1748 (by decide +kernel) rfl, mem_g 1749 (by decide +kernel) rfl⟩
set_option maxRecDepth 20000 in
theorem mfX12_weeks : MFv mX12_weeks 1 := ⟨⟨mem_g 124 (by decide +kernel) rfl, mem_gt (in_tb7 (List.mem_of_getElem? (i := 209) (by rfl))) rfl, ⟨by decide +kernel, by decide +kernel, by decide +kernel⟩, by decide⟩, mem_g 1752 (by decide +kernel) rfl, mem_g 1753 (by decide +kernel) rfl⟩
set_option maxRecDepth 20000 in
theorem mfX12_goesBy : MFv mX12_goesBy 0 := ⟨⟨mem_g 124 (by decide +kernel) rfl, mem_gt (in_tb7 (List.mem_of_getElem? (i := 213) (by rfl))) rfl, ⟨by decide +kernel, by decide +kernel, by decide +kernel⟩, by decide⟩, mem_g 1757 (by decide +kernel) rfl, mem_g 75 (by decide +kernel) rfl⟩
set_option maxRecDepth 20000 in
theorem mfX12_looksAgain : MFv mX12_looksAgain 0 := ⟨⟨mem_g 124 (by decide +kernel) rfl, mem_gt (in_tb7 (List.mem_of_getElem? (i := 217) (by rfl))) rfl, ⟨by decide +kernel, by decide +kernel, by decide +kernel⟩, by decide⟩, mem_g 1761 (by decide +kernel) rfl, mem_g 76 (by decide +kernel) rfl⟩
set_option maxRecDepth 20000 in
theorem mfX12_worthFor : MFv mX12_worthFor 2 := ⟨⟨mem_g 124 (by decide +kernel) rfl, mem_gt (in_tb7 (List.mem_of_getElem? (i := 221) (by rfl))) rfl, ⟨by decide +kernel, by decide +kernel, by decide +kernel⟩, by decide⟩, mem_g 1765 (by decide +kernel) rfl, mem_g 77 (by decide +kernel) rfl⟩
set_option maxRecDepth 20000 in
theorem mfX12_frees : MFv mX12_frees 1 := ⟨⟨mem_g 124 (by decide +kernel) rfl, mem_gt (in_tb7 (List.mem_of_getElem? (i := 225) (by rfl))) rfl, ⟨by decide +kernel, by decide +kernel, by decide +kernel⟩, by decide⟩, mem_g 1769 (by decide +kernel) rfl, mem_g 78 (by decide +kernel) rfl⟩
set_option maxRecDepth 20000 in
theorem mfX12_meeting : MFv mX12_meeting 1 := ⟨⟨mem_g 124 (by decide +kernel) rfl, mem_gt (in_tb7 (List.mem_of_getElem? (i := 229) (by rfl))) rfl, ⟨by decide +kernel, by decide +kernel, by decide +kernel⟩, by decide⟩, mem_g 1773 (by decide +kernel) rfl, mem_g 79 (by decide +kernel) rfl⟩
set_option maxRecDepth 20000 in
theorem mfX12_meets : MFv mX12_meets 0 := ⟨⟨mem_g 124 (by decide +kernel) rfl, mem_gt (in_tb7 (List.mem_of_getElem? (i := 233) (by rfl))) rfl, ⟨by decide +kernel, by decide +kernel, by decide +kernel⟩, by decide⟩, mem_g 1777 (by decide +kernel) rfl, mem_g 80 (by decide +kernel) rfl⟩
set_option maxRecDepth 20000 in
theorem mfX12_canMeet : MFv mX12_canMeet 1 := ⟨⟨mem_g 124 (by decide +kernel) rfl, mem_gt (in_tb7 (List.mem_of_getElem? (i := 237) (by rfl))) rfl, ⟨by decide +kernel, by decide +kernel, by decide +kernel⟩, by decide⟩, mem_g 1781 (by decide +kernel) rfl, mem_g 81 (by decide +kernel) rfl⟩
set_option maxRecDepth 20000 in
theorem mfX12_draw : MFv mX12_draw 1 := ⟨⟨mem_g 124 (by decide +kernel) rfl, mem_gt (in_tb8 (List.mem_of_getElem? (i := 1) (by rfl))) rfl, ⟨by decide +kernel, by decide +kernel, by decide +kernel⟩, by decide⟩, mem_g 1785 (by decide +kernel) rfl, mem_g 82 (by decide +kernel) rfl⟩
set_option maxRecDepth 20000 in
theorem mfX12_seenBy : MFv mX12_seenBy 2 := ⟨⟨mem_g 124 (by decide +kernel) rfl, mem_gt (in_tb8 (List.mem_of_getElem? (i := 7) (by rfl))) rfl, ⟨by decide +kernel, by decide +kernel, by decide +kernel⟩, by decide⟩, mem_g 1791 (by decide +kernel) rfl, mem_g 83 (by decide +kernel) rfl⟩
set_option maxRecDepth 20000 in
theorem mfX12_saysOf : MFv mX12_saysOf 2 := ⟨⟨mem_g 124 (by decide +kernel) rfl, mem_gt (in_tb8 (List.mem_of_getElem? (i := 11) (by rfl))) rfl, ⟨by decide +kernel, by decide +kernel, by decide +kernel⟩, by decide⟩, mem_g 1795 (by decide +kernel) rfl, mem_g 84 (by decide +kernel) rfl⟩
set_option maxRecDepth 20000 in
theorem mfX12_asksOf : MFv mX12_asksOf 1 := ⟨⟨mem_g 124 (by decide +kernel) rfl, mem_gt (in_tb8 (List.mem_of_getElem? (i := 15) (by rfl))) rfl, ⟨by decide +kernel, by decide +kernel, by decide +kernel⟩, by decide⟩, mem_g 1799 (by decide +kernel) rfl, mem_g 85 (by decide +kernel) rfl⟩
set_option maxRecDepth 20000 in
theorem mfX12_comesTo : MFv mX12_comesTo 3 := ⟨⟨mem_g 124 (by decide +kernel) rfl, mem_gt (in_tb8 (List.mem_of_getElem? (i := 19) (by rfl))) rfl, ⟨by decide +kernel, by decide +kernel, by decide +kernel⟩, by decide⟩, mem_g 1803 (by decide +kernel) rfl, mem_g 86 (by decide +kernel) rfl⟩
set_option maxRecDepth 20000 in
theorem mfX12_twoOf : MFv mX12_twoOf 3 := ⟨⟨mem_g 124 (by decide +kernel) rfl, mem_gt (in_tb8 (List.mem_of_getElem? (i := 23) (by rfl))) rfl, ⟨by decide +kernel, by decide +kernel, by decide +kernel⟩, by decide⟩, mem_g 1807 (by decide +kernel) rfl, mem_g 87 (by decide +kernel) rfl⟩
set_option maxRecDepth 20000 in
theorem mfX12_becomePair : MFv mX12_becomePair 4 := ⟨⟨mem_g 124 (by decide +kernel) rfl, mem_gt (in_tb8 (List.mem_of_getElem? (i := 27) (by rfl))) rfl, ⟨by decide +kernel, by decide +kernel, by decide +kernel⟩, by decide⟩, mem_g 1811 (by decide +kernel) rfl, mem_g 88 (by decide +kernel) rfl⟩
set_option maxRecDepth 20000 in
theorem mfX12_pairMany : MFv mX12_pairMany 0 := ⟨⟨mem_g 124 (by decide +kernel) rfl, mem_gt (in_tb8 (List.mem_of_getElem? (i := 31) (by rfl))) rfl, ⟨by decide +kernel, by decide +kernel, by decide +kernel⟩, by decide⟩, mem_g 1815 (by decide +kernel) rfl, mem_g 89 (by decide +kernel) rfl⟩
set_option maxRecDepth 20000 in
theorem mfX12_one : MFv mX12_one 2 := ⟨⟨mem_g 124 (by decide +kernel) rfl, mem_gt (in_tb8 (List.mem_of_getElem? (i := 35) (by rfl))) rfl, ⟨by decide +kernel, by decide +kernel, by decide +kernel⟩, by decide⟩, mem_g 1818 (by decide +kernel) rfl, mem_g 1819 (by decide +kernel) rfl⟩
set_option maxRecDepth 20000 in
theorem mfX12_isOne : MFv mX12_isOne 1 := ⟨⟨mem_g 124 (by decide +kernel) rfl, mem_gt (in_tb8 (List.mem_of_getElem? (i := 39) (by rfl))) rfl, ⟨by decide +kernel, by decide +kernel, by decide +kernel⟩, by decide⟩, mem_g 1823 (by decide +kernel) rfl, mem_g 90 (by decide +kernel) rfl⟩
set_option maxRecDepth 20000 in
theorem mfX12_all : MFv mX12_all 3 := ⟨⟨mem_g 124 (by decide +kernel) rfl, mem_gt (in_tb8 (List.mem_of_getElem? (i := 43) (by rfl))) rfl, ⟨by decide +kernel, by decide +kernel, by decide +kernel⟩, by decide⟩, mem_g 1826 (by decide +kernel) rfl, mem_g 1827 (by decide +kernel) rfl⟩
set_option maxRecDepth 20000 in
theorem mfX12_town : MFv mX12_town 1 := ⟨⟨mem_g 124 (by decide +kernel) rfl, mem_gt (in_tb8 (List.mem_of_getElem? (i := 47) (by rfl))) rfl, ⟨by decide +kernel, by decide +kernel, by decide +kernel⟩, by decide⟩, mem_g 1830 (by decide +kernel) rfl, mem_g 1831 (by decide +kernel) rfl⟩
set_option maxRecDepth 20000 in
theorem mfX12_feast : MFv mX12_feast 1 := ⟨⟨mem_g 124 (by decide +kernel) rfl, mem_gt (in_tb8 (List.mem_of_getElem? (i := 51) (by rfl))) rfl, ⟨by decide +kernel, by decide +kernel, by decide +kernel⟩, by decide⟩, mem_g 1834 (by decide +kernel) rfl, mem_g 1835 (by decide +kernel) rfl⟩
set_option maxRecDepth 20000 in
theorem mfX12_likes : MFv mX12_likes 4 := ⟨⟨mem_g 124 (by decide +kernel) rfl, mem_gt (in_tb8 (List.mem_of_getElem? (i := 55) (by rfl))) rfl, ⟨by decide +kernel, by decide +kernel, by decide +kernel⟩, by decide⟩, mem_g 1838 (by decide +kernel) rfl, mem_g 1839 (by decide +kernel) rfl⟩
set_option maxRecDepth 20000 in
theorem mfX12_isGuest : MFv mX12_isGuest 1 := ⟨⟨mem_g 124 (by decide +kernel) rfl, mem_gt (in_tb8 (List.mem_of_getElem? (i := 59) (by rfl))) rfl, ⟨by decide +kernel, by decide +kernel, by decide +kernel⟩, by decide⟩, mem_g 1843 (by decide +kernel) rfl, mem_g 91 (by decide +kernel) rfl⟩
set_option maxRecDepth 20000 in
theorem mfX12_holds : MFv mX12_holds 0 := ⟨⟨mem_g 124 (by decide +kernel) rfl, mem_gt (in_tb8 (List.mem_of_getElem? (i := 63) (by rfl))) rfl, ⟨by decide +kernel, by decide +kernel, by decide +kernel⟩, by decide⟩, mem_g 1846 (by decide +kernel) rfl, mem_g 1847 (by decide +kernel) rfl⟩
set_option maxRecDepth 20000 in
theorem mfX12_findsPairings : MFv mX12_findsPairings 0 := ⟨⟨mem_g 124 (by decide +kernel) rfl, mem_gt (in_tb8 (List.mem_of_getElem? (i := 67) (by rfl))) rfl, ⟨by decide +kernel, by decide +kernel, by decide +kernel⟩, by decide⟩, mem_g 1851 (by decide +kernel) rfl, mem_g 92 (by decide +kernel) rfl⟩
set_option maxRecDepth 20000 in
theorem mfX12_takesRow : MFv mX12_takesRow 0 := ⟨⟨mem_g 124 (by decide +kernel) rfl, mem_gt (in_tb8 (List.mem_of_getElem? (i := 71) (by rfl))) rfl, ⟨by decide +kernel, by decide +kernel, by decide +kernel⟩, by decide⟩, mem_g 1855 (by decide +kernel) rfl, mem_g 93 (by decide +kernel) rfl⟩
set_option maxRecDepth 20000 in
theorem mfX12_sumOfRow : MFv mX12_sumOfRow 0 := ⟨⟨mem_g 124 (by decide +kernel) rfl, mem_gt (in_tb8 (List.mem_of_getElem? (i := 75) (by rfl))) rfl, ⟨by decide +kernel, by decide +kernel, by decide +kernel⟩, by decide⟩, mem_g 1859 (by decide +kernel) rfl, mem_g 94 (by decide +kernel) rfl⟩
set_option maxRecDepth 20000 in
theorem mfX12_bothOf : MFv mX12_bothOf 2 := ⟨⟨mem_g 124 (by decide +kernel) rfl, mem_gt (in_tb8 (List.mem_of_getElem? (i := 79) (by rfl))) rfl, ⟨by decide +kernel, by decide +kernel, by decide +kernel⟩, by decide⟩, mem_g 1863 (by decide +kernel) rfl, mem_g 95 (by decide +kernel) rfl⟩
set_option maxRecDepth 20000 in
theorem mfX12_isHeld : MFv mX12_isHeld 0 := ⟨⟨mem_g 124 (by decide +kernel) rfl, mem_gt (in_tb8 (List.mem_of_getElem? (i := 83) (by rfl))) rfl, ⟨by decide +kernel, by decide +kernel, by decide +kernel⟩, by decide⟩, mem_g 1867 (by decide +kernel) rfl, mem_g 96 (by decide +kernel) rfl⟩
set_option maxRecDepth 20000 in
theorem mfX12_isMore : MFv mX12_isMore 4 := ⟨⟨mem_g 124 (by decide +kernel) rfl, mem_gt (in_tb8 (List.mem_of_getElem? (i := 87) (by rfl))) rfl, ⟨by decide +kernel, by decide +kernel, by decide +kernel⟩, by decide⟩, mem_g 1871 (by decide +kernel) rfl, mem_g 97 (by decide +kernel) rfl⟩
set_option maxRecDepth 20000 in
theorem mfX12_nextRow : MFv mX12_nextRow 0 := ⟨⟨mem_g 124 (by decide +kernel) rfl, mem_gt (in_tb8 (List.mem_of_getElem? (i := 91) (by rfl))) rfl, ⟨by decide +kernel, by decide +kernel, by decide +kernel⟩, by decide⟩, mem_g 1875 (by decide +kernel) rfl, mem_g 98 (by decide +kernel) rfl⟩
set_option maxRecDepth 20000 in
theorem mfX12_findsPrices : MFv mX12_findsPrices 0 := ⟨⟨mem_g 124 (by decide +kernel) rfl, mem_gt (in_tb8 (List.mem_of_getElem? (i := 95) (by rfl))) rfl, ⟨by decide +kernel, by decide +kernel, by decide +kernel⟩, by decide⟩, mem_g 1879 (by decide +kernel) rfl, mem_g 99 (by decide +kernel) rfl⟩
set_option maxRecDepth 20000 in
theorem mfX12_pairing : MFv mX12_pairing 2 := ⟨⟨mem_g 124 (by decide +kernel) rfl, mem_gt (in_tb8 (List.mem_of_getElem? (i := 99) (by rfl))) rfl, ⟨by decide +kernel, by decide +kernel, by decide +kernel⟩, by decide⟩, mem_g 1882 (by decide +kernel) rfl, mem_g 1883 (by decide +kernel) rfl⟩
set_option maxRecDepth 20000 in
theorem mfX12_bestOf : MFv mX12_bestOf 1 := ⟨⟨mem_g 124 (by decide +kernel) rfl, mem_gt (in_tb8 (List.mem_of_getElem? (i := 103) (by rfl))) rfl, ⟨by decide +kernel, by decide +kernel, by decide +kernel⟩, by decide⟩, mem_g 1887 (by decide +kernel) rfl, mem_g 100 (by decide +kernel) rfl⟩
set_option maxRecDepth 20000 in
theorem mfX12_isBestFor : MFv mX12_isBestFor 3 := ⟨⟨mem_g 124 (by decide +kernel) rfl, mem_gt (in_tb8 (List.mem_of_getElem? (i := 107) (by rfl))) rfl, ⟨by decide +kernel, by decide +kernel, by decide +kernel⟩, by decide⟩, mem_g 1891 (by decide +kernel) rfl, mem_g 101 (by decide +kernel) rfl⟩
set_option maxRecDepth 20000 in
theorem mfX12_womanAt : MFv mX12_womanAt 2 := ⟨⟨mem_g 124 (by decide +kernel) rfl, mem_gt (in_tb8 (List.mem_of_getElem? (i := 111) (by rfl))) rfl, ⟨by decide +kernel, by decide +kernel, by decide +kernel⟩, by decide⟩, mem_g 1895 (by decide +kernel) rfl, mem_g 102 (by decide +kernel) rfl⟩
set_option maxRecDepth 20000 in
theorem mfX12_manAt : MFv mX12_manAt 2 := ⟨⟨mem_g 124 (by decide +kernel) rfl, mem_gt (in_tb8 (List.mem_of_getElem? (i := 115) (by rfl))) rfl, ⟨by decide +kernel, by decide +kernel, by decide +kernel⟩, by decide⟩, mem_g 1899 (by decide +kernel) rfl, mem_g 103 (by decide +kernel) rfl⟩
set_option maxRecDepth 20000 in
theorem mfX12_mended : MFv mX12_mended 0 := ⟨⟨mem_g 124 (by decide +kernel) rfl, mem_gt (in_tb8 (List.mem_of_getElem? (i := 119) (by rfl))) rfl, ⟨by decide +kernel, by decide +kernel, by decide +kernel⟩, by decide⟩, mem_g 1902 (by decide +kernel) rfl, mem_g 1903 (by decide +kernel) rfl⟩
set_option maxRecDepth 20000 in
theorem mfX12_price : MFv mX12_price 2 := ⟨⟨mem_g 124 (by decide +kernel) rfl, mem_gt (in_tb8 (List.mem_of_getElem? (i := 123) (by rfl))) rfl, ⟨by decide +kernel, by decide +kernel, by decide +kernel⟩, by decide⟩, mem_g 1906 (by decide +kernel) rfl, mem_g 1907 (by decide +kernel) rfl⟩
set_option maxRecDepth 20000 in
theorem mfX12_sums : MFv mX12_sums 2 := ⟨⟨mem_g 124 (by decide +kernel) rfl, mem_gt (in_tb8 (List.mem_of_getElem? (i := 127) (by rfl))) rfl, ⟨by decide +kernel, by decide +kernel, by decide +kernel⟩, by decide⟩, mem_g 1910 (by decide +kernel) rfl, mem_g 1911 (by decide +kernel) rfl⟩
set_option maxRecDepth 20000 in
theorem mfX12_wanted : MFv mX12_wanted 1 := ⟨⟨mem_g 124 (by decide +kernel) rfl, mem_gt (in_tb8 (List.mem_of_getElem? (i := 131) (by rfl))) rfl, ⟨by decide +kernel, by decide +kernel, by decide +kernel⟩, by decide⟩, mem_g 1915 (by decide +kernel) rfl, mem_g 104 (by decide +kernel) rfl⟩
theorem nwL_7 : NWF "NotYetLaw" 7 11 8 := ⟨(RX11, TX11, 8), rfl, rfl, mem_g 133 (by decide +kernel) rfl, mem_g 134 (by decide +kernel) rfl, mem_g 106 (by decide +kernel) rfl⟩
theorem lkL_9 : LK "NotYetLaw" 9 mX11_init := mem_g 135 (by decide +kernel) rfl
theorem nwX11_9 : NWF RX11 9 3 6 := ⟨(RX3, TX3, 6), rfl, rfl, mem_g 141 (by decide +kernel) rfl, mem_g 142 (by decide +kernel) rfl, mem_g 107 (by decide +kernel) rfl⟩
theorem lkX11_11 : LK RX11 11 mX3_init := mem_g 143 (by decide +kernel) rfl
theorem lkX3_27 : LK RX3 27 mJ7_fill_53178 := mem_g 147 (by decide +kernel) rfl
theorem gfX3_9 : GF RX3 9 3 6 0 := ⟨(RX3, TX3, 6), rfl, rfl, by decide, Or.inl ⟨"NotYet$Market", mem_g 150 (by decide +kernel) rfl, Or.inl rfl⟩⟩
theorem pfX3_9 : PFF RX3 9 3 6 0 := ⟨(RX3, TX3, 6), rfl, rfl, by decide, rfl, rfl, mem_g 150 (by decide +kernel) rfl⟩
theorem gfX3_15 : GF RX3 15 3 6 1 := ⟨(RX3, TX3, 6), rfl, rfl, by decide, Or.inl ⟨"NotYet$Market", mem_g 151 (by decide +kernel) rfl, Or.inl rfl⟩⟩
theorem pfX3_15 : PFF RX3 15 3 6 1 := ⟨(RX3, TX3, 6), rfl, rfl, by decide, rfl, rfl, mem_g 151 (by decide +kernel) rfl⟩
theorem gfX3_18 : GF RX3 18 3 6 2 := ⟨(RX3, TX3, 6), rfl, rfl, by decide, Or.inl ⟨"NotYet$Market", mem_g 152 (by decide +kernel) rfl, Or.inl rfl⟩⟩
theorem pfX3_18 : PFF RX3 18 3 6 2 := ⟨(RX3, TX3, 6), rfl, rfl, by decide, rfl, rfl, mem_g 152 (by decide +kernel) rfl⟩
theorem gfX3_21 : GF RX3 21 3 6 3 := ⟨(RX3, TX3, 6), rfl, rfl, by decide, Or.inl ⟨"NotYet$Market", mem_g 153 (by decide +kernel) rfl, Or.inl rfl⟩⟩
theorem pfX3_21 : PFF RX3 21 3 6 3 := ⟨(RX3, TX3, 6), rfl, rfl, by decide, rfl, rfl, mem_g 153 (by decide +kernel) rfl⟩
theorem gfX3_24 : GF RX3 24 3 6 4 := ⟨(RX3, TX3, 6), rfl, rfl, by decide, Or.inl ⟨"NotYet$Market", mem_g 154 (by decide +kernel) rfl, Or.inl rfl⟩⟩
theorem pfX3_24 : PFF RX3 24 3 6 4 := ⟨(RX3, TX3, 6), rfl, rfl, by decide, rfl, rfl, mem_g 154 (by decide +kernel) rfl⟩
theorem gfX3_33 : GF RX3 33 3 6 5 := ⟨(RX3, TX3, 6), rfl, rfl, by decide, Or.inl ⟨"NotYet$Market", mem_g 155 (by decide +kernel) rfl, Or.inl rfl⟩⟩
theorem pfX3_33 : PF RX3 33 3 6 5 := ⟨(RX3, TX3, 6), rfl, rfl, by decide, rfl, ⟨"NotYet$Market", mem_g 155 (by decide +kernel) rfl, Or.inl rfl⟩⟩
theorem nwX11_16 : NWF RX11 16 6 9 := ⟨(RX6, TX6, 9), rfl, rfl, mem_g 170 (by decide +kernel) rfl, mem_g 171 (by decide +kernel) rfl, mem_g 109 (by decide +kernel) rfl⟩
theorem lkX11_18 : LK RX11 18 mX6_init := mem_g 172 (by decide +kernel) rfl
theorem gfX6_24 : GF RX6 24 6 9 0 := ⟨(RX6, TX6, 9), rfl, rfl, by decide, Or.inl ⟨"NotYet$Ranks", mem_g 176 (by decide +kernel) rfl, Or.inl rfl⟩⟩
theorem pfX6_24 : PFF RX6 24 6 9 0 := ⟨(RX6, TX6, 9), rfl, rfl, by decide, rfl, rfl, mem_g 176 (by decide +kernel) rfl⟩
theorem gfX6_13 : GF RX6 13 6 9 1 := ⟨(RX6, TX6, 9), rfl, rfl, by decide, Or.inl ⟨"NotYet$Ranks", mem_g 177 (by decide +kernel) rfl, Or.inl rfl⟩⟩
theorem pfX6_13 : PFF RX6 13 6 9 1 := ⟨(RX6, TX6, 9), rfl, rfl, by decide, rfl, rfl, mem_g 177 (by decide +kernel) rfl⟩
theorem gfX6_17 : GF RX6 17 6 9 2 := ⟨(RX6, TX6, 9), rfl, rfl, by decide, Or.inl ⟨"NotYet$Ranks", mem_g 178 (by decide +kernel) rfl, Or.inl rfl⟩⟩
theorem pfX6_17 : PFF RX6 17 6 9 2 := ⟨(RX6, TX6, 9), rfl, rfl, by decide, rfl, rfl, mem_g 178 (by decide +kernel) rfl⟩
theorem gfX6_20 : GF RX6 20 6 9 3 := ⟨(RX6, TX6, 9), rfl, rfl, by decide, Or.inl ⟨"NotYet$Ranks", mem_g 179 (by decide +kernel) rfl, Or.inl rfl⟩⟩
theorem pfX6_20 : PF RX6 20 6 9 3 := ⟨(RX6, TX6, 9), rfl, rfl, by decide, rfl, ⟨"NotYet$Ranks", mem_g 179 (by decide +kernel) rfl, Or.inl rfl⟩⟩
theorem gfX6_32 : GF RX6 32 6 9 4 := ⟨(RX6, TX6, 9), rfl, rfl, by decide, Or.inl ⟨"NotYet$Ranks", mem_g 180 (by decide +kernel) rfl, Or.inl rfl⟩⟩
theorem pfX6_32 : PF RX6 32 6 9 4 := ⟨(RX6, TX6, 9), rfl, rfl, by decide, rfl, ⟨"NotYet$Ranks", mem_g 180 (by decide +kernel) rfl, Or.inl rfl⟩⟩
theorem gfX6_28 : GF RX6 28 6 9 5 := ⟨(RX6, TX6, 9), rfl, rfl, by decide, Or.inl ⟨"NotYet$Ranks", mem_g 181 (by decide +kernel) rfl, Or.inl rfl⟩⟩
theorem pfX6_28 : PF RX6 28 6 9 5 := ⟨(RX6, TX6, 9), rfl, rfl, by decide, rfl, ⟨"NotYet$Ranks", mem_g 181 (by decide +kernel) rfl, Or.inl rfl⟩⟩
theorem gfX6_60 : GF RX6 60 6 9 6 := ⟨(RX6, TX6, 9), rfl, rfl, by decide, Or.inl ⟨"NotYet$Ranks", mem_g 182 (by decide +kernel) rfl, Or.inl rfl⟩⟩
theorem pfX6_60 : PF RX6 60 6 9 6 := ⟨(RX6, TX6, 9), rfl, rfl, by decide, rfl, ⟨"NotYet$Ranks", mem_g 182 (by decide +kernel) rfl, Or.inl rfl⟩⟩
theorem gfX6_57 : GF RX6 57 6 9 7 := ⟨(RX6, TX6, 9), rfl, rfl, by decide, Or.inl ⟨"NotYet$Ranks", mem_g 183 (by decide +kernel) rfl, Or.inl rfl⟩⟩
theorem pfX6_57 : PF RX6 57 6 9 7 := ⟨(RX6, TX6, 9), rfl, rfl, by decide, rfl, ⟨"NotYet$Ranks", mem_g 183 (by decide +kernel) rfl, Or.inl rfl⟩⟩
theorem gfX6_63 : GF RX6 63 6 9 8 := ⟨(RX6, TX6, 9), rfl, rfl, by decide, Or.inl ⟨"NotYet$Ranks", mem_g 184 (by decide +kernel) rfl, Or.inl rfl⟩⟩
theorem pfX6_63 : PF RX6 63 6 9 8 := ⟨(RX6, TX6, 9), rfl, rfl, by decide, rfl, ⟨"NotYet$Ranks", mem_g 184 (by decide +kernel) rfl, Or.inl rfl⟩⟩
theorem nwX11_25 : NWF RX11 25 9 4 := ⟨(RX9, TX9, 4), rfl, rfl, mem_g 204 (by decide +kernel) rfl, mem_g 205 (by decide +kernel) rfl, mem_g 110 (by decide +kernel) rfl⟩
theorem lkX11_27 : LK RX11 27 mX9_init := mem_g 206 (by decide +kernel) rfl
theorem gfX9_24 : GF RX9 24 9 4 0 := ⟨(RX9, TX9, 4), rfl, rfl, by decide, Or.inl ⟨"NotYet$Waits", mem_g 210 (by decide +kernel) rfl, Or.inl rfl⟩⟩
theorem pfX9_24 : PFF RX9 24 9 4 0 := ⟨(RX9, TX9, 4), rfl, rfl, by decide, rfl, rfl, mem_g 210 (by decide +kernel) rfl⟩
theorem gfX9_13 : GF RX9 13 9 4 1 := ⟨(RX9, TX9, 4), rfl, rfl, by decide, Or.inl ⟨"NotYet$Waits", mem_g 211 (by decide +kernel) rfl, Or.inl rfl⟩⟩
theorem pfX9_13 : PFF RX9 13 9 4 1 := ⟨(RX9, TX9, 4), rfl, rfl, by decide, rfl, rfl, mem_g 211 (by decide +kernel) rfl⟩
theorem gfX9_17 : GF RX9 17 9 4 2 := ⟨(RX9, TX9, 4), rfl, rfl, by decide, Or.inl ⟨"NotYet$Waits", mem_g 212 (by decide +kernel) rfl, Or.inl rfl⟩⟩
theorem pfX9_17 : PFF RX9 17 9 4 2 := ⟨(RX9, TX9, 4), rfl, rfl, by decide, rfl, rfl, mem_g 212 (by decide +kernel) rfl⟩
theorem gfX9_20 : GF RX9 20 9 4 3 := ⟨(RX9, TX9, 4), rfl, rfl, by decide, Or.inl ⟨"NotYet$Waits", mem_g 213 (by decide +kernel) rfl, Or.inl rfl⟩⟩
theorem pfX9_20 : PF RX9 20 9 4 3 := ⟨(RX9, TX9, 4), rfl, rfl, by decide, rfl, ⟨"NotYet$Waits", mem_g 213 (by decide +kernel) rfl, Or.inl rfl⟩⟩
theorem nwX11_32 : NWF RX11 32 8 6 := ⟨(RX8, TX8, 6), rfl, rfl, mem_g 223 (by decide +kernel) rfl, mem_g 224 (by decide +kernel) rfl, mem_g 111 (by decide +kernel) rfl⟩
theorem lkX11_34 : LKn RX11 34 mX8_init := ⟨"NotYet", mem_sp 225 (by decide +kernel) rfl⟩
theorem gfX8_9 : GF RX8 9 8 6 0 := ⟨(RX8, TX8, 6), rfl, rfl, by decide, Or.inl ⟨"NotYet$Tape", mem_g 229 (by decide +kernel) rfl, Or.inl rfl⟩⟩
theorem pfX8_9 : PFF RX8 9 8 6 0 := ⟨(RX8, TX8, 6), rfl, rfl, by decide, rfl, rfl, mem_g 229 (by decide +kernel) rfl⟩
theorem gfX8_13 : GF RX8 13 8 6 1 := ⟨(RX8, TX8, 6), rfl, rfl, by decide, Or.inl ⟨"NotYet$Tape", mem_g 230 (by decide +kernel) rfl, Or.inl rfl⟩⟩
theorem pfX8_13 : PFF RX8 13 8 6 1 := ⟨(RX8, TX8, 6), rfl, rfl, by decide, rfl, rfl, mem_g 230 (by decide +kernel) rfl⟩
theorem gfX7_100 : GF RX7 100 8 6 1 := ⟨(RX8, TX8, 6), rfl, rfl, by decide, Or.inr ⟨"NotYet", mem_sp 231 (by decide +kernel) rfl⟩⟩
theorem gfX8_17 : GF RX8 17 8 6 2 := ⟨(RX8, TX8, 6), rfl, rfl, by decide, Or.inl ⟨"NotYet$Tape", mem_g 232 (by decide +kernel) rfl, Or.inl rfl⟩⟩
theorem pfX8_17 : PFF RX8 17 8 6 2 := ⟨(RX8, TX8, 6), rfl, rfl, by decide, rfl, rfl, mem_g 232 (by decide +kernel) rfl⟩
theorem gfX7_104 : GF RX7 104 8 6 2 := ⟨(RX8, TX8, 6), rfl, rfl, by decide, Or.inr ⟨"NotYet", mem_sp 233 (by decide +kernel) rfl⟩⟩
theorem gfX8_20 : GF RX8 20 8 6 3 := ⟨(RX8, TX8, 6), rfl, rfl, by decide, Or.inl ⟨"NotYet$Tape", mem_g 234 (by decide +kernel) rfl, Or.inl rfl⟩⟩
theorem pfX8_20 : PFF RX8 20 8 6 3 := ⟨(RX8, TX8, 6), rfl, rfl, by decide, rfl, rfl, mem_g 234 (by decide +kernel) rfl⟩
theorem gfX8_23 : GF RX8 23 8 6 4 := ⟨(RX8, TX8, 6), rfl, rfl, by decide, Or.inl ⟨"NotYet$Tape", mem_g 235 (by decide +kernel) rfl, Or.inl rfl⟩⟩
theorem pfX8_23 : PF RX8 23 8 6 4 := ⟨(RX8, TX8, 6), rfl, rfl, by decide, rfl, ⟨"NotYet$Tape", mem_g 235 (by decide +kernel) rfl, Or.inl rfl⟩⟩
theorem gfX7_107 : GF RX7 107 8 6 4 := ⟨(RX8, TX8, 6), rfl, rfl, by decide, Or.inr ⟨"NotYet", mem_sp 236 (by decide +kernel) rfl⟩⟩
theorem pfX7_107 : PFN RX7 107 8 6 4 := ⟨(RX8, TX8, 6), rfl, rfl, by decide, rfl, ⟨"NotYet", mem_sp 236 (by decide +kernel) rfl⟩⟩
theorem gfX8_27 : GF RX8 27 8 6 5 := ⟨(RX8, TX8, 6), rfl, rfl, by decide, Or.inl ⟨"NotYet$Tape", mem_g 237 (by decide +kernel) rfl, Or.inl rfl⟩⟩
theorem pfX8_27 : PF RX8 27 8 6 5 := ⟨(RX8, TX8, 6), rfl, rfl, by decide, rfl, ⟨"NotYet$Tape", mem_g 237 (by decide +kernel) rfl, Or.inl rfl⟩⟩
theorem gfX7_97 : GF RX7 97 8 6 5 := ⟨(RX8, TX8, 6), rfl, rfl, by decide, Or.inr ⟨"NotYet", mem_sp 238 (by decide +kernel) rfl⟩⟩
theorem pfX7_97 : PFN RX7 97 8 6 5 := ⟨(RX8, TX8, 6), rfl, rfl, by decide, rfl, ⟨"NotYet", mem_sp 238 (by decide +kernel) rfl⟩⟩
theorem nwX11_39 : NWF RX11 39 7 6 := ⟨(RX7, TX7, 6), rfl, rfl, mem_g 253 (by decide +kernel) rfl, mem_g 254 (by decide +kernel) rfl, mem_g 112 (by decide +kernel) rfl⟩
theorem lkX11_41 : LK RX11 41 mX7_init := mem_g 255 (by decide +kernel) rfl
theorem nwX7_9 : NWF RX7 9 10 7 := ⟨(RX10, TX10, 7), rfl, rfl, mem_g 259 (by decide +kernel) rfl, mem_g 260 (by decide +kernel) rfl, mem_g 113 (by decide +kernel) rfl⟩
theorem lkX7_11 : LKn RX7 11 mX10_init := ⟨"NotYet", mem_sp 261 (by decide +kernel) rfl⟩
theorem gfX10_9 : GF RX10 9 10 7 0 := ⟨(RX10, TX10, 7), rfl, rfl, by decide, Or.inl ⟨"NotYet$Way", mem_g 265 (by decide +kernel) rfl, Or.inl rfl⟩⟩
theorem pfX10_9 : PFF RX10 9 10 7 0 := ⟨(RX10, TX10, 7), rfl, rfl, by decide, rfl, rfl, mem_g 265 (by decide +kernel) rfl⟩
theorem gfX10_15 : GF RX10 15 10 7 1 := ⟨(RX10, TX10, 7), rfl, rfl, by decide, Or.inl ⟨"NotYet$Way", mem_g 266 (by decide +kernel) rfl, Or.inl rfl⟩⟩
theorem pfX10_15 : PFF RX10 15 10 7 1 := ⟨(RX10, TX10, 7), rfl, rfl, by decide, rfl, rfl, mem_g 266 (by decide +kernel) rfl⟩
theorem gfX10_18 : GF RX10 18 10 7 2 := ⟨(RX10, TX10, 7), rfl, rfl, by decide, Or.inl ⟨"NotYet$Way", mem_g 267 (by decide +kernel) rfl, Or.inl rfl⟩⟩
theorem pfX10_18 : PFF RX10 18 10 7 2 := ⟨(RX10, TX10, 7), rfl, rfl, by decide, rfl, rfl, mem_g 267 (by decide +kernel) rfl⟩
theorem gfX10_21 : GF RX10 21 10 7 3 := ⟨(RX10, TX10, 7), rfl, rfl, by decide, Or.inl ⟨"NotYet$Way", mem_g 268 (by decide +kernel) rfl, Or.inl rfl⟩⟩
theorem pfX10_21 : PFF RX10 21 10 7 3 := ⟨(RX10, TX10, 7), rfl, rfl, by decide, rfl, rfl, mem_g 268 (by decide +kernel) rfl⟩
theorem gfX10_24 : GF RX10 24 10 7 4 := ⟨(RX10, TX10, 7), rfl, rfl, by decide, Or.inl ⟨"NotYet$Way", mem_g 269 (by decide +kernel) rfl, Or.inl rfl⟩⟩
theorem pfX10_24 : PFF RX10 24 10 7 4 := ⟨(RX10, TX10, 7), rfl, rfl, by decide, rfl, rfl, mem_g 269 (by decide +kernel) rfl⟩
theorem gfX10_31 : GF RX10 31 10 7 5 := ⟨(RX10, TX10, 7), rfl, rfl, by decide, Or.inl ⟨"NotYet$Way", mem_g 270 (by decide +kernel) rfl, Or.inl rfl⟩⟩
theorem pfX10_31 : PF RX10 31 10 7 5 := ⟨(RX10, TX10, 7), rfl, rfl, by decide, rfl, ⟨"NotYet$Way", mem_g 270 (by decide +kernel) rfl, Or.inl rfl⟩⟩
theorem gfX10_27 : GF RX10 27 10 7 6 := ⟨(RX10, TX10, 7), rfl, rfl, by decide, Or.inl ⟨"NotYet$Way", mem_g 271 (by decide +kernel) rfl, Or.inl rfl⟩⟩
theorem pfX10_27 : PF RX10 27 10 7 6 := ⟨(RX10, TX10, 7), rfl, rfl, by decide, rfl, ⟨"NotYet$Way", mem_g 271 (by decide +kernel) rfl, Or.inl rfl⟩⟩
theorem gfX7_22 : GF RX7 22 7 6 0 := ⟨(RX7, TX7, 6), rfl, rfl, by decide, Or.inl ⟨"NotYet$Reader", mem_g 287 (by decide +kernel) rfl, Or.inl rfl⟩⟩
theorem pfX7_22 : PFF RX7 22 7 6 0 := ⟨(RX7, TX7, 6), rfl, rfl, by decide, rfl, rfl, mem_g 287 (by decide +kernel) rfl⟩
theorem gfX7_12 : GF RX7 12 7 6 1 := ⟨(RX7, TX7, 6), rfl, rfl, by decide, Or.inl ⟨"NotYet$Reader", mem_g 288 (by decide +kernel) rfl, Or.inl rfl⟩⟩
theorem pfX7_12 : PFF RX7 12 7 6 1 := ⟨(RX7, TX7, 6), rfl, rfl, by decide, rfl, rfl, mem_g 288 (by decide +kernel) rfl⟩
theorem gfX7_40 : GF RX7 40 7 6 2 := ⟨(RX7, TX7, 6), rfl, rfl, by decide, Or.inl ⟨"NotYet$Reader", mem_g 289 (by decide +kernel) rfl, Or.inl rfl⟩⟩
theorem pfX7_40 : PF RX7 40 7 6 2 := ⟨(RX7, TX7, 6), rfl, rfl, by decide, rfl, ⟨"NotYet$Reader", mem_g 289 (by decide +kernel) rfl, Or.inl rfl⟩⟩
theorem gfX7_47 : GF RX7 47 7 6 3 := ⟨(RX7, TX7, 6), rfl, rfl, by decide, Or.inl ⟨"NotYet$Reader", mem_g 290 (by decide +kernel) rfl, Or.inl rfl⟩⟩
theorem pfX7_47 : PF RX7 47 7 6 3 := ⟨(RX7, TX7, 6), rfl, rfl, by decide, rfl, ⟨"NotYet$Reader", mem_g 290 (by decide +kernel) rfl, Or.inl rfl⟩⟩
theorem gfX7_26 : GF RX7 26 7 6 4 := ⟨(RX7, TX7, 6), rfl, rfl, by decide, Or.inl ⟨"NotYet$Reader", mem_g 291 (by decide +kernel) rfl, Or.inl rfl⟩⟩
theorem pfX7_26 : PF RX7 26 7 6 4 := ⟨(RX7, TX7, 6), rfl, rfl, by decide, rfl, ⟨"NotYet$Reader", mem_g 291 (by decide +kernel) rfl, Or.inl rfl⟩⟩
theorem gfX7_18 : GF RX7 18 7 6 5 := ⟨(RX7, TX7, 6), rfl, rfl, by decide, Or.inl ⟨"NotYet$Reader", mem_g 292 (by decide +kernel) rfl, Or.inl rfl⟩⟩
theorem pfX7_18 : PF RX7 18 7 6 5 := ⟨(RX7, TX7, 6), rfl, rfl, by decide, rfl, ⟨"NotYet$Reader", mem_g 292 (by decide +kernel) rfl, Or.inl rfl⟩⟩
theorem nwX11_48 : NWF RX11 48 1 7 := ⟨(RX1, TX1, 7), rfl, rfl, mem_g 306 (by decide +kernel) rfl, mem_g 307 (by decide +kernel) rfl, mem_g 114 (by decide +kernel) rfl⟩
theorem lkX11_50 : LK RX11 50 mX1_init := mem_g 308 (by decide +kernel) rfl
theorem nwX1_9 : NWF RX1 9 2 2 := ⟨(RX2, TX2, 2), rfl, rfl, mem_g 312 (by decide +kernel) rfl, mem_g 313 (by decide +kernel) rfl, mem_g 115 (by decide +kernel) rfl⟩
theorem lkX1_11 : LKn RX1 11 mX2_init := ⟨"NotYet", mem_sp 314 (by decide +kernel) rfl⟩
theorem gfX2_11 : GF RX2 11 2 2 0 := ⟨(RX2, TX2, 2), rfl, rfl, by decide, Or.inl ⟨"NotYet$Judge", mem_g 318 (by decide +kernel) rfl, Or.inl rfl⟩⟩
theorem pfX2_11 : PFF RX2 11 2 2 0 := ⟨(RX2, TX2, 2), rfl, rfl, by decide, rfl, rfl, mem_g 318 (by decide +kernel) rfl⟩
theorem gfX2_17 : GF RX2 17 2 2 1 := ⟨(RX2, TX2, 2), rfl, rfl, by decide, Or.inl ⟨"NotYet$Judge", mem_g 319 (by decide +kernel) rfl, Or.inl rfl⟩⟩
theorem pfX2_17 : PFF RX2 17 2 2 1 := ⟨(RX2, TX2, 2), rfl, rfl, by decide, rfl, rfl, mem_g 319 (by decide +kernel) rfl⟩
theorem nwX1_18 : NWF RX1 18 13 3 := ⟨(RJx4a65c, TJx4a65c, 3), rfl, rfl, mem_g 325 (by decide +kernel) rfl, mem_g 326 (by decide +kernel) rfl, mem_g 118 (by decide +kernel) rfl⟩
theorem lkX1_20 : LK RX1 20 mJx4a65c_init_da8c8 := mem_g 327 (by decide +kernel) rfl
theorem lkJx4a65c_1 : LK RJx4a65c 1 mJxc12de_init_da8c8 := mem_g 330 (by decide +kernel) rfl
theorem lkJxc12de_1 : LK RJxc12de 1 mJxa1e45_init_da8c8 := mem_g 333 (by decide +kernel) rfl
theorem gfJx4a65c_9 : GF RJx4a65c 9 13 3 1 := ⟨(RJx4a65c, TJx4a65c, 3), rfl, rfl, by decide, Or.inl ⟨"java/util/ArrayList", mem_g 339 (by decide +kernel) rfl, Or.inl rfl⟩⟩
theorem pfJx4a65c_9 : PF RJx4a65c 9 13 3 1 := ⟨(RJx4a65c, TJx4a65c, 3), rfl, rfl, by decide, rfl, ⟨"java/util/ArrayList", mem_g 339 (by decide +kernel) rfl, Or.inl rfl⟩⟩
theorem gfJx4a65c_48 : GF RJx4a65c 48 13 3 2 := ⟨(RJx4a65c, TJx4a65c, 3), rfl, rfl, by decide, Or.inl ⟨"java/util/ArrayList", mem_g 340 (by decide +kernel) rfl, Or.inl rfl⟩⟩
theorem pfJx4a65c_48 : PF RJx4a65c 48 13 3 2 := ⟨(RJx4a65c, TJx4a65c, 3), rfl, rfl, by decide, rfl, ⟨"java/util/ArrayList", mem_g 340 (by decide +kernel) rfl, Or.inl rfl⟩⟩
theorem gfJxc12de_7 : GF RJxc12de 7 13 3 0 := ⟨(RJx4a65c, TJx4a65c, 3), rfl, rfl, by decide, Or.inl ⟨"java/util/AbstractList", mem_g 341 (by decide +kernel) rfl, Or.inl rfl⟩⟩
theorem pfJxc12de_7 : PF RJxc12de 7 13 3 0 := ⟨(RJx4a65c, TJx4a65c, 3), rfl, rfl, by decide, rfl, ⟨"java/util/AbstractList", mem_g 341 (by decide +kernel) rfl, Or.inl rfl⟩⟩
theorem gfJx4a65c_63 : GF RJx4a65c 63 13 3 0 := ⟨(RJx4a65c, TJx4a65c, 3), rfl, rfl, by decide, Or.inl ⟨"java/util/ArrayList", mem_g 342 (by decide +kernel) rfl, Or.inr (mem_g 343 (by decide +kernel) rfl)⟩⟩
theorem pfJx4a65c_63 : PF RJx4a65c 63 13 3 0 := ⟨(RJx4a65c, TJx4a65c, 3), rfl, rfl, by decide, rfl, ⟨"java/util/ArrayList", mem_g 342 (by decide +kernel) rfl, Or.inr (mem_g 343 (by decide +kernel) rfl)⟩⟩
theorem nwX1_40 : NWF RX1 40 10 7 := ⟨(RX10, TX10, 7), rfl, rfl, mem_g 351 (by decide +kernel) rfl, mem_g 260 (by decide +kernel) rfl, mem_g 113 (by decide +kernel) rfl⟩
theorem lkX1_42 : LKn RX1 42 mX10_init := ⟨"NotYet", mem_sp 352 (by decide +kernel) rfl⟩
theorem lkX1_43 : LK RX1 43 mJx4a65c_add_9ea2d := mem_g 353 (by decide +kernel) rfl
theorem lkJx4a65c_131 : LK RJx4a65c 131 mJx4a65c_add_72be8 := mem_g 357 (by decide +kernel) rfl
theorem lkJx4a65c_129 : LK RJx4a65c 129 mJx4a65c_grow_d5877 := mem_g 361 (by decide +kernel) rfl
theorem lkJx4a65c_69 : LK RJx4a65c 69 mJx4a65c_grow_92f84 := mem_g 365 (by decide +kernel) rfl
theorem lkJx4a65c_73 : LK RJx4a65c 73 mJ8_newLength_cabcc := mem_g 369 (by decide +kernel) rfl
theorem lkJ8_194 : LK RJ8 194 mJ9_max_7cf53 := mem_g 372 (by decide +kernel) rfl
theorem ctJ8_200 : Cond.constant RJ8 200 (2147483639) ∈ lw_g := mem_g 375 (by decide +kernel) rfl
theorem lkJ8_201 : LK RJ8 201 mJ8_hugeLength_7cf53 := mem_g 376 (by decide +kernel) rfl
theorem lkJx4a65c_66 : LK RJx4a65c 66 mJ7_copyOf_1904c := mem_g 379 (by decide +kernel) rfl
theorem lkJ7_300 : LK RJ7 300 mJ7_copyOf_6403c := mem_g 400 (by decide +kernel) rfl
theorem lkJ7_304 : LK RJ7 304 mJ9_min_7cf53 := mem_g 406 (by decide +kernel) rfl
theorem lkJx4a65c_79 : LK RJx4a65c 79 mJ9_max_7cf53 := mem_g 412 (by decide +kernel) rfl
theorem gfX1_32 : GF RX1 32 1 7 0 := ⟨(RX1, TX1, 7), rfl, rfl, by decide, Or.inl ⟨"NotYet$Folk", mem_g 414 (by decide +kernel) rfl, Or.inl rfl⟩⟩
theorem pfX1_32 : PFF RX1 32 1 7 0 := ⟨(RX1, TX1, 7), rfl, rfl, by decide, rfl, rfl, mem_g 414 (by decide +kernel) rfl⟩
theorem gfX1_36 : GF RX1 36 1 7 1 := ⟨(RX1, TX1, 7), rfl, rfl, by decide, Or.inl ⟨"NotYet$Folk", mem_g 415 (by decide +kernel) rfl, Or.inl rfl⟩⟩
theorem pfX1_36 : PFF RX1 36 1 7 1 := ⟨(RX1, TX1, 7), rfl, rfl, by decide, rfl, rfl, mem_g 415 (by decide +kernel) rfl⟩
theorem gfX1_12 : GF RX1 12 1 7 2 := ⟨(RX1, TX1, 7), rfl, rfl, by decide, Or.inl ⟨"NotYet$Folk", mem_g 416 (by decide +kernel) rfl, Or.inl rfl⟩⟩
theorem pfX1_12 : PFF RX1 12 1 7 2 := ⟨(RX1, TX1, 7), rfl, rfl, by decide, rfl, rfl, mem_g 416 (by decide +kernel) rfl⟩
theorem gfX1_21 : GF RX1 21 1 7 3 := ⟨(RX1, TX1, 7), rfl, rfl, by decide, Or.inl ⟨"NotYet$Folk", mem_g 417 (by decide +kernel) rfl, Or.inl rfl⟩⟩
theorem pfX1_21 : PFF RX1 21 1 7 3 := ⟨(RX1, TX1, 7), rfl, rfl, by decide, rfl, rfl, mem_g 417 (by decide +kernel) rfl⟩
theorem gfX1_25 : GF RX1 25 1 7 4 := ⟨(RX1, TX1, 7), rfl, rfl, by decide, Or.inl ⟨"NotYet$Folk", mem_g 418 (by decide +kernel) rfl, Or.inl rfl⟩⟩
theorem pfX1_25 : PFF RX1 25 1 7 4 := ⟨(RX1, TX1, 7), rfl, rfl, by decide, rfl, rfl, mem_g 418 (by decide +kernel) rfl⟩
theorem gfX1_28 : GF RX1 28 1 7 5 := ⟨(RX1, TX1, 7), rfl, rfl, by decide, Or.inl ⟨"NotYet$Folk", mem_g 419 (by decide +kernel) rfl, Or.inl rfl⟩⟩
theorem pfX1_28 : PFF RX1 28 1 7 5 := ⟨(RX1, TX1, 7), rfl, rfl, by decide, rfl, rfl, mem_g 419 (by decide +kernel) rfl⟩
theorem gfX1_51 : GF RX1 51 1 7 6 := ⟨(RX1, TX1, 7), rfl, rfl, by decide, Or.inl ⟨"NotYet$Folk", mem_g 420 (by decide +kernel) rfl, Or.inl rfl⟩⟩
theorem pfX1_51 : PF RX1 51 1 7 6 := ⟨(RX1, TX1, 7), rfl, rfl, by decide, rfl, ⟨"NotYet$Folk", mem_g 420 (by decide +kernel) rfl, Or.inl rfl⟩⟩
theorem nwX11_57 : NWF RX11 57 0 11 := ⟨(RX0, TX0, 11), rfl, rfl, mem_g 436 (by decide +kernel) rfl, mem_g 437 (by decide +kernel) rfl, mem_g 122 (by decide +kernel) rfl⟩
theorem lkX11_59 : LKn RX11 59 mX0_init := ⟨"NotYet", mem_sp 438 (by decide +kernel) rfl⟩
theorem gfX0_11 : GF RX0 11 0 11 0 := ⟨(RX0, TX0, 11), rfl, rfl, by decide, Or.inl ⟨"NotYet$Feast", mem_g 442 (by decide +kernel) rfl, Or.inl rfl⟩⟩
theorem pfX0_11 : PFF RX0 11 0 11 0 := ⟨(RX0, TX0, 11), rfl, rfl, by decide, rfl, rfl, mem_g 442 (by decide +kernel) rfl⟩
theorem gfX0_15 : GF RX0 15 0 11 1 := ⟨(RX0, TX0, 11), rfl, rfl, by decide, Or.inl ⟨"NotYet$Feast", mem_g 443 (by decide +kernel) rfl, Or.inl rfl⟩⟩
theorem pfX0_15 : PFF RX0 15 0 11 1 := ⟨(RX0, TX0, 11), rfl, rfl, by decide, rfl, rfl, mem_g 443 (by decide +kernel) rfl⟩
theorem gfX0_18 : GF RX0 18 0 11 2 := ⟨(RX0, TX0, 11), rfl, rfl, by decide, Or.inl ⟨"NotYet$Feast", mem_g 444 (by decide +kernel) rfl, Or.inl rfl⟩⟩
theorem pfX0_18 : PFF RX0 18 0 11 2 := ⟨(RX0, TX0, 11), rfl, rfl, by decide, rfl, rfl, mem_g 444 (by decide +kernel) rfl⟩
theorem gfX0_21 : GF RX0 21 0 11 3 := ⟨(RX0, TX0, 11), rfl, rfl, by decide, Or.inl ⟨"NotYet$Feast", mem_g 445 (by decide +kernel) rfl, Or.inl rfl⟩⟩
theorem pfX0_21 : PFF RX0 21 0 11 3 := ⟨(RX0, TX0, 11), rfl, rfl, by decide, rfl, rfl, mem_g 445 (by decide +kernel) rfl⟩
theorem gfX0_24 : GF RX0 24 0 11 4 := ⟨(RX0, TX0, 11), rfl, rfl, by decide, Or.inl ⟨"NotYet$Feast", mem_g 446 (by decide +kernel) rfl, Or.inl rfl⟩⟩
theorem pfX0_24 : PF RX0 24 0 11 4 := ⟨(RX0, TX0, 11), rfl, rfl, by decide, rfl, ⟨"NotYet$Feast", mem_g 446 (by decide +kernel) rfl, Or.inl rfl⟩⟩
theorem gfX0_35 : GF RX0 35 0 11 5 := ⟨(RX0, TX0, 11), rfl, rfl, by decide, Or.inl ⟨"NotYet$Feast", mem_g 447 (by decide +kernel) rfl, Or.inl rfl⟩⟩
theorem pfX0_35 : PF RX0 35 0 11 5 := ⟨(RX0, TX0, 11), rfl, rfl, by decide, rfl, ⟨"NotYet$Feast", mem_g 447 (by decide +kernel) rfl, Or.inl rfl⟩⟩
theorem gfX0_27 : GF RX0 27 0 11 6 := ⟨(RX0, TX0, 11), rfl, rfl, by decide, Or.inl ⟨"NotYet$Feast", mem_g 448 (by decide +kernel) rfl, Or.inl rfl⟩⟩
theorem pfX0_27 : PF RX0 27 0 11 6 := ⟨(RX0, TX0, 11), rfl, rfl, by decide, rfl, ⟨"NotYet$Feast", mem_g 448 (by decide +kernel) rfl, Or.inl rfl⟩⟩
theorem gfX0_38 : GF RX0 38 0 11 7 := ⟨(RX0, TX0, 11), rfl, rfl, by decide, Or.inl ⟨"NotYet$Feast", mem_g 449 (by decide +kernel) rfl, Or.inl rfl⟩⟩
theorem pfX0_38 : PF RX0 38 0 11 7 := ⟨(RX0, TX0, 11), rfl, rfl, by decide, rfl, ⟨"NotYet$Feast", mem_g 449 (by decide +kernel) rfl, Or.inl rfl⟩⟩
theorem gfX0_41 : GF RX0 41 0 11 8 := ⟨(RX0, TX0, 11), rfl, rfl, by decide, Or.inl ⟨"NotYet$Feast", mem_g 450 (by decide +kernel) rfl, Or.inl rfl⟩⟩
theorem pfX0_41 : PF RX0 41 0 11 8 := ⟨(RX0, TX0, 11), rfl, rfl, by decide, rfl, ⟨"NotYet$Feast", mem_g 450 (by decide +kernel) rfl, Or.inl rfl⟩⟩
theorem gfX0_44 : GF RX0 44 0 11 9 := ⟨(RX0, TX0, 11), rfl, rfl, by decide, Or.inl ⟨"NotYet$Feast", mem_g 451 (by decide +kernel) rfl, Or.inl rfl⟩⟩
theorem pfX0_44 : PF RX0 44 0 11 9 := ⟨(RX0, TX0, 11), rfl, rfl, by decide, rfl, ⟨"NotYet$Feast", mem_g 451 (by decide +kernel) rfl, Or.inl rfl⟩⟩
theorem gfX0_31 : GF RX0 31 0 11 10 := ⟨(RX0, TX0, 11), rfl, rfl, by decide, Or.inl ⟨"NotYet$Feast", mem_g 452 (by decide +kernel) rfl, Or.inl rfl⟩⟩
theorem pfX0_31 : PF RX0 31 0 11 10 := ⟨(RX0, TX0, 11), rfl, rfl, by decide, rfl, ⟨"NotYet$Feast", mem_g 452 (by decide +kernel) rfl, Or.inl rfl⟩⟩
theorem nwX11_64 : NWF RX11 64 5 3 := ⟨(RX5, TX5, 3), rfl, rfl, mem_g 476 (by decide +kernel) rfl, mem_g 477 (by decide +kernel) rfl, mem_g 123 (by decide +kernel) rfl⟩
theorem lkX11_66 : LK RX11 66 mX5_init := mem_g 478 (by decide +kernel) rfl
theorem gfX5_20 : GF RX5 20 5 3 0 := ⟨(RX5, TX5, 3), rfl, rfl, by decide, Or.inl ⟨"NotYet$Purse", mem_g 482 (by decide +kernel) rfl, Or.inl rfl⟩⟩
theorem pfX5_20 : PFF RX5 20 5 3 0 := ⟨(RX5, TX5, 3), rfl, rfl, by decide, rfl, rfl, mem_g 482 (by decide +kernel) rfl⟩
theorem gfX5_11 : GF RX5 11 5 3 1 := ⟨(RX5, TX5, 3), rfl, rfl, by decide, Or.inl ⟨"NotYet$Purse", mem_g 483 (by decide +kernel) rfl, Or.inl rfl⟩⟩
theorem pfX5_11 : PFF RX5 11 5 3 1 := ⟨(RX5, TX5, 3), rfl, rfl, by decide, rfl, rfl, mem_g 483 (by decide +kernel) rfl⟩
theorem gfX5_17 : GF RX5 17 5 3 2 := ⟨(RX5, TX5, 3), rfl, rfl, by decide, Or.inl ⟨"NotYet$Purse", mem_g 484 (by decide +kernel) rfl, Or.inl rfl⟩⟩
theorem pfX5_17 : PFF RX5 17 5 3 2 := ⟨(RX5, TX5, 3), rfl, rfl, by decide, rfl, rfl, mem_g 484 (by decide +kernel) rfl⟩
theorem gfX11_12 : GF RX11 12 11 8 0 := ⟨(RX11, TX11, 8), rfl, rfl, by decide, Or.inl ⟨"NotYet", mem_g 492 (by decide +kernel) rfl, Or.inl rfl⟩⟩
theorem pfX11_12 : PFF RX11 12 11 8 0 := ⟨(RX11, TX11, 8), rfl, rfl, by decide, rfl, rfl, mem_g 492 (by decide +kernel) rfl⟩
theorem gfX11_21 : GF RX11 21 11 8 1 := ⟨(RX11, TX11, 8), rfl, rfl, by decide, Or.inl ⟨"NotYet", mem_g 493 (by decide +kernel) rfl, Or.inl rfl⟩⟩
theorem pfX11_21 : PFF RX11 21 11 8 1 := ⟨(RX11, TX11, 8), rfl, rfl, by decide, rfl, rfl, mem_g 493 (by decide +kernel) rfl⟩
theorem gfX11_28 : GF RX11 28 11 8 2 := ⟨(RX11, TX11, 8), rfl, rfl, by decide, Or.inl ⟨"NotYet", mem_g 494 (by decide +kernel) rfl, Or.inl rfl⟩⟩
theorem pfX11_28 : PFF RX11 28 11 8 2 := ⟨(RX11, TX11, 8), rfl, rfl, by decide, rfl, rfl, mem_g 494 (by decide +kernel) rfl⟩
theorem gfX11_35 : GF RX11 35 11 8 3 := ⟨(RX11, TX11, 8), rfl, rfl, by decide, Or.inl ⟨"NotYet", mem_g 495 (by decide +kernel) rfl, Or.inl rfl⟩⟩
theorem pfX11_35 : PFF RX11 35 11 8 3 := ⟨(RX11, TX11, 8), rfl, rfl, by decide, rfl, rfl, mem_g 495 (by decide +kernel) rfl⟩
theorem gfX11_44 : GF RX11 44 11 8 4 := ⟨(RX11, TX11, 8), rfl, rfl, by decide, Or.inl ⟨"NotYet", mem_g 496 (by decide +kernel) rfl, Or.inl rfl⟩⟩
theorem pfX11_44 : PFF RX11 44 11 8 4 := ⟨(RX11, TX11, 8), rfl, rfl, by decide, rfl, rfl, mem_g 496 (by decide +kernel) rfl⟩
theorem gfX11_53 : GF RX11 53 11 8 5 := ⟨(RX11, TX11, 8), rfl, rfl, by decide, Or.inl ⟨"NotYet", mem_g 497 (by decide +kernel) rfl, Or.inl rfl⟩⟩
theorem pfX11_53 : PFF RX11 53 11 8 5 := ⟨(RX11, TX11, 8), rfl, rfl, by decide, rfl, rfl, mem_g 497 (by decide +kernel) rfl⟩
theorem gfX11_60 : GF RX11 60 11 8 6 := ⟨(RX11, TX11, 8), rfl, rfl, by decide, Or.inl ⟨"NotYet", mem_g 498 (by decide +kernel) rfl, Or.inl rfl⟩⟩
theorem pfX11_60 : PFF RX11 60 11 8 6 := ⟨(RX11, TX11, 8), rfl, rfl, by decide, rfl, rfl, mem_g 498 (by decide +kernel) rfl⟩
theorem gfX11_69 : GF RX11 69 11 8 7 := ⟨(RX11, TX11, 8), rfl, rfl, by decide, Or.inl ⟨"NotYet", mem_g 499 (by decide +kernel) rfl, Or.inl rfl⟩⟩
theorem pfX11_69 : PFF RX11 69 11 8 7 := ⟨(RX11, TX11, 8), rfl, rfl, by decide, rfl, rfl, mem_g 499 (by decide +kernel) rfl⟩
theorem lkL_13 : LK "NotYetLaw" 13 mX11_sorts := mem_g 517 (by decide +kernel) rfl
theorem lkX11_73 : LK RX11 73 mX3_isSide := mem_g 521 (by decide +kernel) rfl
theorem lkX11_77 : LK RX11 77 mX1_size := mem_g 525 (by decide +kernel) rfl
theorem lkX1_47 : LK RX1 47 mJx4a65c_size_8abf5 := mem_g 529 (by decide +kernel) rfl
theorem lkX11_81 : LK RX11 81 mX3_resize := mem_g 533 (by decide +kernel) rfl
theorem lkX3_37 : LK RX3 37 mX3_isSide := mem_g 537 (by decide +kernel) rfl
theorem lkL_18 : LK "NotYetLaw" 18 mX11_look := mem_g 538 (by decide +kernel) rfl
theorem lkX11_85 : LK RX11 85 mX3_isSort := mem_g 542 (by decide +kernel) rfl
theorem lkX11_89 : LK RX11 89 mX3_describe := mem_g 546 (by decide +kernel) rfl
theorem lkX3_41 : LK RX3 41 mX3_isSort := mem_g 550 (by decide +kernel) rfl
theorem lkL_23 : LK "NotYetLaw" 23 mX11_worth := mem_g 551 (by decide +kernel) rfl
theorem lkX11_93 : LK RX11 93 mX3_tell := mem_g 555 (by decide +kernel) rfl
theorem lkL_27 : LK "NotYetLaw" 27 mX11_set := mem_g 559 (by decide +kernel) rfl
theorem lkX11_97 : LK RX11 97 mX3_change := mem_g 563 (by decide +kernel) rfl
theorem lkL_31 : LK "NotYetLaw" 31 mX11_classes := mem_g 571 (by decide +kernel) rfl
theorem ctX11_100 : Cond.constant RX11 100 (-10000000) ∈ lw_g := mem_g 575 (by decide +kernel) rfl
theorem lkX11_101 : LK RX11 101 mX6_refresh := mem_g 576 (by decide +kernel) rfl
theorem lkX6_43 : LK RX6 43 mX3_version := mem_g 580 (by decide +kernel) rfl
theorem lkX6_46 : LK RX6 46 mX3_falls := mem_g 584 (by decide +kernel) rfl
theorem lkX3_57 : LK RX3 57 mX3_count := mem_g 588 (by decide +kernel) rfl
theorem lkX3_61 : LK RX3 61 mX3_lookOf := mem_g 592 (by decide +kernel) rfl
theorem lkX6_49 : LK RX6 49 mX6_addClass := mem_g 596 (by decide +kernel) rfl
theorem lkX6_40 : LK RX6 40 mX3_count := mem_g 600 (by decide +kernel) rfl
theorem lkX6_53 : LK RX6 53 mX6_choose := mem_g 601 (by decide +kernel) rfl
theorem lkX6_66 : LK RX6 66 mX3_setting := mem_g 605 (by decide +kernel) rfl
theorem lkX6_69 : LK RX6 69 mX3_oftenOf := mem_g 609 (by decide +kernel) rfl
theorem lkX6_73 : LK RX6 73 mX3_lookOf := mem_g 613 (by decide +kernel) rfl
theorem lkX11_104 : LK RX11 104 mX6_falling := mem_g 614 (by decide +kernel) rfl
theorem lkX11_108 : LK RX11 108 mX6_count := mem_g 618 (by decide +kernel) rfl
theorem lkX11_111 : LK RX11 111 mX6_inNone := mem_g 622 (by decide +kernel) rfl
theorem lkX6_36 : LK RX6 36 mX3_isSide := mem_g 626 (by decide +kernel) rfl
theorem lkX11_115 : LK RX11 115 mX6_detail := mem_g 627 (by decide +kernel) rfl
theorem ctX6_35 : Cond.constant RX6 35 (-10000000) ∈ lw_g := mem_g 631 (by decide +kernel) rfl
theorem lkL_36 : LK "NotYetLaw" 36 mX11_patience := mem_g 632 (by decide +kernel) rfl
theorem lkX11_119 : LK RX11 119 mX3_setting := mem_g 636 (by decide +kernel) rfl
theorem lkX11_122 : LK RX11 122 mX9_refresh := mem_g 637 (by decide +kernel) rfl
theorem lkX9_36 : LK RX9 36 mX3_version := mem_g 641 (by decide +kernel) rfl
theorem lkX9_39 : LK RX9 39 mX9_gatherWorths := mem_g 642 (by decide +kernel) rfl
theorem lkX9_52 : LK RX9 52 mX3_worthTo := mem_g 646 (by decide +kernel) rfl
theorem lkX9_32 : LK RX9 32 mX3_setting := mem_g 650 (by decide +kernel) rfl
theorem lkX9_42 : LK RX9 42 mJ9_min_7cf53 := mem_g 651 (by decide +kernel) rfl
theorem lkX9_48 : LK RX9 48 mX9_ahead := mem_g 652 (by decide +kernel) rfl
theorem lkX9_28 : LK RX9 28 mX3_isSort := mem_g 656 (by decide +kernel) rfl
theorem lkX9_55 : LK RX9 55 mX3_count := mem_g 657 (by decide +kernel) rfl
theorem lkX9_58 : LK RX9 58 mX3_oftenOf := mem_g 658 (by decide +kernel) rfl
theorem lkX9_61 : LK RX9 61 mJ9_max_7cf53 := mem_g 659 (by decide +kernel) rfl
theorem lkX11_123 : LK RX11 123 mX9_behind := mem_g 660 (by decide +kernel) rfl
theorem lkL_41 : LK "NotYetLaw" 41 mX11_pairs := mem_g 664 (by decide +kernel) rfl
theorem lkX11_127 : LK RX11 127 mX3_worthTo := mem_g 668 (by decide +kernel) rfl
theorem lkL_46 : LK "NotYetLaw" 46 mX11_feed := mem_g 669 (by decide +kernel) rfl
theorem lkX11_130 : LK RX11 130 mX8_hasRoom := mem_g 673 (by decide +kernel) rfl
theorem lkX11_133 : LK RX11 133 mX8_put := mem_g 677 (by decide +kernel) rfl
theorem lkX11_137 : LK RX11 137 mX8_size := mem_g 681 (by decide +kernel) rfl
theorem lkL_51 : LK "NotYetLaw" 51 mX11_end := mem_g 685 (by decide +kernel) rfl
theorem lkX11_138 : LK RX11 138 mX8_cut := mem_g 689 (by decide +kernel) rfl
theorem lkL_56 : LK "NotYetLaw" 56 mX11_way := mem_g 693 (by decide +kernel) rfl
theorem lkX11_141 : LK RX11 141 mX7_forget := mem_g 697 (by decide +kernel) rfl
theorem lkX11_144 : LK RX11 144 mX1_isWay := mem_g 701 (by decide +kernel) rfl
theorem lkX11_147 : LK RX11 147 mX7_read := mem_g 705 (by decide +kernel) rfl
theorem lkX7_29 : LK RX7 29 mX7_forget := mem_g 709 (by decide +kernel) rfl
theorem lkX7_32 : LK RX7 32 mX10_clear := mem_g 710 (by decide +kernel) rfl
theorem lkX7_35 : LK RX7 35 mX8_makeTokens := mem_g 714 (by decide +kernel) rfl
theorem lkX8_30 : LK RX8 30 mX8_signAt := mem_g 718 (by decide +kernel) rfl
theorem lkX8_34 : LK RX8 34 mX8_makeOne := mem_g 722 (by decide +kernel) rfl
theorem lkX8_45 : LK RX8 45 mX8_isLetter := mem_g 726 (by decide +kernel) rfl
theorem lkX8_49 : LK RX8 49 mX8_makeWord := mem_g 729 (by decide +kernel) rfl
theorem lkX8_65 : LK RX8 65 mX8_keyword := mem_g 733 (by decide +kernel) rfl
theorem lkX8_70 : LK RX8 70 mJ0_length_8abf5 := mem_g 738 (by decide +kernel) rfl
theorem lkJ0_335 : LK RJ0 335 mJ0_coder_7d493 := mem_g 742 (by decide +kernel) rfl
theorem lkX8_74 : LK RX8 74 mJ0_charAt_5068e := mem_g 748 (by decide +kernel) rfl
theorem lkJ0_492 : LK RJ0 492 mJ0_isLatin1_aae02 := mem_g 752 (by decide +kernel) rfl
theorem lkJ0_495 : LK RJ0 495 mJ1_charAt_3b067 := mem_g 756 (by decide +kernel) rfl
theorem lkJ1_9 : LK RJ1 9 mJ0_checkIndex_df160 := mem_g 759 (by decide +kernel) rfl
theorem lkJ0_1059 : LK RJ0 1059 mJ3_checkIndex_8e157 := mem_g 764 (by decide +kernel) rfl
theorem lkJ0_498 : LK RJ0 498 mJ2_charAt_3b067 := mem_g 767 (by decide +kernel) rfl
theorem lkJ2_67 : LK RJ2 67 mJ2_checkIndex_2214a := mem_g 770 (by decide +kernel) rfl
theorem lkJ2_48 : LK RJ2 48 mJ2_length_9d52b := mem_g 773 (by decide +kernel) rfl
theorem lkJ2_414 : LK RJ2 414 mJ0_checkIndex_df160 := mem_g 776 (by decide +kernel) rfl
theorem lkJ2_71 : LK RJ2 71 mJ2_getChar_3b067 := mem_g 777 (by decide +kernel) rfl
theorem lkX8_78 : LK RX8 78 mX8_spells := mem_g 786 (by decide +kernel) rfl
theorem lkX8_41 : LK RX8 41 mX8_keep := mem_g 790 (by decide +kernel) rfl
theorem lkX8_52 : LK RX8 52 mX8_isDigit := mem_g 794 (by decide +kernel) rfl
theorem lkX8_55 : LK RX8 55 mX8_makeNumber := mem_g 797 (by decide +kernel) rfl
theorem lkX8_60 : LK RX8 60 mJ0_indexOf_0f7a4 := mem_g 802 (by decide +kernel) rfl
theorem lkJ0_633 : LK RJ0 633 mJ0_indexOf_7cf53 := mem_g 806 (by decide +kernel) rfl
theorem lkJ0_505 : LK RJ0 505 mJ0_length_8abf5 := mem_g 810 (by decide +kernel) rfl
theorem lkJ0_637 : LK RJ0 637 mJ1_indexOf_4cfef := mem_g 811 (by decide +kernel) rfl
theorem lkJ1_88 : LK RJ1 88 mJ1_canEncode_9a6ad := mem_g 814 (by decide +kernel) rfl
theorem lkJ1_92 : LK RJ1 92 mJ9_max_7cf53 := mem_g 817 (by decide +kernel) rfl
theorem lkJ1_38 : LK RJ1 38 mJ9_min_7cf53 := mem_g 818 (by decide +kernel) rfl
theorem lkJ1_95 : LK RJ1 95 mJ1_indexOfChar_4cfef := mem_g 819 (by decide +kernel) rfl
theorem lkJ0_640 : LK RJ0 640 mJ2_indexOf_4cfef := mem_g 822 (by decide +kernel) rfl
theorem lkJ2_224 : LK RJ2 224 mJ9_max_7cf53 := mem_g 825 (by decide +kernel) rfl
theorem lkJ2_183 : LK RJ2 183 mJ9_min_7cf53 := mem_g 826 (by decide +kernel) rfl
theorem ctJ2_227 : Cond.constant RJ2 227 (65536) ∈ lw_g := mem_g 827 (by decide +kernel) rfl
theorem lkJ2_228 : LK RJ2 228 mJ2_indexOfChar_4cfef := mem_g 828 (by decide +kernel) rfl
theorem lkJ2_96 : LK RJ2 96 mJ2_checkBoundsBeginEnd_d044e := mem_g 831 (by decide +kernel) rfl
theorem lkJ2_241 : LK RJ2 241 mJ0_checkBoundsBeginEnd_23922 := mem_g 834 (by decide +kernel) rfl
theorem lkJ0_1062 : LK RJ0 1062 mJ3_checkFromToIndex_8c36e := mem_g 837 (by decide +kernel) rfl
theorem lkJ2_244 : LK RJ2 244 mJ2_indexOfCharUnsafe_4cfef := mem_g 840 (by decide +kernel) rfl
theorem lkJ2_232 : LK RJ2 232 mJ2_indexOfSupplementary_4cfef := mem_g 843 (by decide +kernel) rfl
theorem lkJ2_164 : LK RJ2 164 mJ11_isValidCodePoint_9a6ad := mem_g 846 (by decide +kernel) rfl
theorem lkJ2_157 : LK RJ2 157 mJ11_highSurrogate_5068e := mem_g 849 (by decide +kernel) rfl
theorem ctJ11_110 : Cond.constant RJ11 110 (55232) ∈ lw_g := mem_g 852 (by decide +kernel) rfl
theorem lkJ2_161 : LK RJ2 161 mJ11_lowSurrogate_5068e := mem_g 853 (by decide +kernel) rfl
theorem ctJ11_76 : Cond.constant RJ11 76 (56320) ∈ lw_g := mem_g 856 (by decide +kernel) rfl
theorem lkX8_38 : LK RX8 38 mX8_kind := mem_g 857 (by decide +kernel) rfl
theorem lkX7_43 : LK RX7 43 mX8_kind := mem_g 861 (by decide +kernel) rfl
theorem lkX7_50 : LK RX7 50 mX7_readLine := mem_g 862 (by decide +kernel) rfl
theorem lkX7_53 : LK RX7 53 mX7_blame := mem_g 866 (by decide +kernel) rfl
