theorem goodIn_cons1 {big b : List Cond} {c : Cond} (h1 : GoodIn big [c]) (h2 : GoodIn big b) : GoodIn big (c :: b) := fun w h => (List.mem_cons.mp h).elim (fun e => h1 w (by rw [e]; exact List.mem_cons_self)) (h2 w)
theorem goodIn_nil1 {big : List Cond} : GoodIn big [] := fun w h => absurd h List.not_mem_nil
set_option maxRecDepth 20000 in
theorem gp_L1 : GoodIn wsL_law ([.code yX10_init cX10_init 2 none] : List Cond) := goodIn_r _ [8] (by decide +kernel) (by decide +kernel)
set_option maxRecDepth 20000 in
theorem gp_L2 : GoodIn wsL_law wsX10_init_r1 := goodIn_r _ [9, 10, 11, 12, 13, 14, 15, 16, 17, 18, 19, 20, 21, 22, 23, 24, 25, 26, 27, 28, 29, 30, 31, 32] (by decide +kernel) (by decide +kernel)
set_option maxRecDepth 20000 in
theorem gp_L3 : GoodIn wsL_law wsX10_init_r2 := goodIn_r _ [33, 34, 35, 36, 37, 38, 39, 40, 41, 42, 43, 44, 45, 46, 47, 48, 49, 50, 51, 52, 53, 54, 55, 56] (by decide +kernel) (by decide +kernel)
set_option maxRecDepth 20000 in
theorem gp_L4 : GoodIn wsL_law wsX10_init_r3 := goodIn_r _ [57, 58, 59, 60, 61, 62, 63, 64, 65, 66, 67, 68, 69, 70, 71, 72, 73, 74, 75, 76, 77, 78, 79, 80] (by decide +kernel) (by decide +kernel)
set_option maxRecDepth 20000 in
theorem gp_L5 : GoodIn wsL_law wsX10_init_r4 := goodIn_r _ [81, 82, 83, 84, 85, 86, 87, 88, 89, 90, 91, 92, 93, 94, 95, 96, 97, 98, 99, 100, 101, 102, 103, 104] (by decide +kernel) (by decide +kernel)
set_option maxRecDepth 20000 in
theorem gp_L6 : GoodIn wsL_law wsX10_init_r5 := goodIn_r _ [105, 106, 107, 108, 109, 110, 111, 112, 113, 114, 115, 116, 117, 118, 119, 120, 121, 122, 123, 124, 125, 126, 127, 128] (by decide +kernel) (by decide +kernel)
set_option maxRecDepth 20000 in
theorem gp_L7 : GoodIn wsL_law wsX10_init_r6 := goodIn_r _ [129, 130, 131, 132, 133, 134, 135, 136, 137, 138, 139, 140, 141, 142] (by decide +kernel) (by decide +kernel)
set_option maxRecDepth 20000 in
theorem gp_L8 : GoodIn wsL_law wsX60 := goodIn_r _ [1262, 1263, 1264] (by decide +kernel) (by decide +kernel)
set_option maxRecDepth 20000 in
theorem gp_L9 : GoodIn wsL_law wsX100 := goodIn_r _ [1212, 1213, 1214, 1215, 1216, 1217, 1218, 1219, 1220, 1221, 1222] (by decide +kernel) (by decide +kernel)
set_option maxRecDepth 20000 in
theorem gp_L10 : GoodIn wsL_law wsX70 := goodIn_r _ [1265, 1266] (by decide +kernel) (by decide +kernel)
set_option maxRecDepth 20000 in
theorem gp_L11 : GoodIn wsL_law wsX90 := goodIn_r _ [1267, 1268] (by decide +kernel) (by decide +kernel)
set_option maxRecDepth 20000 in
theorem gp_L12 : GoodIn wsL_law wsX30 := goodIn_r _ [1269, 1270, 1271, 1272, 1273, 1274, 1275] (by decide +kernel) (by decide +kernel)
set_option maxRecDepth 20000 in
theorem gp_L13 : GoodIn wsL_law wsX40 := goodIn_r _ [1276, 1277, 1278, 1279, 1280] (by decide +kernel) (by decide +kernel)
set_option maxRecDepth 20000 in
theorem gp_L14 : GoodIn wsL_law wsX10 := goodIn_r _ [1281, 1282] (by decide +kernel) (by decide +kernel)
set_option maxRecDepth 20000 in
theorem gp_L15 : GoodIn wsL_law wsX80 := goodIn_r _ [1283, 1284, 1285, 1286, 1287, 1288, 1289, 1290, 1291, 1292, 1293] (by decide +kernel) (by decide +kernel)
set_option maxRecDepth 20000 in
theorem gp_L16 : GoodIn wsL_law wsX20 := goodIn_r _ [1294, 1295, 1296, 1297, 1298, 1299, 1300] (by decide +kernel) (by decide +kernel)
set_option maxRecDepth 20000 in
theorem gp_L17 : GoodIn wsL_law wsX00 := goodIn_r _ [1301, 1302] (by decide +kernel) (by decide +kernel)
set_option maxRecDepth 20000 in
theorem gp_L18 : GoodIn wsL_law wsX50 := goodIn_r _ [1303, 1304, 1305, 1306] (by decide +kernel) (by decide +kernel)
theorem ggL_law_X10_init : GoodIn wsL_law wsX10_init := goodIn_cons1 (gp_L1) (goodIn_app (goodIn_app (goodIn_app (goodIn_app (goodIn_app (goodIn_app (goodIn_app (goodIn_app (goodIn_app (goodIn_app (goodIn_app (goodIn_app (gp_L2) (goodIn_app (gp_L3) (goodIn_app (gp_L4) (goodIn_app (gp_L5) (goodIn_app (gp_L6) (gp_L7)))))) (gp_L8)) (gp_L9)) (gp_L10)) (gp_L11)) (gp_L12)) (gp_L13)) (gp_L14)) (gp_L15)) (gp_L16)) (gp_L17)) (gp_L18))
set_option maxRecDepth 20000 in
theorem gL_law_X10_init : GoodIn wsL_law (wsX10_init) := ggL_law_X10_init
set_option maxRecDepth 20000 in
theorem gp_L19 : GoodIn wsL_law ([.code yX11_init cX11_init 1 none] : List Cond) := goodIn_r _ [145] (by decide +kernel) (by decide +kernel)
set_option maxRecDepth 20000 in
theorem gp_L20 : GoodIn wsL_law wsX11_init_r1 := goodIn_r _ [146, 10, 11, 65, 147, 148, 17, 149, 150, 121, 151, 152, 153, 154, 155, 156, 157, 158, 159, 160, 161, 162, 163, 164] (by decide +kernel) (by decide +kernel)
set_option maxRecDepth 20000 in
theorem gp_L21 : GoodIn wsL_law wsX11_init_r2 := goodIn_r _ [165, 166, 167, 168, 169, 170, 171, 172, 173, 174, 175, 176] (by decide +kernel) (by decide +kernel)
set_option maxRecDepth 20000 in
theorem gp_L22 : GoodIn wsL_law wsX110 := goodIn_r _ [1223, 1224, 1225, 1226, 1227, 1228, 1229, 1230, 1231, 1232, 1233, 1234, 1235, 1236, 1237, 1238, 1239, 1240, 1241, 1242, 1243, 1244, 1245, 1246, 1247, 1248, 1249, 1250, 1251, 1252, 1253, 1254, 1255, 1256, 1257, 1258, 1259, 1260, 1261] (by decide +kernel) (by decide +kernel)
theorem ggL_law_X11_init : GoodIn wsL_law wsX11_init := goodIn_cons1 (gp_L19) (goodIn_app (goodIn_app (gp_L20) (gp_L21)) (gp_L22))
set_option maxRecDepth 20000 in
theorem gL_law_X11_init : GoodIn wsL_law (wsX11_init) := ggL_law_X11_init
set_option maxRecDepth 20000 in
theorem gp_L23 : GoodIn wsL_law ([.code yX10_setLetters cX10_setLetters 3 (some .int)] : List Cond) := goodIn_r _ [180] (by decide +kernel) (by decide +kernel)
set_option maxRecDepth 20000 in
theorem gp_L24 : GoodIn wsL_law wsX10_setLetters_r1 := goodIn_r _ [15, 181, 77, 78, 14, 79, 55, 57, 61, 80, 81, 82, 54, 83, 84, 66, 85, 86, 87, 88, 89, 90, 91, 25] (by decide +kernel) (by decide +kernel)
set_option maxRecDepth 20000 in
theorem gp_L25 : GoodIn wsL_law wsX10_setLetters_r2 := goodIn_r _ [92, 93, 94, 95, 96, 60, 97, 98, 99, 70] (by decide +kernel) (by decide +kernel)
theorem ggL_law_X10_setLetters : GoodIn wsL_law wsX10_setLetters := goodIn_cons1 (gp_L23) (goodIn_app (goodIn_app (goodIn_app (goodIn_app (goodIn_app (goodIn_app (gp_L24) (gp_L25)) (gp_L9)) (gp_L8)) (gp_L17)) (gp_L11)) (gp_L18))
set_option maxRecDepth 20000 in
theorem gL_law_X10_setLetters : GoodIn wsL_law (wsV RL 13 RX10 yX10_setLetters wsX10_setLetters) := goodIn_app (goodIn_of _ (by decide +kernel)) ggL_law_X10_setLetters
set_option maxRecDepth 20000 in
theorem gp_L26 : GoodIn wsL_law ([.code yX11_setLetters cX11_setLetters 4 (some .int)] : List Cond) := goodIn_r _ [185] (by decide +kernel) (by decide +kernel)
set_option maxRecDepth 20000 in
theorem gp_L27 : GoodIn wsL_law ([.fieldLink RX11 7 "CommutingWordsModel" "v" "[I", .methodLink RX11 102 yX11_in, .static yX11_in, .initialized RX11, .code yX11_in cX11_in 3 (some .boolean), .methodLink RX11 106 yX11_beginsStates, .instanceMethod yX11_beginsStates, .selects RX11 yX11_beginsStates yX11_beginsStates, .code yX11_beginsStates cX11_beginsStates 3 none] : List Cond) := goodIn_r _ [147, 186, 187, 5, 188, 189, 190, 191, 192] (by decide +kernel) (by decide +kernel)
theorem ggL_law_X11_setLetters : GoodIn wsL_law wsX11_setLetters := goodIn_cons1 (gp_L26) (goodIn_app (gp_L27) (gp_L22))
set_option maxRecDepth 20000 in
theorem gL_law_X11_setLetters : GoodIn wsL_law (wsV RL 17 RX11 yX11_setLetters wsX11_setLetters) := goodIn_app (goodIn_of _ (by decide +kernel)) ggL_law_X11_setLetters
set_option maxRecDepth 20000 in
theorem gp_L28 : GoodIn wsL_law ([.code yX10_setIndependent cX10_setIndependent 5 (some .int)] : List Cond) := goodIn_r _ [196] (by decide +kernel) (by decide +kernel)
set_option maxRecDepth 20000 in
theorem gp_L29 : GoodIn wsL_law wsX10_setIndependent_r1 := goodIn_r _ [15, 197, 198, 199, 54, 200, 84, 201, 202, 203, 204, 205, 206, 207, 208, 209, 66, 210, 211, 212, 213, 214, 215, 2] (by decide +kernel) (by decide +kernel)
set_option maxRecDepth 20000 in
theorem gp_L30 : GoodIn wsL_law wsX10_setIndependent_r2 := goodIn_r _ [216] (by decide +kernel) (by decide +kernel)
theorem ggL_law_X10_setIndependent : GoodIn wsL_law wsX10_setIndependent := goodIn_cons1 (gp_L28) (goodIn_app (goodIn_app (goodIn_app (goodIn_app (gp_L29) (gp_L30)) (gp_L9)) (gp_L8)) (gp_L17))
set_option maxRecDepth 20000 in
theorem gL_law_X10_setIndependent : GoodIn wsL_law (wsV RL 18 RX10 yX10_setIndependent wsX10_setIndependent) := goodIn_app (goodIn_of _ (by decide +kernel)) ggL_law_X10_setIndependent
set_option maxRecDepth 20000 in
theorem gp_L31 : GoodIn wsL_law ([.code yX11_setIndependent cX11_setIndependent 5 (some .int)] : List Cond) := goodIn_r _ [220] (by decide +kernel) (by decide +kernel)
set_option maxRecDepth 20000 in
theorem gp_L32 : GoodIn wsL_law ([.methodLink RX11 110 yX11_isLetter, .instanceMethod yX11_isLetter, .selects RX11 yX11_isLetter yX11_isLetter, .initialized RX11, .code yX11_isLetter cX11_isLetter 2 (some .boolean), .fieldLink RX11 7 "CommutingWordsModel" "v" "[I", .methodLink RX11 102 yX11_in, .static yX11_in, .code yX11_in cX11_in 3 (some .boolean), .methodLink RX11 114 yX11_areFree, .instanceMethod yX11_areFree, .selects RX11 yX11_areFree yX11_areFree, .code yX11_areFree cX11_areFree 3 (some .boolean), .methodLink RX11 118 yX11_frees, .instanceMethod yX11_frees, .selects RX11 yX11_frees yX11_frees, .code yX11_frees cX11_frees 5 none] : List Cond) := goodIn_r _ [221, 222, 223, 5, 224, 147, 186, 187, 188, 225, 226, 227, 228, 229, 230, 231, 232] (by decide +kernel) (by decide +kernel)
theorem ggL_law_X11_setIndependent : GoodIn wsL_law wsX11_setIndependent := goodIn_cons1 (gp_L31) (goodIn_app (gp_L32) (gp_L22))
set_option maxRecDepth 20000 in
theorem gL_law_X11_setIndependent : GoodIn wsL_law (wsV RL 22 RX11 yX11_setIndependent wsX11_setIndependent) := goodIn_app (goodIn_of _ (by decide +kernel)) ggL_law_X11_setIndependent
set_option maxRecDepth 20000 in
theorem gp_L33 : GoodIn wsL_law ([.code yX10_independent cX10_independent 2 (some .int)] : List Cond) := goodIn_r _ [236] (by decide +kernel) (by decide +kernel)
set_option maxRecDepth 20000 in
theorem gp_L34 : GoodIn wsL_law ([.fieldLink RX10 12 "CommutingWords" "now" "LCommutingWords$Setting;", .methodLink RX10 90 yX0_has, .instanceMethod yX0_has, .selects RX0 yX0_has yX0_has, .initialized RX0, .code yX0_has cX0_has 2 (some .boolean), .fieldLink RX0 15 "CommutingWords$Alphabet" "count" "I", .methodLink RX10 106 yX0_freeOf, .instanceMethod yX0_freeOf, .selects RX0 yX0_freeOf yX0_freeOf, .code yX0_freeOf cX0_freeOf 2 (some .int), .fieldLink RX0 9 "CommutingWords$Alphabet" "free" "[I"] : List Cond) := goodIn_r _ [15, 197, 198, 199, 54, 200, 84, 237, 207, 208, 209, 66] (by decide +kernel) (by decide +kernel)
theorem ggL_law_X10_independent : GoodIn wsL_law wsX10_independent := goodIn_cons1 (gp_L33) (goodIn_app (goodIn_app (goodIn_app (gp_L34) (gp_L9)) (gp_L8)) (gp_L17))
set_option maxRecDepth 20000 in
theorem gL_law_X10_independent : GoodIn wsL_law (wsV RL 23 RX10 yX10_independent wsX10_independent) := goodIn_app (goodIn_of _ (by decide +kernel)) ggL_law_X10_independent
set_option maxRecDepth 20000 in
theorem gp_L35 : GoodIn wsL_law ([.code yX11_independent cX11_independent 2 (some .int)] : List Cond) := goodIn_r _ [241] (by decide +kernel) (by decide +kernel)
set_option maxRecDepth 20000 in
theorem gp_L36 : GoodIn wsL_law ([.fieldLink RX11 7 "CommutingWordsModel" "v" "[I", .methodLink RX11 110 yX11_isLetter, .instanceMethod yX11_isLetter, .selects RX11 yX11_isLetter yX11_isLetter, .initialized RX11, .code yX11_isLetter cX11_isLetter 2 (some .boolean), .methodLink RX11 102 yX11_in, .static yX11_in, .code yX11_in cX11_in 3 (some .boolean)] : List Cond) := goodIn_r _ [147, 221, 222, 223, 5, 224, 186, 187, 188] (by decide +kernel) (by decide +kernel)
theorem ggL_law_X11_independent : GoodIn wsL_law wsX11_independent := goodIn_cons1 (gp_L35) (goodIn_app (gp_L36) (gp_L22))
set_option maxRecDepth 20000 in
theorem gL_law_X11_independent : GoodIn wsL_law (wsV RL 26 RX11 yX11_independent wsX11_independent) := goodIn_app (goodIn_of _ (by decide +kernel)) ggL_law_X11_independent
set_option maxRecDepth 20000 in
theorem gp_L37 : GoodIn wsL_law ([.code yX10_different cX10_different 2 (some .long)] : List Cond) := goodIn_r _ [245] (by decide +kernel) (by decide +kernel)
set_option maxRecDepth 20000 in
theorem gp_L38 : GoodIn wsL_law wsX10_different_r1 := goodIn_r _ [246, 15, 247, 248, 249, 54, 250, 121, 251, 252, 253, 254, 84, 255, 256, 257, 258, 206, 207, 208, 209, 66, 259, 260] (by decide +kernel) (by decide +kernel)
set_option maxRecDepth 20000 in
theorem gp_L39 : GoodIn wsL_law wsX10_different_r2 := goodIn_r _ [261, 262, 263, 264, 265] (by decide +kernel) (by decide +kernel)
theorem ggL_law_X10_different : GoodIn wsL_law wsX10_different := goodIn_cons1 (gp_L37) (goodIn_app (goodIn_app (goodIn_app (goodIn_app (gp_L38) (gp_L39)) (gp_L9)) (gp_L8)) (gp_L17))
set_option maxRecDepth 20000 in
theorem gL_law_X10_different : GoodIn wsL_law (wsV RL 27 RX10 yX10_different wsX10_different) := goodIn_app (goodIn_of _ (by decide +kernel)) ggL_law_X10_different
set_option maxRecDepth 20000 in
theorem gp_L40 : GoodIn wsL_law ([.code yX11_different cX11_different 5 (some .long)] : List Cond) := goodIn_r _ [269] (by decide +kernel) (by decide +kernel)
set_option maxRecDepth 20000 in
theorem gp_L41 : GoodIn wsL_law ([.constantLong RX11 122 (-2), .fieldLink RX11 23 "CommutingWordsModel" "many" "[J", .fieldLink RX11 7 "CommutingWordsModel" "v" "[I", .methodLink RX11 102 yX11_in, .static yX11_in, .initialized RX11, .code yX11_in cX11_in 3 (some .boolean), .methodLink RX11 124 yX11_size, .static yX11_size, .code yX11_size cX11_size 3 (some .int), .methodLink RX11 128 yX11_areAllFree, .instanceMethod yX11_areAllFree, .selects RX11 yX11_areAllFree yX11_areAllFree, .code yX11_areAllFree cX11_areAllFree 5 (some .boolean)] : List Cond) := goodIn_r _ [270, 151, 147, 186, 187, 5, 188, 271, 272, 273, 274, 275, 276, 277] (by decide +kernel) (by decide +kernel)
theorem ggL_law_X11_different : GoodIn wsL_law wsX11_different := goodIn_cons1 (gp_L40) (goodIn_app (gp_L41) (gp_L22))
set_option maxRecDepth 20000 in
theorem gL_law_X11_different : GoodIn wsL_law (wsV RL 31 RX11 yX11_different wsX11_different) := goodIn_app (goodIn_of _ (by decide +kernel)) ggL_law_X11_different
set_option maxRecDepth 20000 in
theorem gp_L42 : GoodIn wsL_law ([.code yX10_add cX10_add 4 (some .int)] : List Cond) := goodIn_r _ [281] (by decide +kernel) (by decide +kernel)
set_option maxRecDepth 20000 in
theorem gp_L43 : GoodIn wsL_law ([.fieldLink RX10 12 "CommutingWords" "now" "LCommutingWords$Setting;", .methodLink RX10 116 yX10_isWord, .static yX10_isWord, .initialized RX10, .code yX10_isWord cX10_isWord 1 (some .boolean), .methodLink RX10 90 yX0_has, .instanceMethod yX0_has, .selects RX0 yX0_has yX0_has, .initialized RX0, .code yX0_has cX0_has 2 (some .boolean), .fieldLink RX0 15 "CommutingWords$Alphabet" "count" "I", .methodLink RX10 126 yX9_push, .instanceMethod yX9_push, .selects RX9 yX9_push yX9_push, .initialized RX9, .code yX9_push cX9_push 2 none, .fieldLink RX9 15 "CommutingWords$Word" "size" "I", .fieldLink RX9 9 "CommutingWords$Word" "letters" "[I"] : List Cond) := goodIn_r _ [15, 282, 283, 2, 284, 197, 198, 199, 54, 200, 84, 285, 286, 287, 25, 288, 93, 75] (by decide +kernel) (by decide +kernel)
theorem ggL_law_X10_add : GoodIn wsL_law wsX10_add := goodIn_cons1 (gp_L42) (goodIn_app (goodIn_app (goodIn_app (goodIn_app (gp_L43) (gp_L9)) (gp_L8)) (gp_L11)) (gp_L17))
set_option maxRecDepth 20000 in
theorem gL_law_X10_add : GoodIn wsL_law (wsV RL 32 RX10 yX10_add wsX10_add) := goodIn_app (goodIn_of _ (by decide +kernel)) ggL_law_X10_add
set_option maxRecDepth 20000 in
theorem gp_L44 : GoodIn wsL_law ([.code yX11_add cX11_add 3 (some .int)] : List Cond) := goodIn_r _ [292] (by decide +kernel) (by decide +kernel)
set_option maxRecDepth 20000 in
theorem gp_L45 : GoodIn wsL_law ([.fieldLink RX11 7 "CommutingWordsModel" "v" "[I", .methodLink RX11 156 yX11_isWord, .static yX11_isWord, .initialized RX11, .code yX11_isWord cX11_isWord 1 (some .boolean), .methodLink RX11 102 yX11_in, .static yX11_in, .code yX11_in cX11_in 3 (some .boolean), .methodLink RX11 110 yX11_isLetter, .instanceMethod yX11_isLetter, .selects RX11 yX11_isLetter yX11_isLetter, .code yX11_isLetter cX11_isLetter 2 (some .boolean)] : List Cond) := goodIn_r _ [147, 293, 294, 5, 295, 186, 187, 188, 221, 222, 223, 224] (by decide +kernel) (by decide +kernel)
theorem ggL_law_X11_add : GoodIn wsL_law wsX11_add := goodIn_cons1 (gp_L44) (goodIn_app (gp_L45) (gp_L22))
set_option maxRecDepth 20000 in
theorem gL_law_X11_add : GoodIn wsL_law (wsV RL 36 RX11 yX11_add wsX11_add) := goodIn_app (goodIn_of _ (by decide +kernel)) ggL_law_X11_add
set_option maxRecDepth 20000 in
theorem gp_L46 : GoodIn wsL_law ([.code yX10_clear cX10_clear 3 (some .int)] : List Cond) := goodIn_r _ [299] (by decide +kernel) (by decide +kernel)
set_option maxRecDepth 20000 in
theorem gp_L47 : GoodIn wsL_law ([.fieldLink RX10 12 "CommutingWords" "now" "LCommutingWords$Setting;", .methodLink RX10 116 yX10_isWord, .static yX10_isWord, .initialized RX10, .code yX10_isWord cX10_isWord 1 (some .boolean), .methodLink RX10 129 yX9_empty, .instanceMethod yX9_empty, .selects RX9 yX9_empty yX9_empty, .initialized RX9, .code yX9_empty cX9_empty 1 none, .fieldLink RX9 15 "CommutingWords$Word" "size" "I"] : List Cond) := goodIn_r _ [15, 282, 283, 2, 284, 300, 90, 91, 25, 92, 93] (by decide +kernel) (by decide +kernel)
theorem ggL_law_X10_clear : GoodIn wsL_law wsX10_clear := goodIn_cons1 (gp_L46) (goodIn_app (goodIn_app (goodIn_app (gp_L47) (gp_L9)) (gp_L8)) (gp_L11))
set_option maxRecDepth 20000 in
theorem gL_law_X10_clear : GoodIn wsL_law (wsV RL 37 RX10 yX10_clear wsX10_clear) := goodIn_app (goodIn_of _ (by decide +kernel)) ggL_law_X10_clear
set_option maxRecDepth 20000 in
theorem gp_L48 : GoodIn wsL_law ([.code yX11_clear cX11_clear 3 (some .int)] : List Cond) := goodIn_r _ [304] (by decide +kernel) (by decide +kernel)
set_option maxRecDepth 20000 in
theorem gp_L49 : GoodIn wsL_law ([.fieldLink RX11 7 "CommutingWordsModel" "v" "[I", .methodLink RX11 156 yX11_isWord, .static yX11_isWord, .initialized RX11, .code yX11_isWord cX11_isWord 1 (some .boolean), .methodLink RX11 102 yX11_in, .static yX11_in, .code yX11_in cX11_in 3 (some .boolean)] : List Cond) := goodIn_r _ [147, 293, 294, 5, 295, 186, 187, 188] (by decide +kernel) (by decide +kernel)
theorem ggL_law_X11_clear : GoodIn wsL_law wsX11_clear := goodIn_cons1 (gp_L48) (goodIn_app (gp_L49) (gp_L22))
set_option maxRecDepth 20000 in
theorem gL_law_X11_clear : GoodIn wsL_law (wsV RL 40 RX11 yX11_clear wsX11_clear) := goodIn_app (goodIn_of _ (by decide +kernel)) ggL_law_X11_clear
set_option maxRecDepth 20000 in
theorem gp_L50 : GoodIn wsL_law ([.code yX10_length cX10_length 2 (some .int)] : List Cond) := goodIn_r _ [308] (by decide +kernel) (by decide +kernel)
set_option maxRecDepth 20000 in
theorem gp_L51 : GoodIn wsL_law ([.fieldLink RX10 12 "CommutingWords" "now" "LCommutingWords$Setting;", .methodLink RX10 116 yX10_isWord, .static yX10_isWord, .initialized RX10, .code yX10_isWord cX10_isWord 1 (some .boolean)] : List Cond) := goodIn_r _ [15, 282, 283, 2, 284] (by decide +kernel) (by decide +kernel)
theorem ggL_law_X10_length : GoodIn wsL_law wsX10_length := goodIn_cons1 (gp_L50) (goodIn_app (goodIn_app (goodIn_app (gp_L51) (gp_L9)) (gp_L8)) (gp_L11))
set_option maxRecDepth 20000 in
theorem gL_law_X10_length : GoodIn wsL_law (wsV RL 41 RX10 yX10_length wsX10_length) := goodIn_app (goodIn_of _ (by decide +kernel)) ggL_law_X10_length
set_option maxRecDepth 20000 in
theorem gp_L52 : GoodIn wsL_law ([.code yX11_length cX11_length 2 (some .int)] : List Cond) := goodIn_r _ [312] (by decide +kernel) (by decide +kernel)
theorem ggL_law_X11_length : GoodIn wsL_law wsX11_length := goodIn_cons1 (gp_L52) (goodIn_app (gp_L49) (gp_L22))
set_option maxRecDepth 20000 in
theorem gL_law_X11_length : GoodIn wsL_law (wsV RL 44 RX11 yX11_length wsX11_length) := goodIn_app (goodIn_of _ (by decide +kernel)) ggL_law_X11_length
set_option maxRecDepth 20000 in
theorem gp_L53 : GoodIn wsL_law ([.code yX10_letter cX10_letter 3 (some .int)] : List Cond) := goodIn_r _ [316] (by decide +kernel) (by decide +kernel)
set_option maxRecDepth 20000 in
theorem gp_L54 : GoodIn wsL_law ([.fieldLink RX10 12 "CommutingWords" "now" "LCommutingWords$Setting;", .methodLink RX10 116 yX10_isWord, .static yX10_isWord, .initialized RX10, .code yX10_isWord cX10_isWord 1 (some .boolean), .methodLink RX10 132 yX10_letterOrNone, .static yX10_letterOrNone, .code yX10_letterOrNone cX10_letterOrNone 3 (some .int), .methodLink RX10 150 yX9_at, .instanceMethod yX9_at, .selects RX9 yX9_at yX9_at, .initialized RX9, .code yX9_at cX9_at 2 (some .int), .fieldLink RX9 15 "CommutingWords$Word" "size" "I", .fieldLink RX9 9 "CommutingWords$Word" "letters" "[I"] : List Cond) := goodIn_r _ [15, 282, 283, 2, 284, 317, 318, 319, 320, 321, 322, 25, 323, 93, 75] (by decide +kernel) (by decide +kernel)
theorem ggL_law_X10_letter : GoodIn wsL_law wsX10_letter := goodIn_cons1 (gp_L53) (goodIn_app (goodIn_app (goodIn_app (gp_L54) (gp_L9)) (gp_L8)) (gp_L11))
set_option maxRecDepth 20000 in
theorem gL_law_X10_letter : GoodIn wsL_law (wsV RL 45 RX10 yX10_letter wsX10_letter) := goodIn_app (goodIn_of _ (by decide +kernel)) ggL_law_X10_letter
set_option maxRecDepth 20000 in
theorem gp_L55 : GoodIn wsL_law ([.code yX11_letter cX11_letter 3 (some .int)] : List Cond) := goodIn_r _ [327] (by decide +kernel) (by decide +kernel)
theorem ggL_law_X11_letter : GoodIn wsL_law wsX11_letter := goodIn_cons1 (gp_L55) (goodIn_app (gp_L49) (gp_L22))
set_option maxRecDepth 20000 in
theorem gL_law_X11_letter : GoodIn wsL_law (wsV RL 48 RX11 yX11_letter wsX11_letter) := goodIn_app (goodIn_of _ (by decide +kernel)) ggL_law_X11_letter
set_option maxRecDepth 20000 in
theorem gp_L56 : GoodIn wsL_law ([.code yX10_normal cX10_normal 3 (some .int)] : List Cond) := goodIn_r _ [331] (by decide +kernel) (by decide +kernel)
set_option maxRecDepth 20000 in
theorem gp_L57 : GoodIn wsL_law wsX10_normal_r1 := goodIn_r _ [30, 26, 282, 283, 2, 284, 332, 333, 334, 335, 15, 336, 337, 338, 29, 339, 340, 341, 342, 110, 343, 86, 87, 88] (by decide +kernel) (by decide +kernel)
set_option maxRecDepth 20000 in
theorem gp_L58 : GoodIn wsL_law wsX10_normal_r2 := goodIn_r _ [344, 321, 322, 25, 323, 93, 75, 345, 346, 347, 348, 107, 108, 349, 350, 351, 352, 109, 353, 198, 199, 54, 200, 84] (by decide +kernel) (by decide +kernel)
set_option maxRecDepth 20000 in
theorem gp_L59 : GoodIn wsL_law wsX10_normal_r3 := goodIn_r _ [354, 207, 208, 209, 66, 355, 356, 357, 358, 359, 90, 91, 92, 360, 361, 362, 363, 364, 365, 366, 367, 368, 260, 261] (by decide +kernel) (by decide +kernel)
set_option maxRecDepth 20000 in
theorem gp_L60 : GoodIn wsL_law wsX10_normal_r4 := goodIn_r _ [262, 263, 264, 265, 369, 370, 371, 372, 373, 374, 375, 376, 377, 378, 379, 380, 381, 286, 287, 288, 317, 318, 319, 320] (by decide +kernel) (by decide +kernel)
theorem ggL_law_X10_normal : GoodIn wsL_law wsX10_normal := goodIn_cons1 (gp_L56) (goodIn_app (goodIn_app (goodIn_app (goodIn_app (goodIn_app (goodIn_app (gp_L57) (goodIn_app (gp_L58) (goodIn_app (gp_L59) (gp_L60)))) (gp_L9)) (gp_L8)) (gp_L17)) (gp_L12)) (gp_L11))
set_option maxRecDepth 20000 in
theorem gL_law_X10_normal : GoodIn wsL_law (wsV RL 49 RX10 yX10_normal wsX10_normal) := goodIn_app (goodIn_of _ (by decide +kernel)) ggL_law_X10_normal
set_option maxRecDepth 20000 in
theorem gp_L61 : GoodIn wsL_law ([.code yX11_normal cX11_normal 3 (some .int)] : List Cond) := goodIn_r _ [385] (by decide +kernel) (by decide +kernel)
set_option maxRecDepth 20000 in
theorem gp_L62 : GoodIn wsL_law wsX11_normal_r1 := goodIn_r _ [152, 386, 387, 154, 293, 294, 5, 295, 186, 187, 188, 388, 389, 390, 391, 147, 392, 393, 394, 395, 155, 396, 397, 398] (by decide +kernel) (by decide +kernel)
set_option maxRecDepth 20000 in
theorem gp_L63 : GoodIn wsL_law wsX11_normal_r2 := goodIn_r _ [399, 400, 401, 402, 403, 404, 405, 406, 407, 225, 226, 227, 228] (by decide +kernel) (by decide +kernel)
theorem ggL_law_X11_normal : GoodIn wsL_law wsX11_normal := goodIn_cons1 (gp_L61) (goodIn_app (goodIn_app (gp_L62) (gp_L63)) (gp_L22))
set_option maxRecDepth 20000 in
theorem gL_law_X11_normal : GoodIn wsL_law (wsV RL 52 RX11 yX11_normal wsX11_normal) := goodIn_app (goodIn_of _ (by decide +kernel)) ggL_law_X11_normal
