set_option maxRecDepth 20000 in
theorem gp_L232 : GoodIn wsL_law ([.code yX11_starConnected cX11_starConnected 1 (some .int)] : List Cond) := goodIn_r _ [1006] (by decide +kernel) (by decide +kernel)
set_option maxRecDepth 20000 in
theorem gp_L233 : GoodIn wsL_law wsX11_starConnected_r1 := goodIn_r _ [795, 796, 797, 5, 798, 766, 150, 799, 800, 801, 802, 221, 222, 223, 224, 147, 186, 187, 188, 1007, 1008, 1009, 1010, 925] (by decide +kernel) (by decide +kernel)
set_option maxRecDepth 20000 in
theorem gp_L234 : GoodIn wsL_law wsX11_starConnected_r2 := goodIn_r _ [164, 174, 175, 921, 922, 923, 924, 926, 927, 928, 929, 930, 165, 931, 932, 933, 934, 935, 936, 937, 938, 1011, 1012, 1013] (by decide +kernel) (by decide +kernel)
set_option maxRecDepth 20000 in
theorem gp_L235 : GoodIn wsL_law wsX11_starConnected_r3 := goodIn_r _ [1014, 598, 599, 600, 601, 1015, 1016, 1017, 1018, 1019, 1020] (by decide +kernel) (by decide +kernel)
theorem ggL_law_X11_starConnected : GoodIn wsL_law wsX11_starConnected := goodIn_cons1 (gp_L232) (goodIn_app (goodIn_app (gp_L233) (goodIn_app (gp_L234) (gp_L235))) (gp_L22))
set_option maxRecDepth 20000 in
theorem gL_law_X11_starConnected : GoodIn wsL_law (wsV RL 139 RX11 yX11_starConnected wsX11_starConnected) := goodIn_app (goodIn_of _ (by decide +kernel)) ggL_law_X11_starConnected
set_option maxRecDepth 20000 in
theorem gp_L236 : GoodIn wsL_law ([.code yX10_shortest cX10_shortest 1 (some .int)] : List Cond) := goodIn_r _ [1024] (by decide +kernel) (by decide +kernel)
set_option maxRecDepth 20000 in
theorem gp_L237 : GoodIn wsL_law wsX10_shortest_r1 := goodIn_r _ [43, 22, 15, 807, 808, 809, 42, 810, 811, 812, 813, 129, 126, 127, 128, 814, 784, 785, 21, 786, 761, 787, 788, 789] (by decide +kernel) (by decide +kernel)
set_option maxRecDepth 20000 in
theorem gp_L238 : GoodIn wsL_law wsX10_shortest_r2 := goodIn_r _ [790, 103, 815, 816, 817, 818, 131, 132, 133, 819, 820, 821, 822, 823, 824, 825, 826, 827, 828, 829, 830, 831, 832, 833] (by decide +kernel) (by decide +kernel)
set_option maxRecDepth 20000 in
theorem gp_L239 : GoodIn wsL_law wsX10_shortest_r3 := goodIn_r _ [834, 835, 836, 837, 838, 839, 840, 841, 842, 843, 844, 845, 846, 847, 848, 849, 850, 851, 852, 853, 854, 855, 856, 464] (by decide +kernel) (by decide +kernel)
set_option maxRecDepth 20000 in
theorem gp_L240 : GoodIn wsL_law wsX10_shortest_r4 := goodIn_r _ [351, 465, 857, 858, 859, 860, 861, 862, 863, 864, 1025, 870, 871, 872] (by decide +kernel) (by decide +kernel)
theorem ggL_law_X10_shortest : GoodIn wsL_law wsX10_shortest := goodIn_cons1 (gp_L236) (goodIn_app (goodIn_app (goodIn_app (goodIn_app (goodIn_app (goodIn_app (gp_L237) (goodIn_app (gp_L238) (goodIn_app (gp_L239) (gp_L240)))) (gp_L9)) (gp_L8)) (gp_L17)) (gp_L15)) (gp_L10))
set_option maxRecDepth 20000 in
theorem gL_law_X10_shortest : GoodIn wsL_law (wsV RL 140 RX10 yX10_shortest wsX10_shortest) := goodIn_app (goodIn_of _ (by decide +kernel)) ggL_law_X10_shortest
set_option maxRecDepth 20000 in
theorem gp_L241 : GoodIn wsL_law ([.code yX11_shortest cX11_shortest 2 (some .int)] : List Cond) := goodIn_r _ [1029] (by decide +kernel) (by decide +kernel)
set_option maxRecDepth 20000 in
theorem gp_L242 : GoodIn wsL_law wsX11_shortest_r1 := goodIn_r _ [175, 795, 796, 797, 5, 798, 766, 150, 799, 800, 801, 802, 221, 222, 223, 224, 147, 186, 187, 188, 1007, 1008, 1009, 1010] (by decide +kernel) (by decide +kernel)
set_option maxRecDepth 20000 in
theorem gp_L243 : GoodIn wsL_law wsX11_shortest_r2 := goodIn_r _ [925, 164, 174, 921, 922, 923, 924, 926, 927, 928, 929, 930, 165, 931, 932, 933, 934, 935, 936, 937, 938, 1011, 1012, 1013] (by decide +kernel) (by decide +kernel)
set_option maxRecDepth 20000 in
theorem gp_L244 : GoodIn wsL_law wsX11_shortest_r3 := goodIn_r _ [1014, 598, 599, 600, 601, 1015, 1016, 1017, 1018, 1019, 1020] (by decide +kernel) (by decide +kernel)
theorem ggL_law_X11_shortest : GoodIn wsL_law wsX11_shortest := goodIn_cons1 (gp_L241) (goodIn_app (goodIn_app (gp_L242) (goodIn_app (gp_L243) (gp_L244))) (gp_L22))
set_option maxRecDepth 20000 in
theorem gL_law_X11_shortest : GoodIn wsL_law (wsV RL 143 RX11 yX11_shortest wsX11_shortest) := goodIn_app (goodIn_of _ (by decide +kernel)) ggL_law_X11_shortest
set_option maxRecDepth 20000 in
theorem gp_L245 : GoodIn wsL_law ([.code yX10_setStates cX10_setStates 3 (some .int)] : List Cond) := goodIn_r _ [1033] (by decide +kernel) (by decide +kernel)
set_option maxRecDepth 20000 in
theorem gp_L246 : GoodIn wsL_law ([.fieldLink RX10 12 "CommutingWords" "now" "LCommutingWords$Setting;", .methodLink RX10 240 yX5_begin, .instanceMethod yX5_begin, .selects RX5 yX5_begin yX5_begin, .initialized RX5, .code yX5_begin cX5_begin 4 none, .fieldLink RX5 18 "CommutingWords$Recogniser" "states" "I", .fieldLink RX5 22 "CommutingWords$Recogniser" "accepting" "I", .fieldLink RX5 9 "CommutingWords$Recogniser" "arrows" "[I"] : List Cond) := goodIn_r _ [15, 1034, 95, 96, 60, 97, 98, 99, 70] (by decide +kernel) (by decide +kernel)
theorem ggL_law_X10_setStates : GoodIn wsL_law wsX10_setStates := goodIn_cons1 (gp_L245) (goodIn_app (goodIn_app (goodIn_app (gp_L246) (gp_L9)) (gp_L8)) (gp_L18))
set_option maxRecDepth 20000 in
theorem gL_law_X10_setStates : GoodIn wsL_law (wsV RL 144 RX10 yX10_setStates wsX10_setStates) := goodIn_app (goodIn_of _ (by decide +kernel)) ggL_law_X10_setStates
set_option maxRecDepth 20000 in
theorem gp_L247 : GoodIn wsL_law ([.code yX11_setStates cX11_setStates 3 (some .int)] : List Cond) := goodIn_r _ [1038] (by decide +kernel) (by decide +kernel)
theorem ggL_law_X11_setStates : GoodIn wsL_law wsX11_setStates := goodIn_cons1 (gp_L247) (goodIn_app (gp_L27) (gp_L22))
set_option maxRecDepth 20000 in
theorem gL_law_X11_setStates : GoodIn wsL_law (wsV RL 147 RX11 yX11_setStates wsX11_setStates) := goodIn_app (goodIn_of _ (by decide +kernel)) ggL_law_X11_setStates
set_option maxRecDepth 20000 in
theorem gp_L248 : GoodIn wsL_law ([.code yX10_setArrow cX10_setArrow 6 (some .int)] : List Cond) := goodIn_r _ [1042] (by decide +kernel) (by decide +kernel)
set_option maxRecDepth 20000 in
theorem gp_L249 : GoodIn wsL_law ([.fieldLink RX10 12 "CommutingWords" "now" "LCommutingWords$Setting;", .methodLink RX10 241 yX5_has, .instanceMethod yX5_has, .selects RX5 yX5_has yX5_has, .initialized RX5, .code yX5_has cX5_has 2 (some .boolean), .fieldLink RX5 18 "CommutingWords$Recogniser" "states" "I", .methodLink RX10 90 yX0_has, .instanceMethod yX0_has, .selects RX0 yX0_has yX0_has, .initialized RX0, .code yX0_has cX0_has 2 (some .boolean), .fieldLink RX0 15 "CommutingWords$Alphabet" "count" "I", .methodLink RX10 242 yX5_step, .instanceMethod yX5_step, .selects RX5 yX5_step yX5_step, .code yX5_step cX5_step 4 (some .int), .fieldLink RX5 9 "CommutingWords$Recogniser" "arrows" "[I", .methodLink RX5 25 yX5_has, .methodLink RX10 246 yX5_lead, .instanceMethod yX5_lead, .selects RX5 yX5_lead yX5_lead, .code yX5_lead cX5_lead 4 none] : List Cond) := goodIn_r _ [15, 1043, 498, 499, 60, 500, 98, 197, 198, 199, 54, 200, 84, 1044, 494, 495, 496, 70, 497, 1045, 1046, 1047, 1048] (by decide +kernel) (by decide +kernel)
theorem ggL_law_X10_setArrow : GoodIn wsL_law wsX10_setArrow := goodIn_cons1 (gp_L248) (goodIn_app (goodIn_app (goodIn_app (goodIn_app (gp_L249) (gp_L9)) (gp_L8)) (gp_L18)) (gp_L17))
set_option maxRecDepth 20000 in
theorem gL_law_X10_setArrow : GoodIn wsL_law (wsV RL 148 RX10 yX10_setArrow wsX10_setArrow) := goodIn_app (goodIn_of _ (by decide +kernel)) ggL_law_X10_setArrow
set_option maxRecDepth 20000 in
theorem gp_L250 : GoodIn wsL_law ([.code yX11_setArrow cX11_setArrow 5 (some .int)] : List Cond) := goodIn_r _ [1052] (by decide +kernel) (by decide +kernel)
set_option maxRecDepth 20000 in
theorem gp_L251 : GoodIn wsL_law ([.fieldLink RX11 7 "CommutingWordsModel" "v" "[I", .methodLink RX11 301 yX11_isState, .instanceMethod yX11_isState, .selects RX11 yX11_isState yX11_isState, .initialized RX11, .code yX11_isState cX11_isState 2 (some .boolean), .methodLink RX11 102 yX11_in, .static yX11_in, .code yX11_in cX11_in 3 (some .boolean), .methodLink RX11 110 yX11_isLetter, .instanceMethod yX11_isLetter, .selects RX11 yX11_isLetter yX11_isLetter, .code yX11_isLetter cX11_isLetter 2 (some .boolean)] : List Cond) := goodIn_r _ [147, 1053, 1054, 1055, 5, 1056, 186, 187, 188, 221, 222, 223, 224] (by decide +kernel) (by decide +kernel)
theorem ggL_law_X11_setArrow : GoodIn wsL_law wsX11_setArrow := goodIn_cons1 (gp_L250) (goodIn_app (gp_L251) (gp_L22))
set_option maxRecDepth 20000 in
theorem gL_law_X11_setArrow : GoodIn wsL_law (wsV RL 151 RX11 yX11_setArrow wsX11_setArrow) := goodIn_app (goodIn_of _ (by decide +kernel)) ggL_law_X11_setArrow
set_option maxRecDepth 20000 in
theorem gp_L252 : GoodIn wsL_law ([.code yX10_setAccepting cX10_setAccepting 4 (some .int)] : List Cond) := goodIn_r _ [1060] (by decide +kernel) (by decide +kernel)
set_option maxRecDepth 20000 in
theorem gp_L253 : GoodIn wsL_law ([.fieldLink RX10 12 "CommutingWords" "now" "LCommutingWords$Setting;", .methodLink RX10 241 yX5_has, .instanceMethod yX5_has, .selects RX5 yX5_has yX5_has, .initialized RX5, .code yX5_has cX5_has 2 (some .boolean), .fieldLink RX5 18 "CommutingWords$Recogniser" "states" "I", .methodLink RX10 250 yX5_accepts, .instanceMethod yX5_accepts, .selects RX5 yX5_accepts yX5_accepts, .code yX5_accepts cX5_accepts 2 (some .boolean), .fieldLink RX5 22 "CommutingWords$Recogniser" "accepting" "I", .methodLink RX5 25 yX5_has, .methodLink RX10 253 yX5_mark, .instanceMethod yX5_mark, .selects RX5 yX5_mark yX5_mark, .code yX5_mark cX5_mark 3 none, .methodLink RX10 102 yX10_toNumber, .static yX10_toNumber, .initialized RX10, .code yX10_toNumber cX10_toNumber 1 (some .int)] : List Cond) := goodIn_r _ [15, 1043, 498, 499, 60, 500, 98, 1061, 1062, 1063, 1064, 99, 497, 1065, 1066, 1067, 1068, 214, 215, 2, 216] (by decide +kernel) (by decide +kernel)
theorem ggL_law_X10_setAccepting : GoodIn wsL_law wsX10_setAccepting := goodIn_cons1 (gp_L252) (goodIn_app (goodIn_app (goodIn_app (gp_L253) (gp_L9)) (gp_L8)) (gp_L18))
set_option maxRecDepth 20000 in
theorem gL_law_X10_setAccepting : GoodIn wsL_law (wsV RL 152 RX10 yX10_setAccepting wsX10_setAccepting) := goodIn_app (goodIn_of _ (by decide +kernel)) ggL_law_X10_setAccepting
set_option maxRecDepth 20000 in
theorem gp_L254 : GoodIn wsL_law ([.code yX11_setAccepting cX11_setAccepting 4 (some .int)] : List Cond) := goodIn_r _ [1072] (by decide +kernel) (by decide +kernel)
set_option maxRecDepth 20000 in
theorem gp_L255 : GoodIn wsL_law ([.fieldLink RX11 7 "CommutingWordsModel" "v" "[I", .methodLink RX11 301 yX11_isState, .instanceMethod yX11_isState, .selects RX11 yX11_isState yX11_isState, .initialized RX11, .code yX11_isState cX11_isState 2 (some .boolean), .methodLink RX11 102 yX11_in, .static yX11_in, .code yX11_in cX11_in 3 (some .boolean)] : List Cond) := goodIn_r _ [147, 1053, 1054, 1055, 5, 1056, 186, 187, 188] (by decide +kernel) (by decide +kernel)
theorem ggL_law_X11_setAccepting : GoodIn wsL_law wsX11_setAccepting := goodIn_cons1 (gp_L254) (goodIn_app (gp_L255) (gp_L22))
set_option maxRecDepth 20000 in
theorem gL_law_X11_setAccepting : GoodIn wsL_law (wsV RL 156 RX11 yX11_setAccepting wsX11_setAccepting) := goodIn_app (goodIn_of _ (by decide +kernel)) ggL_law_X11_setAccepting
set_option maxRecDepth 20000 in
theorem gp_L256 : GoodIn wsL_law ([.code yX10_acceptedAlike cX10_acceptedAlike 2 (some .long)] : List Cond) := goodIn_r _ [1076] (by decide +kernel) (by decide +kernel)
set_option maxRecDepth 20000 in
theorem gp_L257 : GoodIn wsL_law wsX10_acceptedAlike_r1 := goodIn_r _ [452, 15, 39, 282, 283, 2, 284, 453, 454, 455, 456, 35, 457, 458, 459, 34, 460, 115, 461, 462, 117, 463, 464, 351] (by decide +kernel) (by decide +kernel)
set_option maxRecDepth 20000 in
theorem gp_L258 : GoodIn wsL_law wsX10_acceptedAlike_r2 := goodIn_r _ [465, 116, 466, 337, 338, 29, 339, 340, 341, 342, 110, 343, 86, 87, 88, 344, 321, 322, 25, 323, 93, 75, 345, 346] (by decide +kernel) (by decide +kernel)
set_option maxRecDepth 20000 in
theorem gp_L259 : GoodIn wsL_law wsX10_acceptedAlike_r3 := goodIn_r _ [347, 348, 107, 108, 349, 350, 352, 109, 353, 198, 199, 54, 200, 84, 354, 207, 208, 209, 66, 467, 468, 469, 470, 368] (by decide +kernel) (by decide +kernel)
set_option maxRecDepth 20000 in
theorem gp_L260 : GoodIn wsL_law wsX10_acceptedAlike_r4 := goodIn_r _ [260, 261, 262, 263, 264, 265, 471, 472, 473, 38, 474, 122, 475, 476, 477, 478, 479, 480, 481, 482, 483, 484, 374, 375] (by decide +kernel) (by decide +kernel)
set_option maxRecDepth 20000 in
theorem gp_L261 : GoodIn wsL_law wsX10_acceptedAlike_r5 := goodIn_r _ [376, 377, 378, 379, 380, 485, 486, 487, 488, 489, 490, 491, 492, 493, 494, 495, 60, 496, 70, 497, 498, 499, 500, 98] (by decide +kernel) (by decide +kernel)
set_option maxRecDepth 20000 in
theorem gp_L262 : GoodIn wsL_law wsX10_acceptedAlike_r6 := goodIn_r _ [1077, 1078, 1079, 1080, 1081, 1062, 1063, 1064, 99] (by decide +kernel) (by decide +kernel)
theorem ggL_law_X10_acceptedAlike : GoodIn wsL_law wsX10_acceptedAlike := goodIn_cons1 (gp_L256) (goodIn_app (goodIn_app (goodIn_app (goodIn_app (goodIn_app (goodIn_app (goodIn_app (goodIn_app (goodIn_app (gp_L257) (goodIn_app (gp_L258) (goodIn_app (gp_L259) (goodIn_app (gp_L260) (goodIn_app (gp_L261) (gp_L262)))))) (gp_L9)) (gp_L8)) (gp_L13)) (gp_L17)) (gp_L12)) (gp_L11)) (gp_L14)) (gp_L18))
set_option maxRecDepth 20000 in
theorem gL_law_X10_acceptedAlike : GoodIn wsL_law (wsV RL 157 RX10 yX10_acceptedAlike wsX10_acceptedAlike) := goodIn_app (goodIn_of _ (by decide +kernel)) ggL_law_X10_acceptedAlike
set_option maxRecDepth 20000 in
theorem gp_L263 : GoodIn wsL_law ([.code yX11_acceptedAlike cX11_acceptedAlike 2 (some .long)] : List Cond) := goodIn_r _ [1085] (by decide +kernel) (by decide +kernel)
set_option maxRecDepth 20000 in
theorem gp_L264 : GoodIn wsL_law wsX11_acceptedAlike_r1 := goodIn_r _ [509, 147, 293, 294, 5, 295, 186, 187, 188, 388, 389, 390, 391, 386, 152, 510, 511, 512, 513, 514, 160, 158, 515, 516] (by decide +kernel) (by decide +kernel)
set_option maxRecDepth 20000 in
theorem gp_L265 : GoodIn wsL_law wsX11_acceptedAlike_r2 := goodIn_r _ [517, 518, 157, 159, 519, 520, 521, 522, 523, 524, 525, 526, 225, 226, 227, 228, 527, 528, 529, 530] (by decide +kernel) (by decide +kernel)
theorem ggL_law_X11_acceptedAlike : GoodIn wsL_law wsX11_acceptedAlike := goodIn_cons1 (gp_L263) (goodIn_app (goodIn_app (gp_L264) (gp_L265)) (gp_L22))
set_option maxRecDepth 20000 in
theorem gL_law_X11_acceptedAlike : GoodIn wsL_law (wsV RL 160 RX11 yX11_acceptedAlike wsX11_acceptedAlike) := goodIn_app (goodIn_of _ (by decide +kernel)) ggL_law_X11_acceptedAlike
set_option maxRecDepth 20000 in
theorem gp_L266 : GoodIn wsL_law ([.code yX10_brokenDiamond cX10_brokenDiamond 1 (some .int)] : List Cond) := goodIn_r _ [1089] (by decide +kernel) (by decide +kernel)
set_option maxRecDepth 20000 in
theorem gp_L267 : GoodIn wsL_law wsX10_brokenDiamond_r1 := goodIn_r _ [15, 1090, 1091, 1092, 60, 1093, 98, 1094, 202, 203, 54, 204, 205, 198, 199, 200, 84, 206, 207, 208, 209, 66, 1095, 1096] (by decide +kernel) (by decide +kernel)
set_option maxRecDepth 20000 in
theorem gp_L268 : GoodIn wsL_law wsX10_brokenDiamond_r2 := goodIn_r _ [1097, 1098, 1099, 494, 495, 496, 70, 497, 498, 499, 500] (by decide +kernel) (by decide +kernel)
theorem ggL_law_X10_brokenDiamond : GoodIn wsL_law wsX10_brokenDiamond := goodIn_cons1 (gp_L266) (goodIn_app (goodIn_app (goodIn_app (goodIn_app (goodIn_app (gp_L267) (gp_L268)) (gp_L9)) (gp_L8)) (gp_L18)) (gp_L17))
set_option maxRecDepth 20000 in
theorem gL_law_X10_brokenDiamond : GoodIn wsL_law (wsV RL 161 RX10 yX10_brokenDiamond wsX10_brokenDiamond) := goodIn_app (goodIn_of _ (by decide +kernel)) ggL_law_X10_brokenDiamond
set_option maxRecDepth 20000 in
theorem gp_L269 : GoodIn wsL_law ([.code yX11_brokenDiamond cX11_brokenDiamond 4 (some .int)] : List Cond) := goodIn_r _ [1103] (by decide +kernel) (by decide +kernel)
set_option maxRecDepth 20000 in
theorem gp_L270 : GoodIn wsL_law ([.fieldLink RX11 7 "CommutingWordsModel" "v" "[I", .methodLink RX11 114 yX11_areFree, .instanceMethod yX11_areFree, .selects RX11 yX11_areFree yX11_areFree, .initialized RX11, .code yX11_areFree cX11_areFree 3 (some .boolean), .methodLink RX11 304 yX11_arrow, .instanceMethod yX11_arrow, .selects RX11 yX11_arrow yX11_arrow, .code yX11_arrow cX11_arrow 3 (some .int)] : List Cond) := goodIn_r _ [147, 225, 226, 227, 5, 228, 1104, 1105, 1106, 1107] (by decide +kernel) (by decide +kernel)
theorem ggL_law_X11_brokenDiamond : GoodIn wsL_law wsX11_brokenDiamond := goodIn_cons1 (gp_L269) (goodIn_app (gp_L270) (gp_L22))
set_option maxRecDepth 20000 in
theorem gL_law_X11_brokenDiamond : GoodIn wsL_law (wsV RL 164 RX11 yX11_brokenDiamond wsX11_brokenDiamond) := goodIn_app (goodIn_of _ (by decide +kernel)) ggL_law_X11_brokenDiamond
set_option maxRecDepth 20000 in
theorem gp_L271 : GoodIn wsL_law ([.code yX10_closed cX10_closed 1 (some .int)] : List Cond) := goodIn_r _ [1111] (by decide +kernel) (by decide +kernel)
set_option maxRecDepth 20000 in
theorem gp_L272 : GoodIn wsL_law wsX10_closed_r1 := goodIn_r _ [15, 1112, 1113, 1114, 60, 1115, 98, 1116, 1117, 1118, 1119, 1099, 494, 495, 496, 70, 497, 498, 499, 500, 1120, 1121, 1122, 1123] (by decide +kernel) (by decide +kernel)
set_option maxRecDepth 20000 in
theorem gp_L273 : GoodIn wsL_law wsX10_closed_r2 := goodIn_r _ [71, 99, 1124, 1062, 1063, 1064, 1125, 1126, 1127, 1128, 1129, 1130, 1131, 1132, 1133, 1134, 1135, 1136, 1094, 202, 203, 54, 204, 205] (by decide +kernel) (by decide +kernel)
set_option maxRecDepth 20000 in
theorem gp_L274 : GoodIn wsL_law wsX10_closed_r3 := goodIn_r _ [198, 199, 200, 84, 206, 207, 208, 209, 66, 1095, 1096, 1097, 1098, 214, 215, 2, 216] (by decide +kernel) (by decide +kernel)
theorem ggL_law_X10_closed : GoodIn wsL_law wsX10_closed := goodIn_cons1 (gp_L271) (goodIn_app (goodIn_app (goodIn_app (goodIn_app (goodIn_app (gp_L272) (goodIn_app (gp_L273) (gp_L274))) (gp_L9)) (gp_L8)) (gp_L17)) (gp_L18))
set_option maxRecDepth 20000 in
theorem gL_law_X10_closed : GoodIn wsL_law (wsV RL 165 RX10 yX10_closed wsX10_closed) := goodIn_app (goodIn_of _ (by decide +kernel)) ggL_law_X10_closed
set_option maxRecDepth 20000 in
theorem gp_L275 : GoodIn wsL_law ([.code yX11_closed cX11_closed 1 (some .int)] : List Cond) := goodIn_r _ [1140] (by decide +kernel) (by decide +kernel)
set_option maxRecDepth 20000 in
theorem gp_L276 : GoodIn wsL_law ([.methodLink RX11 313 yX11_isClosed, .instanceMethod yX11_isClosed, .selects RX11 yX11_isClosed yX11_isClosed, .initialized RX11, .code yX11_isClosed cX11_isClosed 7 (some .boolean), .fieldLink RX11 7 "CommutingWordsModel" "v" "[I", .fieldLink RX11 99 "CommutingWordsModel" "isApart" "[Z", .methodLink RX11 307 yX11_findApart, .instanceMethod yX11_findApart, .selects RX11 yX11_findApart yX11_findApart, .code yX11_findApart cX11_findApart 4 none, .methodLink RX11 304 yX11_arrow, .instanceMethod yX11_arrow, .selects RX11 yX11_arrow yX11_arrow, .code yX11_arrow cX11_arrow 3 (some .int), .methodLink RX11 310 yX11_reached, .instanceMethod yX11_reached, .selects RX11 yX11_reached yX11_reached, .code yX11_reached cX11_reached 5 (some .int), .methodLink RX11 114 yX11_areFree, .instanceMethod yX11_areFree, .selects RX11 yX11_areFree yX11_areFree, .code yX11_areFree cX11_areFree 3 (some .boolean)] : List Cond) := goodIn_r _ [1141, 1142, 1143, 5, 1144, 147, 176, 1145, 1146, 1147, 1148, 1104, 1105, 1106, 1107, 1149, 1150, 1151, 1152, 225, 226, 227, 228] (by decide +kernel) (by decide +kernel)
theorem ggL_law_X11_closed : GoodIn wsL_law wsX11_closed := goodIn_cons1 (gp_L275) (goodIn_app (gp_L276) (gp_L22))
set_option maxRecDepth 20000 in
theorem gL_law_X11_closed : GoodIn wsL_law (wsV RL 168 RX11 yX11_closed wsX11_closed) := goodIn_app (goodIn_of _ (by decide +kernel)) ggL_law_X11_closed
set_option maxRecDepth 20000 in
theorem gp_L277 : GoodIn wsL_law ([.code yX10_save cX10_save 2 (some .int)] : List Cond) := goodIn_r _ [1156] (by decide +kernel) (by decide +kernel)
set_option maxRecDepth 20000 in
theorem gp_L278 : GoodIn wsL_law wsX10_save_r1 := goodIn_r _ [16, 15, 18, 1157, 1158, 2, 1159, 1160, 1161, 1162, 14, 1163, 55, 57, 61, 1164, 1165, 1166, 54, 1167, 84, 66, 1168, 649] (by decide +kernel) (by decide +kernel)
set_option maxRecDepth 20000 in
theorem gp_L279 : GoodIn wsL_law wsX10_save_r2 := goodIn_r _ [650, 25, 651, 93, 75, 1169, 1170, 1171, 60, 1172, 98, 99, 70] (by decide +kernel) (by decide +kernel)
theorem ggL_law_X10_save : GoodIn wsL_law wsX10_save := goodIn_cons1 (gp_L277) (goodIn_app (goodIn_app (goodIn_app (goodIn_app (goodIn_app (goodIn_app (gp_L278) (gp_L279)) (gp_L9)) (gp_L8)) (gp_L17)) (gp_L11)) (gp_L18))
set_option maxRecDepth 20000 in
theorem gL_law_X10_save : GoodIn wsL_law (wsV RL 169 RX10 yX10_save wsX10_save) := goodIn_app (goodIn_of _ (by decide +kernel)) ggL_law_X10_save
set_option maxRecDepth 20000 in
theorem gp_L280 : GoodIn wsL_law ([.code yX11_save cX11_save 3 (some .int)] : List Cond) := goodIn_r _ [1176] (by decide +kernel) (by decide +kernel)
set_option maxRecDepth 20000 in
theorem gp_L281 : GoodIn wsL_law ([.fieldLink RX11 13 "CommutingWordsModel" "kept" "[I", .fieldLink RX11 7 "CommutingWordsModel" "v" "[I", .fieldLink RX11 16 "CommutingWordsModel" "isKept" "[Z", .methodLink RX11 102 yX11_in, .static yX11_in, .initialized RX11, .code yX11_in cX11_in 3 (some .boolean)] : List Cond) := goodIn_r _ [148, 147, 149, 186, 187, 5, 188] (by decide +kernel) (by decide +kernel)
theorem ggL_law_X11_save : GoodIn wsL_law wsX11_save := goodIn_cons1 (gp_L280) (goodIn_app (gp_L281) (gp_L22))
set_option maxRecDepth 20000 in
theorem gL_law_X11_save : GoodIn wsL_law (wsV RL 172 RX11 yX11_save wsX11_save) := goodIn_app (goodIn_of _ (by decide +kernel)) ggL_law_X11_save
set_option maxRecDepth 20000 in
theorem gp_L282 : GoodIn wsL_law ([.code yX10_restore cX10_restore 2 (some .int)] : List Cond) := goodIn_r _ [1180] (by decide +kernel) (by decide +kernel)
set_option maxRecDepth 20000 in
theorem gp_L283 : GoodIn wsL_law wsX10_restore_r1 := goodIn_r _ [18, 15, 16, 1157, 1158, 2, 1159, 1160, 1161, 1162, 14, 1163, 55, 57, 61, 1164, 1165, 1166, 54, 1167, 84, 66, 1168, 649] (by decide +kernel) (by decide +kernel)
set_option maxRecDepth 20000 in
theorem gp_L284 : GoodIn wsL_law wsX10_restore_r2 := goodIn_r _ [650, 25, 651, 93, 75, 1169, 1170, 1171, 60, 1172, 98, 99, 70] (by decide +kernel) (by decide +kernel)
theorem ggL_law_X10_restore : GoodIn wsL_law wsX10_restore := goodIn_cons1 (gp_L282) (goodIn_app (goodIn_app (goodIn_app (goodIn_app (goodIn_app (goodIn_app (gp_L283) (gp_L284)) (gp_L9)) (gp_L8)) (gp_L17)) (gp_L11)) (gp_L18))
set_option maxRecDepth 20000 in
theorem gL_law_X10_restore : GoodIn wsL_law (wsV RL 173 RX10 yX10_restore wsX10_restore) := goodIn_app (goodIn_of _ (by decide +kernel)) ggL_law_X10_restore
set_option maxRecDepth 20000 in
theorem gp_L285 : GoodIn wsL_law ([.code yX11_restore cX11_restore 3 (some .int)] : List Cond) := goodIn_r _ [1184] (by decide +kernel) (by decide +kernel)
set_option maxRecDepth 20000 in
theorem gp_L286 : GoodIn wsL_law ([.fieldLink RX11 16 "CommutingWordsModel" "isKept" "[Z", .fieldLink RX11 7 "CommutingWordsModel" "v" "[I", .fieldLink RX11 13 "CommutingWordsModel" "kept" "[I", .methodLink RX11 102 yX11_in, .static yX11_in, .initialized RX11, .code yX11_in cX11_in 3 (some .boolean)] : List Cond) := goodIn_r _ [149, 147, 148, 186, 187, 5, 188] (by decide +kernel) (by decide +kernel)
theorem ggL_law_X11_restore : GoodIn wsL_law wsX11_restore := goodIn_cons1 (gp_L285) (goodIn_app (gp_L286) (gp_L22))
set_option maxRecDepth 20000 in
theorem gL_law_X11_restore : GoodIn wsL_law (wsV RL 176 RX11 yX11_restore wsX11_restore) := goodIn_app (goodIn_of _ (by decide +kernel)) ggL_law_X11_restore
set_option maxRecDepth 20000 in
theorem gp_L287 : GoodIn wsL_law ([.code yX10_checksum cX10_checksum 5 (some .long)] : List Cond) := goodIn_r _ [1188] (by decide +kernel) (by decide +kernel)
set_option maxRecDepth 20000 in
theorem gp_L288 : GoodIn wsL_law wsX10_checksum_r1 := goodIn_r _ [15, 1189, 1190, 1191, 2, 1192, 1193, 237, 207, 208, 54, 209, 66, 1194, 1195, 1196, 1197, 30, 26, 39, 336, 337, 338, 29] (by decide +kernel) (by decide +kernel)
set_option maxRecDepth 20000 in
theorem gp_L289 : GoodIn wsL_law wsX10_checksum_r2 := goodIn_r _ [339, 340, 341, 342, 110, 343, 86, 87, 88, 344, 321, 322, 25, 323, 93, 75, 345, 346, 347, 348, 107, 108, 349, 350] (by decide +kernel) (by decide +kernel)
set_option maxRecDepth 20000 in
theorem gp_L290 : GoodIn wsL_law wsX10_checksum_r3 := goodIn_r _ [351, 352, 109, 353, 198, 199, 200, 84, 354, 355, 356, 357, 358, 359, 90, 91, 92, 360, 361, 362, 363, 364, 365, 366] (by decide +kernel) (by decide +kernel)
set_option maxRecDepth 20000 in
theorem gp_L291 : GoodIn wsL_law wsX10_checksum_r4 := goodIn_r _ [367, 368, 260, 261, 262, 263, 264, 265, 369, 370, 371, 372, 373, 374, 375, 376, 377, 378, 379, 380, 381, 286, 287, 288] (by decide +kernel) (by decide +kernel)
set_option maxRecDepth 20000 in
theorem gp_L292 : GoodIn wsL_law wsX10_checksum_r5 := goodIn_r _ [320, 412, 413, 414, 415, 428, 429, 430, 431, 453, 454, 455, 456, 35, 457, 458, 459, 34, 460, 115, 461, 462, 117, 463] (by decide +kernel) (by decide +kernel)
set_option maxRecDepth 20000 in
theorem gp_L293 : GoodIn wsL_law wsX10_checksum_r6 := goodIn_r _ [464, 465, 116, 466, 467, 468, 469, 470, 471, 472, 473, 38, 474, 122, 475, 476, 477, 478, 479, 480, 481, 482, 483, 484] (by decide +kernel) (by decide +kernel)
set_option maxRecDepth 20000 in
theorem gp_L294 : GoodIn wsL_law wsX10_checksum_r7 := goodIn_r _ [485, 486, 487, 488, 489, 490, 491, 492, 493, 494, 495, 60, 496, 70, 497, 498, 499, 500, 98, 501, 502, 503, 504, 582] (by decide +kernel) (by decide +kernel)
set_option maxRecDepth 20000 in
theorem gp_L295 : GoodIn wsL_law wsX10_checksum_r8 := goodIn_r _ [583, 584, 585, 572, 586, 587, 588, 589, 206, 214, 215, 216, 1077, 1078, 1079, 1080, 1081, 1062, 1063, 1064, 99, 1090, 1091, 1092] (by decide +kernel) (by decide +kernel)
set_option maxRecDepth 20000 in
theorem gp_L296 : GoodIn wsL_law wsX10_checksum_r9 := goodIn_r _ [1093, 1094, 202, 203, 204, 205, 1095, 1096, 1097, 1098, 1099, 1112, 1113, 1114, 1115, 1116, 1117, 1118, 1119, 1120, 1121, 1122, 1123, 71] (by decide +kernel) (by decide +kernel)
set_option maxRecDepth 20000 in
theorem gp_L297 : GoodIn wsL_law wsX10_checksum_r10 := goodIn_r _ [1124, 1125, 1126, 1127, 1128, 1129, 1130, 1131, 1132, 1133, 1134, 1135, 1136] (by decide +kernel) (by decide +kernel)
theorem ggL_law_X10_checksum : GoodIn wsL_law wsX10_checksum := goodIn_cons1 (gp_L287) (goodIn_app (goodIn_app (goodIn_app (goodIn_app (goodIn_app (goodIn_app (goodIn_app (goodIn_app (goodIn_app (gp_L288) (goodIn_app (gp_L289) (goodIn_app (gp_L290) (goodIn_app (gp_L291) (goodIn_app (gp_L292) (goodIn_app (gp_L293) (goodIn_app (gp_L294) (goodIn_app (gp_L295) (goodIn_app (gp_L296) (gp_L297)))))))))) (gp_L9)) (gp_L8)) (gp_L17)) (gp_L11)) (gp_L12)) (gp_L13)) (gp_L14)) (gp_L18))
set_option maxRecDepth 20000 in
theorem gL_law_X10_checksum : GoodIn wsL_law (wsV RL 177 RX10 yX10_checksum wsX10_checksum) := goodIn_app (goodIn_of _ (by decide +kernel)) ggL_law_X10_checksum
set_option maxRecDepth 20000 in
theorem gp_L298 : GoodIn wsL_law ([.code yX11_checksum cX11_checksum 4 (some .long)] : List Cond) := goodIn_r _ [1201] (by decide +kernel) (by decide +kernel)
set_option maxRecDepth 20000 in
theorem gp_L299 : GoodIn wsL_law wsX11_checksum_r1 := goodIn_r _ [1202, 147, 1203, 1204, 5, 1205, 1206, 1207, 1208, 1209, 1210, 386, 152, 387, 154, 388, 389, 390, 391, 392, 393, 394, 395, 155] (by decide +kernel) (by decide +kernel)
set_option maxRecDepth 20000 in
theorem gp_L300 : GoodIn wsL_law wsX11_checksum_r2 := goodIn_r _ [396, 397, 398, 399, 400, 401, 402, 403, 404, 405, 406, 407, 225, 226, 227, 228, 420, 421, 422, 423, 156, 436, 437, 438] (by decide +kernel) (by decide +kernel)
set_option maxRecDepth 20000 in
theorem gp_L301 : GoodIn wsL_law wsX11_checksum_r3 := goodIn_r _ [439, 510, 511, 512, 513, 514, 160, 158, 515, 516, 517, 518, 157, 159, 519, 520, 521, 522, 523, 524, 525, 526, 527, 528] (by decide +kernel) (by decide +kernel)
set_option maxRecDepth 20000 in
theorem gp_L302 : GoodIn wsL_law wsX11_checksum_r4 := goodIn_r _ [529, 530, 594, 595, 596, 597, 598, 599, 600, 601, 1211, 1101, 1102, 1103, 1104, 1105, 1106, 1107, 1141, 1142, 1143, 1144, 176, 1145] (by decide +kernel) (by decide +kernel)
set_option maxRecDepth 20000 in
theorem gp_L303 : GoodIn wsL_law wsX11_checksum_r5 := goodIn_r _ [1146, 1147, 1148, 1149, 1150, 1151, 1152] (by decide +kernel) (by decide +kernel)
theorem ggL_law_X11_checksum : GoodIn wsL_law wsX11_checksum := goodIn_cons1 (gp_L298) (goodIn_app (goodIn_app (gp_L299) (goodIn_app (gp_L300) (goodIn_app (gp_L301) (goodIn_app (gp_L302) (gp_L303))))) (gp_L22))
set_option maxRecDepth 20000 in
theorem gL_law_X11_checksum : GoodIn wsL_law (wsV RL 181 RX11 yX11_checksum wsX11_checksum) := goodIn_app (goodIn_of _ (by decide +kernel)) ggL_law_X11_checksum
