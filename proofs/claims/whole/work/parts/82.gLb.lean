set_option maxRecDepth 20000 in
theorem gp_L64 : GoodIn wsL_law ([.code yX10_layers cX10_layers 2 (some .int)] : List Cond) := goodIn_r _ [411] (by decide +kernel) (by decide +kernel)
set_option maxRecDepth 20000 in
theorem gp_L65 : GoodIn wsL_law wsX10_layers_r1 := goodIn_r _ [30, 282, 283, 2, 284, 332, 333, 334, 335, 15, 336, 337, 338, 29, 339, 340, 341, 342, 110, 343, 86, 87, 88, 344] (by decide +kernel) (by decide +kernel)
set_option maxRecDepth 20000 in
theorem gp_L66 : GoodIn wsL_law wsX10_layers_r2 := goodIn_r _ [321, 322, 25, 323, 93, 75, 345, 346, 347, 348, 107, 108, 349, 350, 351, 352, 109, 353, 198, 199, 54, 200, 84, 354] (by decide +kernel) (by decide +kernel)
set_option maxRecDepth 20000 in
theorem gp_L67 : GoodIn wsL_law wsX10_layers_r3 := goodIn_r _ [207, 208, 209, 66, 412, 413, 414, 415] (by decide +kernel) (by decide +kernel)
theorem ggL_law_X10_layers : GoodIn wsL_law wsX10_layers := goodIn_cons1 (gp_L64) (goodIn_app (goodIn_app (goodIn_app (goodIn_app (goodIn_app (goodIn_app (gp_L65) (goodIn_app (gp_L66) (gp_L67))) (gp_L9)) (gp_L8)) (gp_L17)) (gp_L12)) (gp_L11))
set_option maxRecDepth 20000 in
theorem gL_law_X10_layers : GoodIn wsL_law (wsV RL 53 RX10 yX10_layers wsX10_layers) := goodIn_app (goodIn_of _ (by decide +kernel)) ggL_law_X10_layers
set_option maxRecDepth 20000 in
theorem gp_L68 : GoodIn wsL_law ([.code yX11_layers cX11_layers 2 (some .int)] : List Cond) := goodIn_r _ [419] (by decide +kernel) (by decide +kernel)
set_option maxRecDepth 20000 in
theorem gp_L69 : GoodIn wsL_law ([.methodLink RX11 156 yX11_isWord, .static yX11_isWord, .initialized RX11, .code yX11_isWord cX11_isWord 1 (some .boolean), .methodLink RX11 102 yX11_in, .static yX11_in, .code yX11_in cX11_in 3 (some .boolean), .methodLink RX11 159 yX11_takesOne, .instanceMethod yX11_takesOne, .selects RX11 yX11_takesOne yX11_takesOne, .code yX11_takesOne cX11_takesOne 3 none, .fieldLink RX11 7 "CommutingWordsModel" "v" "[I", .fieldLink RX11 131 "CommutingWordsModel" "oneLength" "I", .fieldLink RX11 27 "CommutingWordsModel" "one" "[I", .methodLink RX11 166 yX11_findLayers, .instanceMethod yX11_findLayers, .selects RX11 yX11_findLayers yX11_findLayers, .code yX11_findLayers cX11_findLayers 5 (some .int), .fieldLink RX11 39 "CommutingWordsModel" "heights" "[I", .methodLink RX11 114 yX11_areFree, .instanceMethod yX11_areFree, .selects RX11 yX11_areFree yX11_areFree, .code yX11_areFree cX11_areFree 3 (some .boolean)] : List Cond) := goodIn_r _ [293, 294, 5, 295, 186, 187, 188, 388, 389, 390, 391, 147, 386, 152, 420, 421, 422, 423, 156, 225, 226, 227, 228] (by decide +kernel) (by decide +kernel)
theorem ggL_law_X11_layers : GoodIn wsL_law wsX11_layers := goodIn_cons1 (gp_L68) (goodIn_app (gp_L69) (gp_L22))
set_option maxRecDepth 20000 in
theorem gL_law_X11_layers : GoodIn wsL_law (wsV RL 56 RX11 yX11_layers wsX11_layers) := goodIn_app (goodIn_of _ (by decide +kernel)) ggL_law_X11_layers
set_option maxRecDepth 20000 in
theorem gp_L70 : GoodIn wsL_law ([.code yX10_layer cX10_layer 3 (some .int)] : List Cond) := goodIn_r _ [427] (by decide +kernel) (by decide +kernel)
set_option maxRecDepth 20000 in
theorem gp_L71 : GoodIn wsL_law wsX10_layer_r1 := goodIn_r _ [30, 282, 283, 2, 284, 332, 333, 334, 335, 15, 336, 337, 338, 29, 339, 340, 341, 342, 110, 343, 86, 87, 88, 344] (by decide +kernel) (by decide +kernel)
set_option maxRecDepth 20000 in
theorem gp_L72 : GoodIn wsL_law wsX10_layer_r2 := goodIn_r _ [321, 322, 25, 323, 93, 75, 345, 346, 347, 348, 107, 108, 349, 350, 351, 352, 109, 353, 198, 199, 54, 200, 84, 354] (by decide +kernel) (by decide +kernel)
set_option maxRecDepth 20000 in
theorem gp_L73 : GoodIn wsL_law wsX10_layer_r3 := goodIn_r _ [207, 208, 209, 66, 412, 413, 414, 415, 428, 429, 430, 431] (by decide +kernel) (by decide +kernel)
theorem ggL_law_X10_layer : GoodIn wsL_law wsX10_layer := goodIn_cons1 (gp_L70) (goodIn_app (goodIn_app (goodIn_app (goodIn_app (goodIn_app (goodIn_app (gp_L71) (goodIn_app (gp_L72) (gp_L73))) (gp_L9)) (gp_L8)) (gp_L17)) (gp_L12)) (gp_L11))
set_option maxRecDepth 20000 in
theorem gL_law_X10_layer : GoodIn wsL_law (wsV RL 57 RX10 yX10_layer wsX10_layer) := goodIn_app (goodIn_of _ (by decide +kernel)) ggL_law_X10_layer
set_option maxRecDepth 20000 in
theorem gp_L74 : GoodIn wsL_law ([.code yX11_layer cX11_layer 4 (some .int)] : List Cond) := goodIn_r _ [435] (by decide +kernel) (by decide +kernel)
set_option maxRecDepth 20000 in
theorem gp_L75 : GoodIn wsL_law wsX11_layer_r1 := goodIn_r _ [293, 294, 5, 295, 186, 187, 188, 388, 389, 390, 391, 147, 386, 152, 420, 421, 422, 423, 156, 225, 226, 227, 228, 436] (by decide +kernel) (by decide +kernel)
set_option maxRecDepth 20000 in
theorem gp_L76 : GoodIn wsL_law wsX11_layer_r2 := goodIn_r _ [437, 438, 439] (by decide +kernel) (by decide +kernel)
theorem ggL_law_X11_layer : GoodIn wsL_law wsX11_layer := goodIn_cons1 (gp_L74) (goodIn_app (goodIn_app (gp_L75) (gp_L76)) (gp_L22))
set_option maxRecDepth 20000 in
theorem gL_law_X11_layer : GoodIn wsL_law (wsV RL 60 RX11 yX11_layer wsX11_layer) := goodIn_app (goodIn_of _ (by decide +kernel)) ggL_law_X11_layer
set_option maxRecDepth 20000 in
theorem gp_L77 : GoodIn wsL_law ([.code yX10_projected cX10_projected 8 (some .int)] : List Cond) := goodIn_r _ [443] (by decide +kernel) (by decide +kernel)
set_option maxRecDepth 20000 in
theorem gp_L78 : GoodIn wsL_law wsX10_projected_r1 := goodIn_r _ [15, 26, 282, 283, 2, 284, 197, 198, 199, 54, 200, 84, 300, 90, 91, 25, 92, 93, 320, 321, 322, 323, 75, 285] (by decide +kernel) (by decide +kernel)
set_option maxRecDepth 20000 in
theorem gp_L79 : GoodIn wsL_law wsX10_projected_r2 := goodIn_r _ [286, 287, 288, 317, 318, 319] (by decide +kernel) (by decide +kernel)
theorem ggL_law_X10_projected : GoodIn wsL_law wsX10_projected := goodIn_cons1 (gp_L77) (goodIn_app (goodIn_app (goodIn_app (goodIn_app (goodIn_app (gp_L78) (gp_L79)) (gp_L9)) (gp_L8)) (gp_L11)) (gp_L17))
set_option maxRecDepth 20000 in
theorem gL_law_X10_projected : GoodIn wsL_law (wsV RL 61 RX10 yX10_projected wsX10_projected) := goodIn_app (goodIn_of _ (by decide +kernel)) ggL_law_X10_projected
set_option maxRecDepth 20000 in
theorem gp_L80 : GoodIn wsL_law ([.code yX11_projected cX11_projected 8 (some .int)] : List Cond) := goodIn_r _ [447] (by decide +kernel) (by decide +kernel)
theorem ggL_law_X11_projected : GoodIn wsL_law wsX11_projected := goodIn_cons1 (gp_L80) (goodIn_app (gp_L45) (gp_L22))
set_option maxRecDepth 20000 in
theorem gL_law_X11_projected : GoodIn wsL_law (wsV RL 65 RX11 yX11_projected wsX11_projected) := goodIn_app (goodIn_of _ (by decide +kernel)) ggL_law_X11_projected
set_option maxRecDepth 20000 in
theorem gp_L81 : GoodIn wsL_law ([.code yX10_alikeWords cX10_alikeWords 2 (some .long)] : List Cond) := goodIn_r _ [451] (by decide +kernel) (by decide +kernel)
set_option maxRecDepth 20000 in
theorem gp_L82 : GoodIn wsL_law wsX10_alikeWords_r1 := goodIn_r _ [452, 15, 39, 282, 283, 2, 284, 453, 454, 455, 456, 35, 457, 458, 459, 34, 460, 115, 461, 462, 117, 463, 464, 351] (by decide +kernel) (by decide +kernel)
set_option maxRecDepth 20000 in
theorem gp_L83 : GoodIn wsL_law wsX10_alikeWords_r2 := goodIn_r _ [465, 116, 466, 337, 338, 29, 339, 340, 341, 342, 110, 343, 86, 87, 88, 344, 321, 322, 25, 323, 93, 75, 345, 346] (by decide +kernel) (by decide +kernel)
set_option maxRecDepth 20000 in
theorem gp_L84 : GoodIn wsL_law wsX10_alikeWords_r3 := goodIn_r _ [347, 348, 107, 108, 349, 350, 352, 109, 353, 198, 199, 54, 200, 84, 354, 207, 208, 209, 66, 467, 468, 469, 470, 368] (by decide +kernel) (by decide +kernel)
set_option maxRecDepth 20000 in
theorem gp_L85 : GoodIn wsL_law wsX10_alikeWords_r4 := goodIn_r _ [260, 261, 262, 263, 264, 265, 471, 472, 473, 38, 474, 122, 475, 476, 477, 478, 479, 480, 481, 482, 483, 484, 374, 375] (by decide +kernel) (by decide +kernel)
set_option maxRecDepth 20000 in
theorem gp_L86 : GoodIn wsL_law wsX10_alikeWords_r5 := goodIn_r _ [376, 377, 378, 379, 380, 485, 486, 487, 488, 489, 490, 491, 492, 493, 494, 495, 60, 496, 70, 497, 498, 499, 500, 98] (by decide +kernel) (by decide +kernel)
set_option maxRecDepth 20000 in
theorem gp_L87 : GoodIn wsL_law wsX10_alikeWords_r6 := goodIn_r _ [501, 502, 503, 504] (by decide +kernel) (by decide +kernel)
theorem ggL_law_X10_alikeWords : GoodIn wsL_law wsX10_alikeWords := goodIn_cons1 (gp_L81) (goodIn_app (goodIn_app (goodIn_app (goodIn_app (goodIn_app (goodIn_app (goodIn_app (goodIn_app (goodIn_app (gp_L82) (goodIn_app (gp_L83) (goodIn_app (gp_L84) (goodIn_app (gp_L85) (goodIn_app (gp_L86) (gp_L87)))))) (gp_L9)) (gp_L8)) (gp_L13)) (gp_L17)) (gp_L12)) (gp_L11)) (gp_L14)) (gp_L18))
set_option maxRecDepth 20000 in
theorem gL_law_X10_alikeWords : GoodIn wsL_law (wsV RL 66 RX10 yX10_alikeWords wsX10_alikeWords) := goodIn_app (goodIn_of _ (by decide +kernel)) ggL_law_X10_alikeWords
set_option maxRecDepth 20000 in
theorem gp_L88 : GoodIn wsL_law ([.code yX11_alikeWords cX11_alikeWords 2 (some .long)] : List Cond) := goodIn_r _ [508] (by decide +kernel) (by decide +kernel)
set_option maxRecDepth 20000 in
theorem gp_L89 : GoodIn wsL_law wsX11_alikeWords_r1 := goodIn_r _ [509, 293, 294, 5, 295, 186, 187, 188, 388, 389, 390, 391, 147, 386, 152, 510, 511, 512, 513, 514, 160, 158, 515, 516] (by decide +kernel) (by decide +kernel)
set_option maxRecDepth 20000 in
theorem gp_L90 : GoodIn wsL_law wsX11_alikeWords_r2 := goodIn_r _ [517, 518, 157, 159, 519, 520, 521, 522, 523, 524, 525, 526, 225, 226, 227, 228, 527, 528, 529, 530] (by decide +kernel) (by decide +kernel)
theorem ggL_law_X11_alikeWords : GoodIn wsL_law wsX11_alikeWords := goodIn_cons1 (gp_L88) (goodIn_app (goodIn_app (gp_L89) (gp_L90)) (gp_L22))
set_option maxRecDepth 20000 in
theorem gL_law_X11_alikeWords : GoodIn wsL_law (wsV RL 69 RX11 yX11_alikeWords wsX11_alikeWords) := goodIn_app (goodIn_of _ (by decide +kernel)) ggL_law_X11_alikeWords
set_option maxRecDepth 20000 in
theorem gp_L91 : GoodIn wsL_law ([.code yX10_alike cX10_alike 3 (some .int)] : List Cond) := goodIn_r _ [534] (by decide +kernel) (by decide +kernel)
set_option maxRecDepth 20000 in
theorem gp_L92 : GoodIn wsL_law wsX10_alike_r1 := goodIn_r _ [30, 15, 282, 283, 2, 284, 332, 333, 334, 335, 336, 337, 338, 29, 339, 340, 341, 342, 110, 343, 86, 87, 88, 344] (by decide +kernel) (by decide +kernel)
set_option maxRecDepth 20000 in
theorem gp_L93 : GoodIn wsL_law wsX10_alike_r2 := goodIn_r _ [321, 322, 25, 323, 93, 75, 345, 346, 347, 348, 107, 108, 349, 350, 351, 352, 109, 353, 198, 199, 54, 200, 84, 354] (by decide +kernel) (by decide +kernel)
set_option maxRecDepth 20000 in
theorem gp_L94 : GoodIn wsL_law wsX10_alike_r3 := goodIn_r _ [207, 208, 209, 66, 535, 536, 537, 538, 369, 370, 371, 372, 373, 374, 375, 376, 377, 378, 261, 379, 380, 539, 540, 541] (by decide +kernel) (by decide +kernel)
set_option maxRecDepth 20000 in
theorem gp_L95 : GoodIn wsL_law wsX10_alike_r4 := goodIn_r _ [542, 364, 365, 366, 367, 368, 260, 262, 263, 264, 265, 214, 215, 216] (by decide +kernel) (by decide +kernel)
theorem ggL_law_X10_alike : GoodIn wsL_law wsX10_alike := goodIn_cons1 (gp_L91) (goodIn_app (goodIn_app (goodIn_app (goodIn_app (goodIn_app (goodIn_app (gp_L92) (goodIn_app (gp_L93) (goodIn_app (gp_L94) (gp_L95)))) (gp_L9)) (gp_L8)) (gp_L17)) (gp_L12)) (gp_L11))
set_option maxRecDepth 20000 in
theorem gL_law_X10_alike : GoodIn wsL_law (wsV RL 70 RX10 yX10_alike wsX10_alike) := goodIn_app (goodIn_of _ (by decide +kernel)) ggL_law_X10_alike
set_option maxRecDepth 20000 in
theorem gp_L96 : GoodIn wsL_law ([.code yX11_alike cX11_alike 3 (some .int)] : List Cond) := goodIn_r _ [546] (by decide +kernel) (by decide +kernel)
set_option maxRecDepth 20000 in
theorem gp_L97 : GoodIn wsL_law wsX11_alike_r1 := goodIn_r _ [293, 294, 5, 295, 186, 187, 188, 388, 389, 390, 391, 147, 386, 152, 547, 548, 549, 550, 551, 153, 552, 553, 554, 555] (by decide +kernel) (by decide +kernel)
set_option maxRecDepth 20000 in
theorem gp_L98 : GoodIn wsL_law wsX11_alike_r2 := goodIn_r _ [556, 557, 558, 559, 155, 396, 397, 398, 399, 400, 401, 402, 403, 404, 405, 406, 407, 225, 226, 227, 228] (by decide +kernel) (by decide +kernel)
theorem ggL_law_X11_alike : GoodIn wsL_law wsX11_alike := goodIn_cons1 (gp_L96) (goodIn_app (goodIn_app (gp_L97) (gp_L98)) (gp_L22))
set_option maxRecDepth 20000 in
theorem gL_law_X11_alike : GoodIn wsL_law (wsV RL 73 RX11 yX11_alike wsX11_alike) := goodIn_app (goodIn_of _ (by decide +kernel)) ggL_law_X11_alike
set_option maxRecDepth 20000 in
theorem gp_L99 : GoodIn wsL_law ([.code yX10_commute cX10_commute 3 (some .int)] : List Cond) := goodIn_r _ [563] (by decide +kernel) (by decide +kernel)
set_option maxRecDepth 20000 in
theorem gp_L100 : GoodIn wsL_law wsX10_commute_r1 := goodIn_r _ [30, 15, 26, 282, 283, 2, 284, 564, 565, 566, 567, 300, 90, 91, 25, 92, 93, 568, 569, 570, 571, 572, 321, 322] (by decide +kernel) (by decide +kernel)
set_option maxRecDepth 20000 in
theorem gp_L101 : GoodIn wsL_law wsX10_commute_r2 := goodIn_r _ [323, 75, 573, 286, 287, 288, 336, 337, 338, 29, 339, 340, 341, 342, 110, 343, 86, 87, 88, 344, 345, 346, 347, 348] (by decide +kernel) (by decide +kernel)
set_option maxRecDepth 20000 in
theorem gp_L102 : GoodIn wsL_law wsX10_commute_r3 := goodIn_r _ [107, 108, 349, 350, 351, 352, 109, 353, 198, 199, 54, 200, 84, 354, 207, 208, 209, 66, 535, 536, 537, 538, 369, 370] (by decide +kernel) (by decide +kernel)
set_option maxRecDepth 20000 in
theorem gp_L103 : GoodIn wsL_law wsX10_commute_r4 := goodIn_r _ [371, 372, 373, 374, 375, 376, 377, 378, 261, 379, 380, 214, 215, 216] (by decide +kernel) (by decide +kernel)
theorem ggL_law_X10_commute : GoodIn wsL_law wsX10_commute := goodIn_cons1 (gp_L99) (goodIn_app (goodIn_app (goodIn_app (goodIn_app (goodIn_app (goodIn_app (gp_L100) (goodIn_app (gp_L101) (goodIn_app (gp_L102) (gp_L103)))) (gp_L9)) (gp_L8)) (gp_L11)) (gp_L17)) (gp_L12))
set_option maxRecDepth 20000 in
theorem gL_law_X10_commute : GoodIn wsL_law (wsV RL 74 RX10 yX10_commute wsX10_commute) := goodIn_app (goodIn_of _ (by decide +kernel)) ggL_law_X10_commute
set_option maxRecDepth 20000 in
theorem gp_L104 : GoodIn wsL_law ([.code yX11_commute cX11_commute 6 (some .int)] : List Cond) := goodIn_r _ [577] (by decide +kernel) (by decide +kernel)
set_option maxRecDepth 20000 in
theorem gp_L105 : GoodIn wsL_law wsX11_commute_r1 := goodIn_r _ [386, 551, 152, 153, 293, 294, 5, 295, 186, 187, 188, 388, 389, 390, 391, 147, 547, 548, 549, 550, 552, 553, 554, 555] (by decide +kernel) (by decide +kernel)
set_option maxRecDepth 20000 in
theorem gp_L106 : GoodIn wsL_law wsX11_commute_r2 := goodIn_r _ [556, 557, 558, 559, 155, 396, 397, 398, 399, 400, 401, 402, 403, 404, 405, 406, 407, 225, 226, 227, 228] (by decide +kernel) (by decide +kernel)
theorem ggL_law_X11_commute : GoodIn wsL_law wsX11_commute := goodIn_cons1 (gp_L104) (goodIn_app (goodIn_app (gp_L105) (gp_L106)) (gp_L22))
set_option maxRecDepth 20000 in
theorem gL_law_X11_commute : GoodIn wsL_law (wsV RL 77 RX11 yX11_commute wsX11_commute) := goodIn_app (goodIn_of _ (by decide +kernel)) ggL_law_X11_commute
set_option maxRecDepth 20000 in
theorem gp_L107 : GoodIn wsL_law ([.code yX10_connected cX10_connected 2 (some .int)] : List Cond) := goodIn_r _ [581] (by decide +kernel) (by decide +kernel)
set_option maxRecDepth 20000 in
theorem gp_L108 : GoodIn wsL_law wsX10_connected_r1 := goodIn_r _ [15, 282, 283, 2, 284, 582, 583, 584, 25, 585, 93, 572, 321, 322, 323, 75, 586, 587, 588, 54, 589, 84, 206, 207] (by decide +kernel) (by decide +kernel)
set_option maxRecDepth 20000 in
theorem gp_L109 : GoodIn wsL_law wsX10_connected_r2 := goodIn_r _ [208, 209, 66, 214, 215, 216] (by decide +kernel) (by decide +kernel)
theorem ggL_law_X10_connected : GoodIn wsL_law wsX10_connected := goodIn_cons1 (gp_L107) (goodIn_app (goodIn_app (goodIn_app (goodIn_app (goodIn_app (gp_L108) (gp_L109)) (gp_L9)) (gp_L8)) (gp_L11)) (gp_L17))
set_option maxRecDepth 20000 in
theorem gL_law_X10_connected : GoodIn wsL_law (wsV RL 78 RX10 yX10_connected wsX10_connected) := goodIn_app (goodIn_of _ (by decide +kernel)) ggL_law_X10_connected
set_option maxRecDepth 20000 in
theorem gp_L110 : GoodIn wsL_law ([.code yX11_connected cX11_connected 2 (some .int)] : List Cond) := goodIn_r _ [593] (by decide +kernel) (by decide +kernel)
set_option maxRecDepth 20000 in
theorem gp_L111 : GoodIn wsL_law ([.methodLink RX11 156 yX11_isWord, .static yX11_isWord, .initialized RX11, .code yX11_isWord cX11_isWord 1 (some .boolean), .methodLink RX11 102 yX11_in, .static yX11_in, .code yX11_in cX11_in 3 (some .boolean), .methodLink RX11 201 yX11_letters, .instanceMethod yX11_letters, .selects RX11 yX11_letters yX11_letters, .code yX11_letters cX11_letters 4 (some .int), .fieldLink RX11 7 "CommutingWordsModel" "v" "[I", .methodLink RX11 204 yX11_isConnected, .instanceMethod yX11_isConnected, .selects RX11 yX11_isConnected yX11_isConnected, .code yX11_isConnected cX11_isConnected 6 (some .boolean)] : List Cond) := goodIn_r _ [293, 294, 5, 295, 186, 187, 188, 594, 595, 596, 597, 147, 598, 599, 600, 601] (by decide +kernel) (by decide +kernel)
theorem ggL_law_X11_connected : GoodIn wsL_law wsX11_connected := goodIn_cons1 (gp_L110) (goodIn_app (gp_L111) (gp_L22))
set_option maxRecDepth 20000 in
theorem gL_law_X11_connected : GoodIn wsL_law (wsV RL 81 RX11 yX11_connected wsX11_connected) := goodIn_app (goodIn_of _ (by decide +kernel)) ggL_law_X11_connected
set_option maxRecDepth 20000 in
theorem gp_L112 : GoodIn wsL_law ([.code yX10_isPrefix cX10_isPrefix 3 (some .int)] : List Cond) := goodIn_r _ [605] (by decide +kernel) (by decide +kernel)
set_option maxRecDepth 20000 in
theorem gp_L113 : GoodIn wsL_law wsX10_isPrefix_r1 := goodIn_r _ [30, 15, 282, 283, 2, 284, 332, 333, 334, 335, 336, 337, 338, 29, 339, 340, 341, 342, 110, 343, 86, 87, 88, 344] (by decide +kernel) (by decide +kernel)
set_option maxRecDepth 20000 in
theorem gp_L114 : GoodIn wsL_law wsX10_isPrefix_r2 := goodIn_r _ [321, 322, 25, 323, 93, 75, 345, 346, 347, 348, 107, 108, 349, 350, 351, 352, 109, 353, 198, 199, 54, 200, 84, 354] (by decide +kernel) (by decide +kernel)
set_option maxRecDepth 20000 in
theorem gp_L115 : GoodIn wsL_law wsX10_isPrefix_r3 := goodIn_r _ [207, 208, 209, 66, 535, 536, 537, 538, 369, 370, 371, 372, 373, 374, 375, 376, 377, 378, 261, 379, 380, 214, 215, 216] (by decide +kernel) (by decide +kernel)
theorem ggL_law_X10_isPrefix : GoodIn wsL_law wsX10_isPrefix := goodIn_cons1 (gp_L112) (goodIn_app (goodIn_app (goodIn_app (goodIn_app (goodIn_app (goodIn_app (gp_L113) (goodIn_app (gp_L114) (gp_L115))) (gp_L9)) (gp_L8)) (gp_L17)) (gp_L12)) (gp_L11))
set_option maxRecDepth 20000 in
theorem gL_law_X10_isPrefix : GoodIn wsL_law (wsV RL 82 RX10 yX10_isPrefix wsX10_isPrefix) := goodIn_app (goodIn_of _ (by decide +kernel)) ggL_law_X10_isPrefix
set_option maxRecDepth 20000 in
theorem gp_L116 : GoodIn wsL_law ([.code yX11_isPrefix cX11_isPrefix 3 (some .int)] : List Cond) := goodIn_r _ [609] (by decide +kernel) (by decide +kernel)
set_option maxRecDepth 20000 in
theorem gp_L117 : GoodIn wsL_law wsX11_isPrefix_r1 := goodIn_r _ [293, 294, 5, 295, 186, 187, 188, 388, 389, 390, 391, 147, 386, 152, 547, 548, 549, 550, 551, 153, 556, 557, 558, 559] (by decide +kernel) (by decide +kernel)
set_option maxRecDepth 20000 in
theorem gp_L118 : GoodIn wsL_law wsX11_isPrefix_r2 := goodIn_r _ [155, 396, 397, 398, 399, 400, 401, 402, 403, 404, 405, 406, 407, 225, 226, 227, 228] (by decide +kernel) (by decide +kernel)
theorem ggL_law_X11_isPrefix : GoodIn wsL_law wsX11_isPrefix := goodIn_cons1 (gp_L116) (goodIn_app (goodIn_app (gp_L117) (gp_L118)) (gp_L22))
set_option maxRecDepth 20000 in
theorem gL_law_X11_isPrefix : GoodIn wsL_law (wsV RL 85 RX11 yX11_isPrefix wsX11_isPrefix) := goodIn_app (goodIn_of _ (by decide +kernel)) ggL_law_X11_isPrefix
set_option maxRecDepth 20000 in
theorem gp_L119 : GoodIn wsL_law ([.code yX10_isFactor cX10_isFactor 3 (some .int)] : List Cond) := goodIn_r _ [613] (by decide +kernel) (by decide +kernel)
set_option maxRecDepth 20000 in
theorem gp_L120 : GoodIn wsL_law wsX10_isFactor_r1 := goodIn_r _ [35, 15, 282, 283, 2, 284, 457, 458, 459, 34, 460, 115, 461, 462, 117, 463, 464, 351, 465, 116, 466, 337, 338, 29] (by decide +kernel) (by decide +kernel)
set_option maxRecDepth 20000 in
theorem gp_L121 : GoodIn wsL_law wsX10_isFactor_r2 := goodIn_r _ [339, 340, 341, 342, 110, 343, 86, 87, 88, 344, 321, 322, 25, 323, 93, 75, 345, 346, 347, 348, 107, 108, 349, 350] (by decide +kernel) (by decide +kernel)
set_option maxRecDepth 20000 in
theorem gp_L122 : GoodIn wsL_law wsX10_isFactor_r3 := goodIn_r _ [352, 109, 353, 198, 199, 54, 200, 84, 354, 207, 208, 209, 66, 467, 468, 469, 470, 368, 260, 261, 262, 263, 264, 265] (by decide +kernel) (by decide +kernel)
set_option maxRecDepth 20000 in
theorem gp_L123 : GoodIn wsL_law wsX10_isFactor_r4 := goodIn_r _ [614, 615, 616, 617, 480, 481, 482, 483, 618, 536, 537, 538, 369, 370, 371, 372, 373, 374, 375, 376, 377, 378, 379, 380] (by decide +kernel) (by decide +kernel)
set_option maxRecDepth 20000 in
theorem gp_L124 : GoodIn wsL_law wsX10_isFactor_r5 := goodIn_r _ [619, 477, 478, 479, 484, 214, 215, 216] (by decide +kernel) (by decide +kernel)
theorem ggL_law_X10_isFactor : GoodIn wsL_law wsX10_isFactor := goodIn_cons1 (gp_L119) (goodIn_app (goodIn_app (goodIn_app (goodIn_app (goodIn_app (goodIn_app (goodIn_app (gp_L120) (goodIn_app (gp_L121) (goodIn_app (gp_L122) (goodIn_app (gp_L123) (gp_L124))))) (gp_L9)) (gp_L8)) (gp_L13)) (gp_L17)) (gp_L12)) (gp_L11))
set_option maxRecDepth 20000 in
theorem gL_law_X10_isFactor : GoodIn wsL_law (wsV RL 86 RX10 yX10_isFactor wsX10_isFactor) := goodIn_app (goodIn_of _ (by decide +kernel)) ggL_law_X10_isFactor
set_option maxRecDepth 20000 in
theorem gp_L125 : GoodIn wsL_law ([.code yX11_isFactor cX11_isFactor 5 (some .int)] : List Cond) := goodIn_r _ [623] (by decide +kernel) (by decide +kernel)
set_option maxRecDepth 20000 in
theorem gp_L126 : GoodIn wsL_law wsX11_isFactor_r1 := goodIn_r _ [514, 161, 147, 158, 293, 294, 5, 295, 186, 187, 188, 388, 389, 390, 391, 386, 152, 515, 516, 517, 518, 157, 159, 519] (by decide +kernel) (by decide +kernel)
set_option maxRecDepth 20000 in
theorem gp_L127 : GoodIn wsL_law wsX11_isFactor_r2 := goodIn_r _ [520, 521, 522, 523, 524, 525, 526, 225, 226, 227, 228, 624, 625, 626, 627, 551, 156, 153, 556, 557, 558, 559, 155, 396] (by decide +kernel) (by decide +kernel)
set_option maxRecDepth 20000 in
theorem gp_L128 : GoodIn wsL_law wsX11_isFactor_r3 := goodIn_r _ [397, 398, 399, 400, 401, 402, 403, 404, 405, 406, 407] (by decide +kernel) (by decide +kernel)
theorem ggL_law_X11_isFactor : GoodIn wsL_law wsX11_isFactor := goodIn_cons1 (gp_L125) (goodIn_app (goodIn_app (gp_L126) (goodIn_app (gp_L127) (gp_L128))) (gp_L22))
set_option maxRecDepth 20000 in
theorem gL_law_X11_isFactor : GoodIn wsL_law (wsV RL 89 RX11 yX11_isFactor wsX11_isFactor) := goodIn_app (goodIn_of _ (by decide +kernel)) ggL_law_X11_isFactor
set_option maxRecDepth 20000 in
theorem gp_L129 : GoodIn wsL_law ([.code yX10_exponent cX10_exponent 2 (some .int)] : List Cond) := goodIn_r _ [631] (by decide +kernel) (by decide +kernel)
set_option maxRecDepth 20000 in
theorem gp_L130 : GoodIn wsL_law wsX10_exponent_r1 := goodIn_r _ [15, 282, 283, 2, 284, 632, 633, 634, 635, 26, 636, 637, 638, 639, 300, 90, 91, 25, 92, 93, 320, 321, 322, 323] (by decide +kernel) (by decide +kernel)
set_option maxRecDepth 20000 in
theorem gp_L131 : GoodIn wsL_law wsX10_exponent_r2 := goodIn_r _ [75, 640, 641, 642, 643, 572, 285, 286, 287, 288, 644, 645, 646, 647, 30, 336, 337, 338, 29, 339, 340, 341, 342, 110] (by decide +kernel) (by decide +kernel)
set_option maxRecDepth 20000 in
theorem gp_L132 : GoodIn wsL_law wsX10_exponent_r3 := goodIn_r _ [343, 86, 87, 88, 344, 345, 346, 347, 348, 107, 108, 349, 350, 351, 352, 109, 353, 198, 199, 54, 200, 84, 354, 207] (by decide +kernel) (by decide +kernel)
set_option maxRecDepth 20000 in
theorem gp_L133 : GoodIn wsL_law wsX10_exponent_r4 := goodIn_r _ [208, 209, 66, 535, 536, 537, 538, 369, 370, 371, 372, 373, 374, 375, 376, 377, 378, 261, 379, 380, 539, 540, 541, 542] (by decide +kernel) (by decide +kernel)
set_option maxRecDepth 20000 in
theorem gp_L134 : GoodIn wsL_law wsX10_exponent_r5 := goodIn_r _ [364, 365, 366, 367, 368, 260, 262, 263, 264, 265, 648, 649, 650, 651] (by decide +kernel) (by decide +kernel)
theorem ggL_law_X10_exponent : GoodIn wsL_law wsX10_exponent := goodIn_cons1 (gp_L129) (goodIn_app (goodIn_app (goodIn_app (goodIn_app (goodIn_app (goodIn_app (gp_L130) (goodIn_app (gp_L131) (goodIn_app (gp_L132) (goodIn_app (gp_L133) (gp_L134))))) (gp_L9)) (gp_L8)) (gp_L11)) (gp_L17)) (gp_L12))
set_option maxRecDepth 20000 in
theorem gL_law_X10_exponent : GoodIn wsL_law (wsV RL 90 RX10 yX10_exponent wsX10_exponent) := goodIn_app (goodIn_of _ (by decide +kernel)) ggL_law_X10_exponent
set_option maxRecDepth 20000 in
theorem gp_L135 : GoodIn wsL_law ([.code yX11_exponent cX11_exponent 2 (some .int)] : List Cond) := goodIn_r _ [655] (by decide +kernel) (by decide +kernel)
set_option maxRecDepth 20000 in
theorem gp_L136 : GoodIn wsL_law wsX11_exponent_r1 := goodIn_r _ [147, 293, 294, 5, 295, 186, 187, 188, 656, 657, 658, 659, 660, 661, 662, 663, 156, 551, 153, 386, 152, 547, 548, 549] (by decide +kernel) (by decide +kernel)
set_option maxRecDepth 20000 in
theorem gp_L137 : GoodIn wsL_law wsX11_exponent_r2 := goodIn_r _ [550, 552, 553, 554, 555, 556, 557, 558, 559, 155, 396, 397, 398, 399, 400, 401, 402, 403, 404, 405, 406, 407, 225, 226] (by decide +kernel) (by decide +kernel)
set_option maxRecDepth 20000 in
theorem gp_L138 : GoodIn wsL_law wsX11_exponent_r3 := goodIn_r _ [227, 228] (by decide +kernel) (by decide +kernel)
theorem ggL_law_X11_exponent : GoodIn wsL_law wsX11_exponent := goodIn_cons1 (gp_L135) (goodIn_app (goodIn_app (gp_L136) (goodIn_app (gp_L137) (gp_L138))) (gp_L22))
set_option maxRecDepth 20000 in
theorem gL_law_X11_exponent : GoodIn wsL_law (wsV RL 93 RX11 yX11_exponent wsX11_exponent) := goodIn_app (goodIn_of _ (by decide +kernel)) ggL_law_X11_exponent
set_option maxRecDepth 20000 in
theorem gp_L139 : GoodIn wsL_law ([.code yX10_product cX10_product 4 (some .int)] : List Cond) := goodIn_r _ [667] (by decide +kernel) (by decide +kernel)
set_option maxRecDepth 20000 in
theorem gp_L140 : GoodIn wsL_law wsX10_product_r1 := goodIn_r _ [26, 282, 283, 2, 284, 564, 565, 566, 567, 15, 300, 90, 91, 25, 92, 93, 568, 569, 570, 571, 572, 321, 322, 323] (by decide +kernel) (by decide +kernel)
set_option maxRecDepth 20000 in
theorem gp_L141 : GoodIn wsL_law wsX10_product_r2 := goodIn_r _ [75, 573, 286, 287, 288, 668, 669, 670, 671, 30, 336, 337, 338, 29, 339, 340, 341, 342, 110, 343, 86, 87, 88, 344] (by decide +kernel) (by decide +kernel)
set_option maxRecDepth 20000 in
theorem gp_L142 : GoodIn wsL_law wsX10_product_r3 := goodIn_r _ [345, 346, 347, 348, 107, 108, 349, 350, 351, 352, 109, 353, 198, 199, 54, 200, 84, 354, 207, 208, 209, 66, 355, 356] (by decide +kernel) (by decide +kernel)
set_option maxRecDepth 20000 in
theorem gp_L143 : GoodIn wsL_law wsX10_product_r4 := goodIn_r _ [357, 358, 359, 360, 361, 362, 363, 364, 365, 366, 367, 368, 260, 261, 262, 263, 264, 265, 369, 370, 371, 372, 373, 374] (by decide +kernel) (by decide +kernel)
set_option maxRecDepth 20000 in
theorem gp_L144 : GoodIn wsL_law wsX10_product_r5 := goodIn_r _ [375, 376, 377, 378, 379, 380, 381] (by decide +kernel) (by decide +kernel)
theorem ggL_law_X10_product : GoodIn wsL_law wsX10_product := goodIn_cons1 (gp_L139) (goodIn_app (goodIn_app (goodIn_app (goodIn_app (goodIn_app (goodIn_app (gp_L140) (goodIn_app (gp_L141) (goodIn_app (gp_L142) (goodIn_app (gp_L143) (gp_L144))))) (gp_L9)) (gp_L11)) (gp_L8)) (gp_L17)) (gp_L12))
set_option maxRecDepth 20000 in
theorem gL_law_X10_product : GoodIn wsL_law (wsV RL 94 RX10 yX10_product wsX10_product) := goodIn_app (goodIn_of _ (by decide +kernel)) ggL_law_X10_product
