set_option maxRecDepth 20000 in
theorem gp_L145 : GoodIn wsL_law ([.code yX11_product cX11_product 5 (some .int)] : List Cond) := goodIn_r _ [675] (by decide +kernel) (by decide +kernel)
set_option maxRecDepth 20000 in
theorem gp_L146 : GoodIn wsL_law wsX11_product_r1 := goodIn_r _ [147, 551, 152, 386, 153, 293, 294, 5, 295, 186, 187, 188, 388, 389, 390, 391, 547, 548, 549, 550, 392, 393, 394, 395] (by decide +kernel) (by decide +kernel)
set_option maxRecDepth 20000 in
theorem gp_L147 : GoodIn wsL_law wsX11_product_r2 := goodIn_r _ [387, 155, 154, 396, 397, 398, 399, 400, 401, 402, 403, 404, 405, 406, 407, 225, 226, 227, 228, 676, 677, 678, 679] (by decide +kernel) (by decide +kernel)
theorem ggL_law_X11_product : GoodIn wsL_law wsX11_product := goodIn_cons1 (gp_L145) (goodIn_app (goodIn_app (gp_L146) (gp_L147)) (gp_L22))
set_option maxRecDepth 20000 in
theorem gL_law_X11_product : GoodIn wsL_law (wsV RL 98 RX11 yX11_product wsX11_product) := goodIn_app (goodIn_of _ (by decide +kernel)) ggL_law_X11_product
set_option maxRecDepth 20000 in
theorem gp_L148 : GoodIn wsL_law ([.code yX10_quotient cX10_quotient 4 (some .int)] : List Cond) := goodIn_r _ [683] (by decide +kernel) (by decide +kernel)
set_option maxRecDepth 20000 in
theorem gp_L149 : GoodIn wsL_law wsX10_quotient_r1 := goodIn_r _ [30, 15, 282, 283, 2, 284, 332, 333, 334, 335, 336, 337, 338, 29, 339, 340, 341, 342, 110, 343, 86, 87, 88, 344] (by decide +kernel) (by decide +kernel)
set_option maxRecDepth 20000 in
theorem gp_L150 : GoodIn wsL_law wsX10_quotient_r2 := goodIn_r _ [321, 322, 25, 323, 93, 75, 345, 346, 347, 348, 107, 108, 349, 350, 351, 352, 109, 353, 198, 199, 54, 200, 84, 354] (by decide +kernel) (by decide +kernel)
set_option maxRecDepth 20000 in
theorem gp_L151 : GoodIn wsL_law wsX10_quotient_r3 := goodIn_r _ [207, 208, 209, 66, 535, 536, 537, 538, 369, 370, 371, 372, 373, 374, 375, 376, 377, 378, 261, 379, 380, 355, 356, 357] (by decide +kernel) (by decide +kernel)
set_option maxRecDepth 20000 in
theorem gp_L152 : GoodIn wsL_law wsX10_quotient_r4 := goodIn_r _ [358, 359, 90, 91, 92, 360, 361, 362, 363, 364, 365, 366, 367, 368, 260, 262, 263, 264, 265, 381, 286, 287, 288] (by decide +kernel) (by decide +kernel)
theorem ggL_law_X10_quotient : GoodIn wsL_law wsX10_quotient := goodIn_cons1 (gp_L148) (goodIn_app (goodIn_app (goodIn_app (goodIn_app (goodIn_app (goodIn_app (gp_L149) (goodIn_app (gp_L150) (goodIn_app (gp_L151) (gp_L152)))) (gp_L9)) (gp_L8)) (gp_L11)) (gp_L17)) (gp_L12))
set_option maxRecDepth 20000 in
theorem gL_law_X10_quotient : GoodIn wsL_law (wsV RL 99 RX10 yX10_quotient wsX10_quotient) := goodIn_app (goodIn_of _ (by decide +kernel)) ggL_law_X10_quotient
set_option maxRecDepth 20000 in
theorem gp_L153 : GoodIn wsL_law ([.code yX11_quotient cX11_quotient 4 (some .int)] : List Cond) := goodIn_r _ [687] (by decide +kernel) (by decide +kernel)
set_option maxRecDepth 20000 in
theorem gp_L154 : GoodIn wsL_law wsX11_quotient_r1 := goodIn_r _ [153, 551, 293, 294, 5, 295, 186, 187, 188, 388, 389, 390, 391, 147, 386, 152, 547, 548, 549, 550, 556, 557, 558, 559] (by decide +kernel) (by decide +kernel)
set_option maxRecDepth 20000 in
theorem gp_L155 : GoodIn wsL_law wsX11_quotient_r2 := goodIn_r _ [155, 396, 397, 398, 399, 400, 401, 402, 403, 404, 405, 406, 407, 225, 226, 227, 228, 392, 393, 394, 395, 387, 154, 676] (by decide +kernel) (by decide +kernel)
set_option maxRecDepth 20000 in
theorem gp_L156 : GoodIn wsL_law wsX11_quotient_r3 := goodIn_r _ [677, 678, 679] (by decide +kernel) (by decide +kernel)
theorem ggL_law_X11_quotient : GoodIn wsL_law wsX11_quotient := goodIn_cons1 (gp_L153) (goodIn_app (goodIn_app (gp_L154) (goodIn_app (gp_L155) (gp_L156))) (gp_L22))
set_option maxRecDepth 20000 in
theorem gL_law_X11_quotient : GoodIn wsL_law (wsV RL 102 RX11 yX11_quotient wsX11_quotient) := goodIn_app (goodIn_of _ (by decide +kernel)) ggL_law_X11_quotient
set_option maxRecDepth 20000 in
theorem gp_L157 : GoodIn wsL_law ([.code yX10_commonPrefix cX10_commonPrefix 4 (some .int)] : List Cond) := goodIn_r _ [691] (by decide +kernel) (by decide +kernel)
set_option maxRecDepth 20000 in
theorem gp_L158 : GoodIn wsL_law wsX10_commonPrefix_r1 := goodIn_r _ [282, 283, 2, 284, 692, 693, 694, 695, 30, 15, 31, 26, 336, 337, 338, 29, 339, 340, 341, 342, 110, 343, 86, 87] (by decide +kernel) (by decide +kernel)
set_option maxRecDepth 20000 in
theorem gp_L159 : GoodIn wsL_law wsX10_commonPrefix_r2 := goodIn_r _ [88, 344, 321, 322, 25, 323, 93, 75, 345, 346, 347, 348, 107, 108, 349, 350, 351, 352, 109, 353, 198, 199, 54, 200] (by decide +kernel) (by decide +kernel)
set_option maxRecDepth 20000 in
theorem gp_L160 : GoodIn wsL_law wsX10_commonPrefix_r3 := goodIn_r _ [84, 354, 207, 208, 209, 66, 300, 90, 91, 92, 696, 697, 698, 699, 700, 374, 375, 376, 377, 378, 261, 379, 380, 701] (by decide +kernel) (by decide +kernel)
set_option maxRecDepth 20000 in
theorem gp_L161 : GoodIn wsL_law wsX10_commonPrefix_r4 := goodIn_r _ [370, 371, 372, 373, 285, 286, 287, 288, 668, 669, 670, 671, 355, 356, 357, 358, 359, 360, 361, 362, 363, 364, 365, 366] (by decide +kernel) (by decide +kernel)
set_option maxRecDepth 20000 in
theorem gp_L162 : GoodIn wsL_law wsX10_commonPrefix_r5 := goodIn_r _ [367, 368, 260, 262, 263, 264, 265, 369, 381] (by decide +kernel) (by decide +kernel)
theorem ggL_law_X10_commonPrefix : GoodIn wsL_law wsX10_commonPrefix := goodIn_cons1 (gp_L157) (goodIn_app (goodIn_app (goodIn_app (goodIn_app (goodIn_app (goodIn_app (gp_L158) (goodIn_app (gp_L159) (goodIn_app (gp_L160) (goodIn_app (gp_L161) (gp_L162))))) (gp_L9)) (gp_L8)) (gp_L17)) (gp_L12)) (gp_L11))
set_option maxRecDepth 20000 in
theorem gL_law_X10_commonPrefix : GoodIn wsL_law (wsV RL 103 RX10 yX10_commonPrefix wsX10_commonPrefix) := goodIn_app (goodIn_of _ (by decide +kernel)) ggL_law_X10_commonPrefix
set_option maxRecDepth 20000 in
theorem gp_L163 : GoodIn wsL_law ([.code yX11_commonPrefix cX11_commonPrefix 4 (some .int)] : List Cond) := goodIn_r _ [705] (by decide +kernel) (by decide +kernel)
set_option maxRecDepth 20000 in
theorem gp_L164 : GoodIn wsL_law wsX11_commonPrefix_r1 := goodIn_r _ [162, 706, 293, 294, 5, 295, 186, 187, 188, 388, 389, 390, 391, 147, 386, 152, 547, 548, 549, 550, 551, 153, 707, 708] (by decide +kernel) (by decide +kernel)
set_option maxRecDepth 20000 in
theorem gp_L165 : GoodIn wsL_law wsX11_commonPrefix_r2 := goodIn_r _ [709, 710, 163, 155, 396, 397, 398, 399, 400, 401, 402, 403, 404, 405, 406, 407, 225, 226, 227, 228, 711, 712, 713, 714] (by decide +kernel) (by decide +kernel)
set_option maxRecDepth 20000 in
theorem gp_L166 : GoodIn wsL_law wsX11_commonPrefix_r3 := goodIn_r _ [715, 716, 717, 718, 392, 393, 394, 395, 387, 154, 676, 677, 678, 679] (by decide +kernel) (by decide +kernel)
theorem ggL_law_X11_commonPrefix : GoodIn wsL_law wsX11_commonPrefix := goodIn_cons1 (gp_L163) (goodIn_app (goodIn_app (gp_L164) (goodIn_app (gp_L165) (gp_L166))) (gp_L22))
set_option maxRecDepth 20000 in
theorem gL_law_X11_commonPrefix : GoodIn wsL_law (wsV RL 106 RX11 yX11_commonPrefix wsX11_commonPrefix) := goodIn_app (goodIn_of _ (by decide +kernel)) ggL_law_X11_commonPrefix
set_option maxRecDepth 20000 in
theorem gp_L167 : GoodIn wsL_law ([.code yX10_commonMultiple cX10_commonMultiple 4 (some .int)] : List Cond) := goodIn_r _ [722] (by decide +kernel) (by decide +kernel)
set_option maxRecDepth 20000 in
theorem gp_L168 : GoodIn wsL_law wsX10_commonMultiple_r1 := goodIn_r _ [15, 30, 31, 26, 282, 283, 2, 284, 692, 693, 694, 695, 336, 337, 338, 29, 339, 340, 341, 342, 110, 343, 86, 87] (by decide +kernel) (by decide +kernel)
set_option maxRecDepth 20000 in
theorem gp_L169 : GoodIn wsL_law wsX10_commonMultiple_r2 := goodIn_r _ [88, 344, 321, 322, 25, 323, 93, 75, 345, 346, 347, 348, 107, 108, 349, 350, 351, 352, 109, 353, 198, 199, 54, 200] (by decide +kernel) (by decide +kernel)
set_option maxRecDepth 20000 in
theorem gp_L170 : GoodIn wsL_law wsX10_commonMultiple_r3 := goodIn_r _ [84, 354, 207, 208, 209, 66, 300, 90, 91, 92, 696, 697, 698, 699, 700, 374, 375, 376, 377, 378, 261, 379, 380, 701] (by decide +kernel) (by decide +kernel)
set_option maxRecDepth 20000 in
theorem gp_L171 : GoodIn wsL_law wsX10_commonMultiple_r4 := goodIn_r _ [370, 371, 372, 373, 285, 286, 287, 288, 723, 724, 725, 726, 727, 728, 729, 730, 206, 731, 365, 366, 367, 368, 260, 262] (by decide +kernel) (by decide +kernel)
set_option maxRecDepth 20000 in
theorem gp_L172 : GoodIn wsL_law wsX10_commonMultiple_r5 := goodIn_r _ [263, 264, 265, 732, 361, 362, 363, 364, 369, 381, 668, 669, 670, 671, 355, 356, 357, 358, 359, 360] (by decide +kernel) (by decide +kernel)
theorem ggL_law_X10_commonMultiple : GoodIn wsL_law wsX10_commonMultiple := goodIn_cons1 (gp_L167) (goodIn_app (goodIn_app (goodIn_app (goodIn_app (goodIn_app (goodIn_app (gp_L168) (goodIn_app (gp_L169) (goodIn_app (gp_L170) (goodIn_app (gp_L171) (gp_L172))))) (gp_L9)) (gp_L8)) (gp_L11)) (gp_L17)) (gp_L12))
set_option maxRecDepth 20000 in
theorem gL_law_X10_commonMultiple : GoodIn wsL_law (wsV RL 107 RX10 yX10_commonMultiple wsX10_commonMultiple) := goodIn_app (goodIn_of _ (by decide +kernel)) ggL_law_X10_commonMultiple
set_option maxRecDepth 20000 in
theorem gp_L173 : GoodIn wsL_law ([.code yX11_commonMultiple cX11_commonMultiple 7 (some .int)] : List Cond) := goodIn_r _ [736] (by decide +kernel) (by decide +kernel)
set_option maxRecDepth 20000 in
theorem gp_L174 : GoodIn wsL_law wsX11_commonMultiple_r1 := goodIn_r _ [386, 551, 155, 163, 152, 153, 706, 293, 294, 5, 295, 186, 187, 188, 388, 389, 390, 391, 147, 547, 548, 549, 550, 707] (by decide +kernel) (by decide +kernel)
set_option maxRecDepth 20000 in
theorem gp_L175 : GoodIn wsL_law wsX11_commonMultiple_r2 := goodIn_r _ [708, 709, 710, 162, 396, 397, 398, 399, 400, 401, 402, 403, 404, 405, 406, 407, 225, 226, 227, 228, 711, 712, 713, 714] (by decide +kernel) (by decide +kernel)
set_option maxRecDepth 20000 in
theorem gp_L176 : GoodIn wsL_law wsX11_commonMultiple_r3 := goodIn_r _ [715, 716, 717, 718, 392, 393, 394, 395, 387, 154, 676, 677, 678, 679] (by decide +kernel) (by decide +kernel)
theorem ggL_law_X11_commonMultiple : GoodIn wsL_law wsX11_commonMultiple := goodIn_cons1 (gp_L173) (goodIn_app (goodIn_app (gp_L174) (goodIn_app (gp_L175) (gp_L176))) (gp_L22))
set_option maxRecDepth 20000 in
theorem gL_law_X11_commonMultiple : GoodIn wsL_law (wsV RL 110 RX11 yX11_commonMultiple wsX11_commonMultiple) := goodIn_app (goodIn_of _ (by decide +kernel)) ggL_law_X11_commonMultiple
set_option maxRecDepth 20000 in
theorem gp_L177 : GoodIn wsL_law ([.code yX10_root cX10_root 3 (some .int)] : List Cond) := goodIn_r _ [740] (by decide +kernel) (by decide +kernel)
set_option maxRecDepth 20000 in
theorem gp_L178 : GoodIn wsL_law wsX10_root_r1 := goodIn_r _ [15, 282, 283, 2, 284, 632, 633, 634, 635, 26, 636, 637, 638, 639, 300, 90, 91, 25, 92, 93, 320, 321, 322, 323] (by decide +kernel) (by decide +kernel)
set_option maxRecDepth 20000 in
theorem gp_L179 : GoodIn wsL_law wsX10_root_r2 := goodIn_r _ [75, 640, 641, 642, 643, 572, 285, 286, 287, 288, 644, 645, 646, 647, 30, 336, 337, 338, 29, 339, 340, 341, 342, 110] (by decide +kernel) (by decide +kernel)
set_option maxRecDepth 20000 in
theorem gp_L180 : GoodIn wsL_law wsX10_root_r3 := goodIn_r _ [343, 86, 87, 88, 344, 345, 346, 347, 348, 107, 108, 349, 350, 351, 352, 109, 353, 198, 199, 54, 200, 84, 354, 207] (by decide +kernel) (by decide +kernel)
set_option maxRecDepth 20000 in
theorem gp_L181 : GoodIn wsL_law wsX10_root_r4 := goodIn_r _ [208, 209, 66, 535, 536, 537, 538, 369, 370, 371, 372, 373, 374, 375, 376, 377, 378, 261, 379, 380, 539, 540, 541, 542] (by decide +kernel) (by decide +kernel)
set_option maxRecDepth 20000 in
theorem gp_L182 : GoodIn wsL_law wsX10_root_r5 := goodIn_r _ [364, 365, 366, 367, 368, 260, 262, 263, 264, 265, 648, 649, 650, 651, 668, 669, 670, 671, 355, 356, 357, 358, 359, 360] (by decide +kernel) (by decide +kernel)
set_option maxRecDepth 20000 in
theorem gp_L183 : GoodIn wsL_law wsX10_root_r6 := goodIn_r _ [361, 362, 363, 381] (by decide +kernel) (by decide +kernel)
theorem ggL_law_X10_root : GoodIn wsL_law wsX10_root := goodIn_cons1 (gp_L177) (goodIn_app (goodIn_app (goodIn_app (goodIn_app (goodIn_app (goodIn_app (gp_L178) (goodIn_app (gp_L179) (goodIn_app (gp_L180) (goodIn_app (gp_L181) (goodIn_app (gp_L182) (gp_L183)))))) (gp_L9)) (gp_L8)) (gp_L11)) (gp_L17)) (gp_L12))
set_option maxRecDepth 20000 in
theorem gL_law_X10_root : GoodIn wsL_law (wsV RL 111 RX10 yX10_root wsX10_root) := goodIn_app (goodIn_of _ (by decide +kernel)) ggL_law_X10_root
set_option maxRecDepth 20000 in
theorem gp_L184 : GoodIn wsL_law ([.code yX11_root cX11_root 4 (some .int)] : List Cond) := goodIn_r _ [744] (by decide +kernel) (by decide +kernel)
set_option maxRecDepth 20000 in
theorem gp_L185 : GoodIn wsL_law wsX11_root_r1 := goodIn_r _ [147, 152, 386, 293, 294, 5, 295, 186, 187, 188, 656, 657, 658, 659, 660, 661, 662, 663, 156, 551, 153, 547, 548, 549] (by decide +kernel) (by decide +kernel)
set_option maxRecDepth 20000 in
theorem gp_L186 : GoodIn wsL_law wsX11_root_r2 := goodIn_r _ [550, 552, 553, 554, 555, 556, 557, 558, 559, 155, 396, 397, 398, 399, 400, 401, 402, 403, 404, 405, 406, 407, 225, 226] (by decide +kernel) (by decide +kernel)
set_option maxRecDepth 20000 in
theorem gp_L187 : GoodIn wsL_law wsX11_root_r3 := goodIn_r _ [227, 228, 392, 393, 394, 395, 387, 154, 676, 677, 678, 679] (by decide +kernel) (by decide +kernel)
theorem ggL_law_X11_root : GoodIn wsL_law wsX11_root := goodIn_cons1 (gp_L184) (goodIn_app (goodIn_app (gp_L185) (goodIn_app (gp_L186) (gp_L187))) (gp_L22))
set_option maxRecDepth 20000 in
theorem gL_law_X11_root : GoodIn wsL_law (wsV RL 114 RX11 yX11_root wsX11_root) := goodIn_app (goodIn_of _ (by decide +kernel)) ggL_law_X11_root
set_option maxRecDepth 20000 in
theorem gp_L188 : GoodIn wsL_law ([.code yX10_reverse cX10_reverse 5 (some .int)] : List Cond) := goodIn_r _ [748] (by decide +kernel) (by decide +kernel)
set_option maxRecDepth 20000 in
theorem gp_L189 : GoodIn wsL_law wsX10_reverse_r1 := goodIn_r _ [15, 26, 282, 283, 2, 284, 300, 90, 91, 25, 92, 93, 320, 321, 322, 323, 75, 285, 286, 287, 288, 668, 669, 670] (by decide +kernel) (by decide +kernel)
set_option maxRecDepth 20000 in
theorem gp_L190 : GoodIn wsL_law wsX10_reverse_r2 := goodIn_r _ [671, 30, 336, 337, 338, 29, 339, 340, 341, 342, 110, 343, 86, 87, 88, 344, 345, 346, 347, 348, 107, 108, 349, 350] (by decide +kernel) (by decide +kernel)
set_option maxRecDepth 20000 in
theorem gp_L191 : GoodIn wsL_law wsX10_reverse_r3 := goodIn_r _ [351, 352, 109, 353, 198, 199, 54, 200, 84, 354, 207, 208, 209, 66, 355, 356, 357, 358, 359, 360, 361, 362, 363, 364] (by decide +kernel) (by decide +kernel)
set_option maxRecDepth 20000 in
theorem gp_L192 : GoodIn wsL_law wsX10_reverse_r4 := goodIn_r _ [365, 366, 367, 368, 260, 261, 262, 263, 264, 265, 369, 370, 371, 372, 373, 374, 375, 376, 377, 378, 379, 380, 381] (by decide +kernel) (by decide +kernel)
theorem ggL_law_X10_reverse : GoodIn wsL_law wsX10_reverse := goodIn_cons1 (gp_L188) (goodIn_app (goodIn_app (goodIn_app (goodIn_app (goodIn_app (goodIn_app (gp_L189) (goodIn_app (gp_L190) (goodIn_app (gp_L191) (gp_L192)))) (gp_L9)) (gp_L8)) (gp_L11)) (gp_L17)) (gp_L12))
set_option maxRecDepth 20000 in
theorem gL_law_X10_reverse : GoodIn wsL_law (wsV RL 115 RX10 yX10_reverse wsX10_reverse) := goodIn_app (goodIn_of _ (by decide +kernel)) ggL_law_X10_reverse
set_option maxRecDepth 20000 in
theorem gp_L193 : GoodIn wsL_law ([.code yX11_reverse cX11_reverse 4 (some .int)] : List Cond) := goodIn_r _ [752] (by decide +kernel) (by decide +kernel)
set_option maxRecDepth 20000 in
theorem gp_L194 : GoodIn wsL_law wsX11_reverse_r1 := goodIn_r _ [386, 153, 152, 293, 294, 5, 295, 186, 187, 188, 388, 389, 390, 391, 147, 392, 393, 394, 395, 387, 155, 154, 396, 397] (by decide +kernel) (by decide +kernel)
set_option maxRecDepth 20000 in
theorem gp_L195 : GoodIn wsL_law wsX11_reverse_r2 := goodIn_r _ [398, 399, 400, 401, 402, 403, 404, 405, 406, 407, 225, 226, 227, 228, 676, 677, 678, 679] (by decide +kernel) (by decide +kernel)
theorem ggL_law_X11_reverse : GoodIn wsL_law wsX11_reverse := goodIn_cons1 (gp_L193) (goodIn_app (goodIn_app (gp_L194) (gp_L195)) (gp_L22))
set_option maxRecDepth 20000 in
theorem gL_law_X11_reverse : GoodIn wsL_law (wsV RL 118 RX11 yX11_reverse wsX11_reverse) := goodIn_app (goodIn_of _ (by decide +kernel)) ggL_law_X11_reverse
set_option maxRecDepth 20000 in
theorem gp_L196 : GoodIn wsL_law ([.code yX10_append cX10_append 2 (some .int)] : List Cond) := goodIn_r _ [756] (by decide +kernel) (by decide +kernel)
set_option maxRecDepth 20000 in
theorem gp_L197 : GoodIn wsL_law ([.fieldLink RX10 27 "CommutingWords" "text" "LCommutingWords$Text;", .methodLink RX10 211 yX7_push, .instanceMethod yX7_push, .selects RX7 yX7_push yX7_push, .initialized RX7, .code yX7_push cX7_push 2 none, .fieldLink RX7 15 "CommutingWords$Text" "size" "I", .fieldLink RX7 9 "CommutingWords$Text" "bytes" "[I"] : List Cond) := goodIn_r _ [22, 757, 758, 759, 21, 760, 761, 103] (by decide +kernel) (by decide +kernel)
theorem ggL_law_X10_append : GoodIn wsL_law wsX10_append := goodIn_cons1 (gp_L196) (goodIn_app (goodIn_app (gp_L197) (gp_L9)) (gp_L10))
set_option maxRecDepth 20000 in
theorem gL_law_X10_append : GoodIn wsL_law (wsV RL 119 RX10 yX10_append wsX10_append) := goodIn_app (goodIn_of _ (by decide +kernel)) ggL_law_X10_append
set_option maxRecDepth 20000 in
theorem gp_L198 : GoodIn wsL_law ([.code yX11_append cX11_append 2 (some .int)] : List Cond) := goodIn_r _ [765] (by decide +kernel) (by decide +kernel)
set_option maxRecDepth 20000 in
theorem gp_L199 : GoodIn wsL_law ([.fieldLink RX11 232 "CommutingWordsModel" "length" "I", .fieldLink RX11 20 "CommutingWordsModel" "text" "[I", .methodLink RX11 102 yX11_in, .static yX11_in, .initialized RX11, .code yX11_in cX11_in 3 (some .boolean)] : List Cond) := goodIn_r _ [766, 150, 186, 187, 5, 188] (by decide +kernel) (by decide +kernel)
theorem ggL_law_X11_append : GoodIn wsL_law wsX11_append := goodIn_cons1 (gp_L198) (goodIn_app (gp_L199) (gp_L22))
set_option maxRecDepth 20000 in
theorem gL_law_X11_append : GoodIn wsL_law (wsV RL 122 RX11 yX11_append wsX11_append) := goodIn_app (goodIn_of _ (by decide +kernel)) ggL_law_X11_append
set_option maxRecDepth 20000 in
theorem gp_L200 : GoodIn wsL_law ([.code yX10_clearText cX10_clearText 2 (some .int)] : List Cond) := goodIn_r _ [770] (by decide +kernel) (by decide +kernel)
set_option maxRecDepth 20000 in
theorem gp_L201 : GoodIn wsL_law ([.fieldLink RX10 27 "CommutingWords" "text" "LCommutingWords$Text;", .methodLink RX10 212 yX7_empty, .instanceMethod yX7_empty, .selects RX7 yX7_empty yX7_empty, .initialized RX7, .code yX7_empty cX7_empty 1 none, .fieldLink RX7 15 "CommutingWords$Text" "size" "I"] : List Cond) := goodIn_r _ [22, 771, 772, 773, 21, 774, 761] (by decide +kernel) (by decide +kernel)
theorem ggL_law_X10_clearText : GoodIn wsL_law wsX10_clearText := goodIn_cons1 (gp_L200) (goodIn_app (goodIn_app (gp_L201) (gp_L9)) (gp_L10))
set_option maxRecDepth 20000 in
theorem gL_law_X10_clearText : GoodIn wsL_law (wsV RL 123 RX10 yX10_clearText wsX10_clearText) := goodIn_app (goodIn_of _ (by decide +kernel)) ggL_law_X10_clearText
set_option maxRecDepth 20000 in
theorem gp_L202 : GoodIn wsL_law ([.code yX11_clearText cX11_clearText 2 (some .int)] : List Cond) := goodIn_r _ [778] (by decide +kernel) (by decide +kernel)
set_option maxRecDepth 20000 in
theorem gp_L203 : GoodIn wsL_law ([.fieldLink RX11 232 "CommutingWordsModel" "length" "I"] : List Cond) := goodIn_r _ [766] (by decide +kernel) (by decide +kernel)
theorem ggL_law_X11_clearText : GoodIn wsL_law wsX11_clearText := goodIn_cons1 (gp_L202) (goodIn_app (gp_L203) (gp_L22))
set_option maxRecDepth 20000 in
theorem gL_law_X11_clearText : GoodIn wsL_law (wsV RL 127 RX11 yX11_clearText wsX11_clearText) := goodIn_app (goodIn_of _ (by decide +kernel)) ggL_law_X11_clearText
set_option maxRecDepth 20000 in
theorem gp_L204 : GoodIn wsL_law ([.code yX10_faultPosition cX10_faultPosition 2 (some .int)] : List Cond) := goodIn_r _ [782] (by decide +kernel) (by decide +kernel)
set_option maxRecDepth 20000 in
theorem gp_L205 : GoodIn wsL_law ([.fieldLink RX10 27 "CommutingWords" "text" "LCommutingWords$Text;", .fieldLink RX10 12 "CommutingWords" "now" "LCommutingWords$Setting;", .methodLink RX10 213 yX7_faultAt, .instanceMethod yX7_faultAt, .selects RX7 yX7_faultAt yX7_faultAt, .initialized RX7, .code yX7_faultAt cX7_faultAt 6 (some .int), .fieldLink RX7 15 "CommutingWords$Text" "size" "I", .methodLink RX7 19 yX7_at, .instanceMethod yX7_at, .selects RX7 yX7_at yX7_at, .code yX7_at cX7_at 2 (some .int), .fieldLink RX7 9 "CommutingWords$Text" "bytes" "[I"] : List Cond) := goodIn_r _ [22, 15, 783, 784, 785, 21, 786, 761, 787, 788, 789, 790, 103] (by decide +kernel) (by decide +kernel)
theorem ggL_law_X10_faultPosition : GoodIn wsL_law wsX10_faultPosition := goodIn_cons1 (gp_L204) (goodIn_app (goodIn_app (goodIn_app (goodIn_app (gp_L205) (gp_L9)) (gp_L8)) (gp_L17)) (gp_L10))
set_option maxRecDepth 20000 in
theorem gL_law_X10_faultPosition : GoodIn wsL_law (wsV RL 128 RX10 yX10_faultPosition wsX10_faultPosition) := goodIn_app (goodIn_of _ (by decide +kernel)) ggL_law_X10_faultPosition
set_option maxRecDepth 20000 in
theorem gp_L206 : GoodIn wsL_law ([.code yX11_faultPosition cX11_faultPosition 2 (some .int)] : List Cond) := goodIn_r _ [794] (by decide +kernel) (by decide +kernel)
set_option maxRecDepth 20000 in
theorem gp_L207 : GoodIn wsL_law ([.methodLink RX11 238 yX11_fault, .instanceMethod yX11_fault, .selects RX11 yX11_fault yX11_fault, .initialized RX11, .code yX11_fault cX11_fault 6 (some .int), .fieldLink RX11 232 "CommutingWordsModel" "length" "I", .fieldLink RX11 20 "CommutingWordsModel" "text" "[I", .methodLink RX11 235 yX11_isAtomAt, .instanceMethod yX11_isAtomAt, .selects RX11 yX11_isAtomAt yX11_isAtomAt, .code yX11_isAtomAt cX11_isAtomAt 2 (some .boolean), .methodLink RX11 110 yX11_isLetter, .instanceMethod yX11_isLetter, .selects RX11 yX11_isLetter yX11_isLetter, .code yX11_isLetter cX11_isLetter 2 (some .boolean), .fieldLink RX11 7 "CommutingWordsModel" "v" "[I", .methodLink RX11 102 yX11_in, .static yX11_in, .code yX11_in cX11_in 3 (some .boolean)] : List Cond) := goodIn_r _ [795, 796, 797, 5, 798, 766, 150, 799, 800, 801, 802, 221, 222, 223, 224, 147, 186, 187, 188] (by decide +kernel) (by decide +kernel)
theorem ggL_law_X11_faultPosition : GoodIn wsL_law wsX11_faultPosition := goodIn_cons1 (gp_L206) (goodIn_app (gp_L207) (gp_L22))
set_option maxRecDepth 20000 in
theorem gL_law_X11_faultPosition : GoodIn wsL_law (wsV RL 131 RX11 yX11_faultPosition wsX11_faultPosition) := goodIn_app (goodIn_of _ (by decide +kernel)) ggL_law_X11_faultPosition
set_option maxRecDepth 20000 in
theorem gp_L208 : GoodIn wsL_law ([.code yX10_matches cX10_matches 2 (some .int)] : List Cond) := goodIn_r _ [806] (by decide +kernel) (by decide +kernel)
set_option maxRecDepth 20000 in
theorem gp_L209 : GoodIn wsL_law wsX10_matches_r1 := goodIn_r _ [43, 22, 15, 35, 47, 282, 283, 2, 284, 807, 808, 809, 42, 810, 811, 812, 813, 129, 126, 127, 128, 814, 784, 785] (by decide +kernel) (by decide +kernel)
set_option maxRecDepth 20000 in
theorem gp_L210 : GoodIn wsL_law wsX10_matches_r2 := goodIn_r _ [21, 786, 761, 787, 788, 789, 790, 103, 815, 816, 817, 818, 131, 132, 133, 819, 820, 821, 822, 823, 824, 825, 826, 827] (by decide +kernel) (by decide +kernel)
set_option maxRecDepth 20000 in
theorem gp_L211 : GoodIn wsL_law wsX10_matches_r3 := goodIn_r _ [828, 829, 830, 831, 832, 833, 834, 835, 836, 837, 838, 839, 840, 841, 842, 843, 844, 845, 846, 847, 848, 849, 850, 851] (by decide +kernel) (by decide +kernel)
set_option maxRecDepth 20000 in
theorem gp_L212 : GoodIn wsL_law wsX10_matches_r4 := goodIn_r _ [852, 853, 854, 855, 856, 464, 351, 465, 857, 858, 859, 860, 861, 862, 863, 864, 457, 458, 459, 34, 460, 115, 461, 462] (by decide +kernel) (by decide +kernel)
set_option maxRecDepth 20000 in
theorem gp_L213 : GoodIn wsL_law wsX10_matches_r5 := goodIn_r _ [117, 463, 116, 466, 337, 338, 29, 339, 340, 341, 342, 110, 343, 86, 87, 88, 344, 321, 322, 25, 323, 93, 75, 345] (by decide +kernel) (by decide +kernel)
set_option maxRecDepth 20000 in
theorem gp_L214 : GoodIn wsL_law wsX10_matches_r6 := goodIn_r _ [346, 347, 348, 107, 108, 349, 350, 352, 109, 353, 198, 199, 54, 200, 84, 354, 207, 208, 209, 66, 467, 468, 469, 470] (by decide +kernel) (by decide +kernel)
set_option maxRecDepth 20000 in
theorem gp_L215 : GoodIn wsL_law wsX10_matches_r7 := goodIn_r _ [368, 260, 261, 262, 263, 264, 265, 865, 866, 867, 46, 868, 141, 138, 869, 870, 871, 872, 873, 874, 875, 876, 877, 137] (by decide +kernel) (by decide +kernel)
set_option maxRecDepth 20000 in
theorem gp_L216 : GoodIn wsL_law wsX10_matches_r8 := goodIn_r _ [139, 140, 878, 879, 880, 881, 882, 883, 884, 885, 886, 887, 888, 889, 890, 891, 892, 893, 894, 895, 896, 897, 898, 899] (by decide +kernel) (by decide +kernel)
set_option maxRecDepth 20000 in
theorem gp_L217 : GoodIn wsL_law wsX10_matches_r9 := goodIn_r _ [900, 901, 902, 903, 904, 905, 906, 907, 908, 142, 909, 910, 911, 912, 913, 914, 915, 916, 477, 478, 479, 480, 481, 482] (by decide +kernel) (by decide +kernel)
set_option maxRecDepth 20000 in
theorem gp_L218 : GoodIn wsL_law wsX10_matches_r10 := goodIn_r _ [483, 484, 374, 375, 376, 377, 378, 379, 380, 214, 215, 216] (by decide +kernel) (by decide +kernel)
theorem ggL_law_X10_matches : GoodIn wsL_law wsX10_matches := goodIn_cons1 (gp_L208) (goodIn_app (goodIn_app (goodIn_app (goodIn_app (goodIn_app (goodIn_app (goodIn_app (goodIn_app (goodIn_app (goodIn_app (gp_L209) (goodIn_app (gp_L210) (goodIn_app (gp_L211) (goodIn_app (gp_L212) (goodIn_app (gp_L213) (goodIn_app (gp_L214) (goodIn_app (gp_L215) (goodIn_app (gp_L216) (goodIn_app (gp_L217) (gp_L218)))))))))) (gp_L9)) (gp_L8)) (gp_L17)) (gp_L15)) (gp_L10)) (gp_L13)) (gp_L12)) (gp_L11)) (gp_L16))
set_option maxRecDepth 20000 in
theorem gL_law_X10_matches : GoodIn wsL_law (wsV RL 132 RX10 yX10_matches wsX10_matches) := goodIn_app (goodIn_of _ (by decide +kernel)) ggL_law_X10_matches
set_option maxRecDepth 20000 in
theorem gp_L219 : GoodIn wsL_law ([.code yX11_matches cX11_matches 5 (some .int)] : List Cond) := goodIn_r _ [920] (by decide +kernel) (by decide +kernel)
set_option maxRecDepth 20000 in
theorem gp_L220 : GoodIn wsL_law wsX11_matches_r1 := goodIn_r _ [514, 172, 147, 171, 293, 294, 5, 295, 186, 187, 188, 795, 796, 797, 798, 766, 150, 799, 800, 801, 802, 221, 222, 223] (by decide +kernel) (by decide +kernel)
set_option maxRecDepth 20000 in
theorem gp_L221 : GoodIn wsL_law wsX11_matches_r2 := goodIn_r _ [224, 388, 389, 390, 391, 386, 152, 515, 516, 517, 518, 157, 159, 158, 921, 922, 923, 924, 925, 926, 927, 928, 929, 930] (by decide +kernel) (by decide +kernel)
set_option maxRecDepth 20000 in
theorem gp_L222 : GoodIn wsL_law wsX11_matches_r3 := goodIn_r _ [165, 931, 932, 933, 934, 164, 935, 936, 937, 938, 939, 940, 941, 942, 943, 170, 166, 167, 944, 945, 946, 947, 168, 169] (by decide +kernel) (by decide +kernel)
set_option maxRecDepth 20000 in
theorem gp_L223 : GoodIn wsL_law wsX11_matches_r4 := goodIn_r _ [948, 949, 950, 951, 952, 953, 954, 955, 956, 957, 958, 959, 960, 961, 962, 963, 173, 964, 965, 966, 967, 519, 520, 521] (by decide +kernel) (by decide +kernel)
set_option maxRecDepth 20000 in
theorem gp_L224 : GoodIn wsL_law wsX11_matches_r5 := goodIn_r _ [522, 523, 524, 525, 526, 225, 226, 227, 228, 968, 969, 970, 971] (by decide +kernel) (by decide +kernel)
theorem ggL_law_X11_matches : GoodIn wsL_law wsX11_matches := goodIn_cons1 (gp_L219) (goodIn_app (goodIn_app (gp_L220) (goodIn_app (gp_L221) (goodIn_app (gp_L222) (goodIn_app (gp_L223) (gp_L224))))) (gp_L22))
set_option maxRecDepth 20000 in
theorem gL_law_X11_matches : GoodIn wsL_law (wsV RL 135 RX11 yX11_matches wsX11_matches) := goodIn_app (goodIn_of _ (by decide +kernel)) ggL_law_X11_matches
set_option maxRecDepth 20000 in
theorem gp_L225 : GoodIn wsL_law ([.code yX10_starConnected cX10_starConnected 1 (some .int)] : List Cond) := goodIn_r _ [975] (by decide +kernel) (by decide +kernel)
set_option maxRecDepth 20000 in
theorem gp_L226 : GoodIn wsL_law wsX10_starConnected_r1 := goodIn_r _ [43, 22, 15, 807, 808, 809, 42, 810, 811, 812, 813, 129, 126, 127, 128, 814, 784, 785, 21, 786, 761, 787, 788, 789] (by decide +kernel) (by decide +kernel)
set_option maxRecDepth 20000 in
theorem gp_L227 : GoodIn wsL_law wsX10_starConnected_r2 := goodIn_r _ [790, 103, 815, 816, 817, 818, 131, 132, 133, 819, 820, 821, 822, 823, 824, 825, 826, 827, 828, 829, 830, 831, 832, 833] (by decide +kernel) (by decide +kernel)
set_option maxRecDepth 20000 in
theorem gp_L228 : GoodIn wsL_law wsX10_starConnected_r3 := goodIn_r _ [834, 835, 836, 837, 838, 839, 840, 841, 842, 843, 844, 845, 846, 847, 848, 849, 850, 851, 852, 853, 854, 855, 856, 464] (by decide +kernel) (by decide +kernel)
set_option maxRecDepth 20000 in
theorem gp_L229 : GoodIn wsL_law wsX10_starConnected_r4 := goodIn_r _ [351, 465, 857, 858, 859, 860, 861, 862, 863, 864, 976, 977, 978, 979, 980, 130, 981, 982, 983, 54, 984, 84, 985, 587] (by decide +kernel) (by decide +kernel)
set_option maxRecDepth 20000 in
theorem gp_L230 : GoodIn wsL_law wsX10_starConnected_r5 := goodIn_r _ [588, 589, 206, 207, 208, 209, 66, 986, 987, 988, 989, 990, 991, 992, 993, 994, 995, 996, 997, 998, 999, 1000, 1001, 1002] (by decide +kernel) (by decide +kernel)
set_option maxRecDepth 20000 in
theorem gp_L231 : GoodIn wsL_law wsX10_starConnected_r6 := goodIn_r _ [214, 215, 2, 216] (by decide +kernel) (by decide +kernel)
theorem ggL_law_X10_starConnected : GoodIn wsL_law wsX10_starConnected := goodIn_cons1 (gp_L225) (goodIn_app (goodIn_app (goodIn_app (goodIn_app (goodIn_app (goodIn_app (gp_L226) (goodIn_app (gp_L227) (goodIn_app (gp_L228) (goodIn_app (gp_L229) (goodIn_app (gp_L230) (gp_L231)))))) (gp_L9)) (gp_L8)) (gp_L17)) (gp_L15)) (gp_L10))
set_option maxRecDepth 20000 in
theorem gL_law_X10_starConnected : GoodIn wsL_law (wsV RL 136 RX10 yX10_starConnected wsX10_starConnected) := goodIn_app (goodIn_of _ (by decide +kernel)) ggL_law_X10_starConnected
