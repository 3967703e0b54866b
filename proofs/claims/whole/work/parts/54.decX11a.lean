theorem dX11_init_0 : decode cX11_init 0 = .ok (.aload_n 0, 1) := by decide +kernel
theorem dX11_init_1 : decode cX11_init 1 = .ok (.invokespecial 1, 3) := by decide +kernel
theorem dX11_init_4 : decode cX11_init 4 = .ok (.aload_n 0, 1) := by decide +kernel
theorem dX11_init_5 : decode cX11_init 5 = .ok (.sipush 147, 3) := by decide +kernel
theorem dX11_init_8 : decode cX11_init 8 = .ok (.newarray .int, 2) := by decide +kernel
theorem dX11_init_10 : decode cX11_init 10 = .ok (.putfield 7, 3) := by decide +kernel
theorem dX11_init_13 : decode cX11_init 13 = .ok (.aload_n 0, 1) := by decide +kernel
theorem dX11_init_14 : decode cX11_init 14 = .ok (.sipush 294, 3) := by decide +kernel
theorem dX11_init_17 : decode cX11_init 17 = .ok (.newarray .int, 2) := by decide +kernel
theorem dX11_init_19 : decode cX11_init 19 = .ok (.putfield 13, 3) := by decide +kernel
theorem dX11_init_22 : decode cX11_init 22 = .ok (.aload_n 0, 1) := by decide +kernel
theorem dX11_init_23 : decode cX11_init 23 = .ok (.iconst 2, 1) := by decide +kernel
theorem dX11_init_24 : decode cX11_init 24 = .ok (.newarray .boolean, 2) := by decide +kernel
theorem dX11_init_26 : decode cX11_init 26 = .ok (.putfield 16, 3) := by decide +kernel
theorem dX11_init_29 : decode cX11_init 29 = .ok (.aload_n 0, 1) := by decide +kernel
theorem dX11_init_30 : decode cX11_init 30 = .ok (.bipush 80, 2) := by decide +kernel
theorem dX11_init_32 : decode cX11_init 32 = .ok (.newarray .int, 2) := by decide +kernel
theorem dX11_init_34 : decode cX11_init 34 = .ok (.putfield 20, 3) := by decide +kernel
theorem dX11_init_37 : decode cX11_init 37 = .ok (.aload_n 0, 1) := by decide +kernel
theorem dX11_init_38 : decode cX11_init 38 = .ok (.bipush 17, 2) := by decide +kernel
theorem dX11_init_40 : decode cX11_init 40 = .ok (.newarray .long, 2) := by decide +kernel
theorem dX11_init_42 : decode cX11_init 42 = .ok (.putfield 23, 3) := by decide +kernel
theorem dX11_init_45 : decode cX11_init 45 = .ok (.aload_n 0, 1) := by decide +kernel
theorem dX11_init_46 : decode cX11_init 46 = .ok (.bipush 64, 2) := by decide +kernel
theorem dX11_init_48 : decode cX11_init 48 = .ok (.newarray .int, 2) := by decide +kernel
theorem dX11_init_50 : decode cX11_init 50 = .ok (.putfield 27, 3) := by decide +kernel
theorem dX11_init_53 : decode cX11_init 53 = .ok (.aload_n 0, 1) := by decide +kernel
theorem dX11_init_54 : decode cX11_init 54 = .ok (.bipush 64, 2) := by decide +kernel
theorem dX11_init_56 : decode cX11_init 56 = .ok (.newarray .int, 2) := by decide +kernel
theorem dX11_init_58 : decode cX11_init 58 = .ok (.putfield 30, 3) := by decide +kernel
theorem dX11_init_61 : decode cX11_init 61 = .ok (.aload_n 0, 1) := by decide +kernel
theorem dX11_init_62 : decode cX11_init 62 = .ok (.bipush 64, 2) := by decide +kernel
theorem dX11_init_64 : decode cX11_init 64 = .ok (.newarray .int, 2) := by decide +kernel
theorem dX11_init_66 : decode cX11_init 66 = .ok (.putfield 33, 3) := by decide +kernel
theorem dX11_init_69 : decode cX11_init 69 = .ok (.aload_n 0, 1) := by decide +kernel
theorem dX11_init_70 : decode cX11_init 70 = .ok (.bipush 64, 2) := by decide +kernel
theorem dX11_init_72 : decode cX11_init 72 = .ok (.newarray .boolean, 2) := by decide +kernel
theorem dX11_init_74 : decode cX11_init 74 = .ok (.putfield 36, 3) := by decide +kernel
theorem dX11_init_77 : decode cX11_init 77 = .ok (.aload_n 0, 1) := by decide +kernel
theorem dX11_init_78 : decode cX11_init 78 = .ok (.bipush 16, 2) := by decide +kernel
theorem dX11_init_80 : decode cX11_init 80 = .ok (.newarray .int, 2) := by decide +kernel
theorem dX11_init_82 : decode cX11_init 82 = .ok (.putfield 39, 3) := by decide +kernel
theorem dX11_init_85 : decode cX11_init 85 = .ok (.aload_n 0, 1) := by decide +kernel
theorem dX11_init_86 : decode cX11_init 86 = .ok (.bipush 6, 2) := by decide +kernel
theorem dX11_init_88 : decode cX11_init 88 = .ok (.newarray .int, 2) := by decide +kernel
theorem dX11_init_90 : decode cX11_init 90 = .ok (.putfield 42, 3) := by decide +kernel
theorem dX11_init_93 : decode cX11_init 93 = .ok (.aload_n 0, 1) := by decide +kernel
theorem dX11_init_94 : decode cX11_init 94 = .ok (.bipush 6, 2) := by decide +kernel
theorem dX11_init_96 : decode cX11_init 96 = .ok (.newarray .int, 2) := by decide +kernel
theorem dX11_init_98 : decode cX11_init 98 = .ok (.putfield 45, 3) := by decide +kernel
theorem dX11_init_101 : decode cX11_init 101 = .ok (.aload_n 0, 1) := by decide +kernel
theorem dX11_init_102 : decode cX11_init 102 = .ok (.sipush 576, 3) := by decide +kernel
theorem dX11_init_105 : decode cX11_init 105 = .ok (.newarray .int, 2) := by decide +kernel
theorem dX11_init_107 : decode cX11_init 107 = .ok (.putfield 48, 3) := by decide +kernel
theorem dX11_init_110 : decode cX11_init 110 = .ok (.aload_n 0, 1) := by decide +kernel
theorem dX11_init_111 : decode cX11_init 111 = .ok (.sipush 14400, 3) := by decide +kernel
theorem dX11_init_114 : decode cX11_init 114 = .ok (.newarray .long, 2) := by decide +kernel
theorem dX11_init_116 : decode cX11_init 116 = .ok (.putfield 51, 3) := by decide +kernel
theorem dX11_init_119 : decode cX11_init 119 = .ok (.aload_n 0, 1) := by decide +kernel
theorem dX11_init_120 : decode cX11_init 120 = .ok (.sipush 2400, 3) := by decide +kernel
theorem dX11_init_123 : decode cX11_init 123 = .ok (.newarray .boolean, 2) := by decide +kernel
theorem dX11_init_125 : decode cX11_init 125 = .ok (.putfield 54, 3) := by decide +kernel
theorem dX11_init_128 : decode cX11_init 128 = .ok (.aload_n 0, 1) := by decide +kernel
theorem dX11_init_129 : decode cX11_init 129 = .ok (.bipush 16, 2) := by decide +kernel
theorem dX11_init_131 : decode cX11_init 131 = .ok (.newarray .int, 2) := by decide +kernel
theorem dX11_init_133 : decode cX11_init 133 = .ok (.putfield 57, 3) := by decide +kernel
theorem dX11_init_136 : decode cX11_init 136 = .ok (.aload_n 0, 1) := by decide +kernel
theorem dX11_init_137 : decode cX11_init 137 = .ok (.bipush 64, 2) := by decide +kernel
theorem dX11_init_139 : decode cX11_init 139 = .ok (.newarray .boolean, 2) := by decide +kernel
theorem dX11_init_141 : decode cX11_init 141 = .ok (.putfield 60, 3) := by decide +kernel
theorem dX11_init_144 : decode cX11_init 144 = .ok (.aload_n 0, 1) := by decide +kernel
theorem dX11_init_145 : decode cX11_init 145 = .ok (.sipush 200, 3) := by decide +kernel
theorem dX11_init_148 : decode cX11_init 148 = .ok (.newarray .int, 2) := by decide +kernel
theorem dX11_init_150 : decode cX11_init 150 = .ok (.putfield 63, 3) := by decide +kernel
theorem dX11_init_153 : decode cX11_init 153 = .ok (.aload_n 0, 1) := by decide +kernel
theorem dX11_init_154 : decode cX11_init 154 = .ok (.sipush 200, 3) := by decide +kernel
theorem dX11_init_157 : decode cX11_init 157 = .ok (.newarray .int, 2) := by decide +kernel
theorem dX11_init_159 : decode cX11_init 159 = .ok (.putfield 66, 3) := by decide +kernel
theorem dX11_init_162 : decode cX11_init 162 = .ok (.aload_n 0, 1) := by decide +kernel
theorem dX11_init_163 : decode cX11_init 163 = .ok (.sipush 400, 3) := by decide +kernel
theorem dX11_init_166 : decode cX11_init 166 = .ok (.newarray .int, 2) := by decide +kernel
theorem dX11_init_168 : decode cX11_init 168 = .ok (.putfield 69, 3) := by decide +kernel
theorem dX11_init_171 : decode cX11_init 171 = .ok (.aload_n 0, 1) := by decide +kernel
theorem dX11_init_172 : decode cX11_init 172 = .ok (.sipush 400, 3) := by decide +kernel
theorem dX11_init_175 : decode cX11_init 175 = .ok (.newarray .int, 2) := by decide +kernel
theorem dX11_init_177 : decode cX11_init 177 = .ok (.putfield 72, 3) := by decide +kernel
theorem dX11_init_180 : decode cX11_init 180 = .ok (.aload_n 0, 1) := by decide +kernel
theorem dX11_init_181 : decode cX11_init 181 = .ok (.sipush 400, 3) := by decide +kernel
theorem dX11_init_184 : decode cX11_init 184 = .ok (.newarray .int, 2) := by decide +kernel
theorem dX11_init_186 : decode cX11_init 186 = .ok (.putfield 75, 3) := by decide +kernel
theorem dX11_init_189 : decode cX11_init 189 = .ok (.aload_n 0, 1) := by decide +kernel
theorem dX11_init_190 : decode cX11_init 190 = .ok (.sipush 400, 3) := by decide +kernel
theorem dX11_init_193 : decode cX11_init 193 = .ok (.newarray .int, 2) := by decide +kernel
theorem dX11_init_195 : decode cX11_init 195 = .ok (.putfield 78, 3) := by decide +kernel
theorem dX11_init_198 : decode cX11_init 198 = .ok (.aload_n 0, 1) := by decide +kernel
theorem dX11_init_199 : decode cX11_init 199 = .ok (.sipush 200, 3) := by decide +kernel
theorem dX11_init_202 : decode cX11_init 202 = .ok (.newarray .int, 2) := by decide +kernel
theorem dX11_init_204 : decode cX11_init 204 = .ok (.putfield 81, 3) := by decide +kernel
theorem dX11_init_207 : decode cX11_init 207 = .ok (.aload_n 0, 1) := by decide +kernel
theorem dX11_init_208 : decode cX11_init 208 = .ok (.sipush 200, 3) := by decide +kernel
theorem dX11_init_211 : decode cX11_init 211 = .ok (.newarray .int, 2) := by decide +kernel
theorem dX11_init_213 : decode cX11_init 213 = .ok (.putfield 84, 3) := by decide +kernel
theorem dX11_init_216 : decode cX11_init 216 = .ok (.aload_n 0, 1) := by decide +kernel
theorem dX11_init_217 : decode cX11_init 217 = .ok (.sipush 9600, 3) := by decide +kernel
theorem dX11_init_220 : decode cX11_init 220 = .ok (.newarray .long, 2) := by decide +kernel
theorem dX11_init_222 : decode cX11_init 222 = .ok (.putfield 87, 3) := by decide +kernel
theorem dX11_init_225 : decode cX11_init 225 = .ok (.aload_n 0, 1) := by decide +kernel
theorem dX11_init_226 : decode cX11_init 226 = .ok (.sipush 400, 3) := by decide +kernel
theorem dX11_init_229 : decode cX11_init 229 = .ok (.newarray .int, 2) := by decide +kernel
theorem dX11_init_231 : decode cX11_init 231 = .ok (.putfield 90, 3) := by decide +kernel
theorem dX11_init_234 : decode cX11_init 234 = .ok (.aload_n 0, 1) := by decide +kernel
theorem dX11_init_235 : decode cX11_init 235 = .ok (.sipush 200, 3) := by decide +kernel
theorem dX11_init_238 : decode cX11_init 238 = .ok (.newarray .long, 2) := by decide +kernel
theorem dX11_init_240 : decode cX11_init 240 = .ok (.putfield 93, 3) := by decide +kernel
theorem dX11_init_243 : decode cX11_init 243 = .ok (.aload_n 0, 1) := by decide +kernel
theorem dX11_init_244 : decode cX11_init 244 = .ok (.sipush 200, 3) := by decide +kernel
theorem dX11_init_247 : decode cX11_init 247 = .ok (.newarray .int, 2) := by decide +kernel
theorem dX11_init_249 : decode cX11_init 249 = .ok (.putfield 96, 3) := by decide +kernel
theorem dX11_init_252 : decode cX11_init 252 = .ok (.aload_n 0, 1) := by decide +kernel
theorem dX11_init_253 : decode cX11_init 253 = .ok (.bipush 36, 2) := by decide +kernel
theorem dX11_init_255 : decode cX11_init 255 = .ok (.newarray .boolean, 2) := by decide +kernel
theorem dX11_init_257 : decode cX11_init 257 = .ok (.putfield 99, 3) := by decide +kernel
theorem dX11_init_260 : decode cX11_init 260 = .ok (.aload_n 0, 1) := by decide +kernel
theorem dX11_init_261 : decode cX11_init 261 = .ok (.getfield 7, 3) := by decide +kernel
theorem dX11_init_264 : decode cX11_init 264 = .ok (.iconst 0, 1) := by decide +kernel
theorem dX11_init_265 : decode cX11_init 265 = .ok (.iconst 4, 1) := by decide +kernel
theorem dX11_init_266 : decode cX11_init 266 = .ok (.iastore, 1) := by decide +kernel
theorem dX11_init_267 : decode cX11_init 267 = .ok (.aload_n 0, 1) := by decide +kernel
theorem dX11_init_268 : decode cX11_init 268 = .ok (.getfield 7, 3) := by decide +kernel
theorem dX11_init_271 : decode cX11_init 271 = .ok (.bipush 109, 2) := by decide +kernel
theorem dX11_init_273 : decode cX11_init 273 = .ok (.iconst 1, 1) := by decide +kernel
theorem dX11_init_274 : decode cX11_init 274 = .ok (.iastore, 1) := by decide +kernel
theorem dX11_init_275 : decode cX11_init 275 = .ok (.return_, 1) := by decide +kernel
theorem dX11_in_0 : decode cX11_in 0 = .ok (.iload_n 0, 1) := by decide +kernel
theorem dX11_in_1 : decode cX11_in 1 = .ok (.iload_n 1, 1) := by decide +kernel
theorem dX11_in_2 : decode cX11_in 2 = .ok (.if_icmp .lt 12, 3) := by decide +kernel
theorem dX11_in_5 : decode cX11_in 5 = .ok (.iload_n 0, 1) := by decide +kernel
theorem dX11_in_6 : decode cX11_in 6 = .ok (.iload_n 2, 1) := by decide +kernel
theorem dX11_in_7 : decode cX11_in 7 = .ok (.if_icmp .gt 7, 3) := by decide +kernel
theorem dX11_in_10 : decode cX11_in 10 = .ok (.iconst 1, 1) := by decide +kernel
theorem dX11_in_11 : decode cX11_in 11 = .ok (.goto 4, 3) := by decide +kernel
theorem dX11_in_14 : decode cX11_in 14 = .ok (.iconst 0, 1) := by decide +kernel
theorem dX11_in_15 : decode cX11_in 15 = .ok (.ireturn, 1) := by decide +kernel
theorem dX11_size_0 : decode cX11_size 0 = .ok (.iconst 0, 1) := by decide +kernel
theorem dX11_size_1 : decode cX11_size 1 = .ok (.istore_n 1, 1) := by decide +kernel
theorem dX11_size_2 : decode cX11_size 2 = .ok (.iload_n 0, 1) := by decide +kernel
theorem dX11_size_3 : decode cX11_size 3 = .ok (.istore_n 2, 1) := by decide +kernel
theorem dX11_size_4 : decode cX11_size 4 = .ok (.iload_n 2, 1) := by decide +kernel
theorem dX11_size_5 : decode cX11_size 5 = .ok (.ifCond .eq 15, 3) := by decide +kernel
theorem dX11_size_8 : decode cX11_size 8 = .ok (.iinc 1 1, 3) := by decide +kernel
theorem dX11_size_11 : decode cX11_size 11 = .ok (.iload_n 2, 1) := by decide +kernel
theorem dX11_size_12 : decode cX11_size 12 = .ok (.iload_n 2, 1) := by decide +kernel
theorem dX11_size_13 : decode cX11_size 13 = .ok (.iconst 1, 1) := by decide +kernel
theorem dX11_size_14 : decode cX11_size 14 = .ok (.isub, 1) := by decide +kernel
theorem dX11_size_15 : decode cX11_size 15 = .ok (.iand, 1) := by decide +kernel
theorem dX11_size_16 : decode cX11_size 16 = .ok (.istore_n 2, 1) := by decide +kernel
theorem dX11_size_17 : decode cX11_size 17 = .ok (.goto (-13), 3) := by decide +kernel
theorem dX11_size_20 : decode cX11_size 20 = .ok (.iload_n 1, 1) := by decide +kernel
theorem dX11_size_21 : decode cX11_size 21 = .ok (.ireturn, 1) := by decide +kernel
set_option maxRecDepth 20000 in
theorem ggX11_isLetter_X11_in : GoodIn wsX11_isLetter wsX11_in := goodIn_r _ [5] (by decide +kernel) (by decide +kernel)
set_option maxRecDepth 20000 in
theorem gX11_isLetter_X11_in : GoodIn wsX11_isLetter (va_wsS RX11 102 yX11_in wsX11_in) := goodIn_app (goodIn_of _ (by decide +kernel)) ggX11_isLetter_X11_in
theorem dX11_isLetter_0 : decode cX11_isLetter 0 = .ok (.iload_n 1, 1) := by decide +kernel
theorem dX11_isLetter_1 : decode cX11_isLetter 1 = .ok (.iconst 0, 1) := by decide +kernel
theorem dX11_isLetter_2 : decode cX11_isLetter 2 = .ok (.aload_n 0, 1) := by decide +kernel
theorem dX11_isLetter_3 : decode cX11_isLetter 3 = .ok (.getfield 7, 3) := by decide +kernel
theorem dX11_isLetter_6 : decode cX11_isLetter 6 = .ok (.iconst 0, 1) := by decide +kernel
theorem dX11_isLetter_7 : decode cX11_isLetter 7 = .ok (.iaload, 1) := by decide +kernel
theorem dX11_isLetter_8 : decode cX11_isLetter 8 = .ok (.iconst 1, 1) := by decide +kernel
theorem dX11_isLetter_9 : decode cX11_isLetter 9 = .ok (.isub, 1) := by decide +kernel
theorem dX11_isLetter_10 : decode cX11_isLetter 10 = .ok (.invokestatic 102, 3) := by decide +kernel
theorem dX11_isLetter_13 : decode cX11_isLetter 13 = .ok (.ireturn, 1) := by decide +kernel
set_option maxRecDepth 20000 in
theorem ggX11_isWord_X11_in : GoodIn wsX11_isWord wsX11_in := goodIn_r _ [4] (by decide +kernel) (by decide +kernel)
set_option maxRecDepth 20000 in
theorem gX11_isWord_X11_in : GoodIn wsX11_isWord (va_wsS RX11 102 yX11_in wsX11_in) := goodIn_app (goodIn_of _ (by decide +kernel)) ggX11_isWord_X11_in
theorem dX11_isWord_0 : decode cX11_isWord 0 = .ok (.iload_n 0, 1) := by decide +kernel
theorem dX11_isWord_1 : decode cX11_isWord 1 = .ok (.iconst 0, 1) := by decide +kernel
theorem dX11_isWord_2 : decode cX11_isWord 2 = .ok (.iconst 5, 1) := by decide +kernel
theorem dX11_isWord_3 : decode cX11_isWord 3 = .ok (.invokestatic 102, 3) := by decide +kernel
theorem dX11_isWord_6 : decode cX11_isWord 6 = .ok (.ireturn, 1) := by decide +kernel
set_option maxRecDepth 20000 in
theorem ggX11_isState_X11_in : GoodIn wsX11_isState wsX11_in := goodIn_r _ [5] (by decide +kernel) (by decide +kernel)
set_option maxRecDepth 20000 in
theorem gX11_isState_X11_in : GoodIn wsX11_isState (va_wsS RX11 102 yX11_in wsX11_in) := goodIn_app (goodIn_of _ (by decide +kernel)) ggX11_isState_X11_in
theorem dX11_isState_0 : decode cX11_isState 0 = .ok (.iload_n 1, 1) := by decide +kernel
theorem dX11_isState_1 : decode cX11_isState 1 = .ok (.iconst 0, 1) := by decide +kernel
theorem dX11_isState_2 : decode cX11_isState 2 = .ok (.aload_n 0, 1) := by decide +kernel
theorem dX11_isState_3 : decode cX11_isState 3 = .ok (.getfield 7, 3) := by decide +kernel
theorem dX11_isState_6 : decode cX11_isState 6 = .ok (.bipush 109, 2) := by decide +kernel
theorem dX11_isState_8 : decode cX11_isState 8 = .ok (.iaload, 1) := by decide +kernel
theorem dX11_isState_9 : decode cX11_isState 9 = .ok (.iconst 1, 1) := by decide +kernel
theorem dX11_isState_10 : decode cX11_isState 10 = .ok (.isub, 1) := by decide +kernel
theorem dX11_isState_11 : decode cX11_isState 11 = .ok (.invokestatic 102, 3) := by decide +kernel
theorem dX11_isState_14 : decode cX11_isState 14 = .ok (.ireturn, 1) := by decide +kernel
theorem dX11_areFree_0 : decode cX11_areFree 0 = .ok (.aload_n 0, 1) := by decide +kernel
theorem dX11_areFree_1 : decode cX11_areFree 1 = .ok (.getfield 7, 3) := by decide +kernel
theorem dX11_areFree_4 : decode cX11_areFree 4 = .ok (.iconst 1, 1) := by decide +kernel
theorem dX11_areFree_5 : decode cX11_areFree 5 = .ok (.iload_n 1, 1) := by decide +kernel
theorem dX11_areFree_6 : decode cX11_areFree 6 = .ok (.iadd, 1) := by decide +kernel
theorem dX11_areFree_7 : decode cX11_areFree 7 = .ok (.iaload, 1) := by decide +kernel
theorem dX11_areFree_8 : decode cX11_areFree 8 = .ok (.iload_n 2, 1) := by decide +kernel
theorem dX11_areFree_9 : decode cX11_areFree 9 = .ok (.ishr, 1) := by decide +kernel
theorem dX11_areFree_10 : decode cX11_areFree 10 = .ok (.iconst 1, 1) := by decide +kernel
theorem dX11_areFree_11 : decode cX11_areFree 11 = .ok (.iand, 1) := by decide +kernel
theorem dX11_areFree_12 : decode cX11_areFree 12 = .ok (.iconst 1, 1) := by decide +kernel
theorem dX11_areFree_13 : decode cX11_areFree 13 = .ok (.if_icmp .ne 7, 3) := by decide +kernel
theorem dX11_areFree_16 : decode cX11_areFree 16 = .ok (.iconst 1, 1) := by decide +kernel
theorem dX11_areFree_17 : decode cX11_areFree 17 = .ok (.goto 4, 3) := by decide +kernel
theorem dX11_areFree_20 : decode cX11_areFree 20 = .ok (.iconst 0, 1) := by decide +kernel
theorem dX11_areFree_21 : decode cX11_areFree 21 = .ok (.ireturn, 1) := by decide +kernel
theorem dX11_beginsStates_0 : decode cX11_beginsStates 0 = .ok (.aload_n 0, 1) := by decide +kernel
theorem dX11_beginsStates_1 : decode cX11_beginsStates 1 = .ok (.getfield 7, 3) := by decide +kernel
theorem dX11_beginsStates_4 : decode cX11_beginsStates 4 = .ok (.bipush 109, 2) := by decide +kernel
theorem dX11_beginsStates_6 : decode cX11_beginsStates 6 = .ok (.iload_n 1, 1) := by decide +kernel
theorem dX11_beginsStates_7 : decode cX11_beginsStates 7 = .ok (.iastore, 1) := by decide +kernel
theorem dX11_beginsStates_8 : decode cX11_beginsStates 8 = .ok (.aload_n 0, 1) := by decide +kernel
theorem dX11_beginsStates_9 : decode cX11_beginsStates 9 = .ok (.getfield 7, 3) := by decide +kernel
theorem dX11_beginsStates_12 : decode cX11_beginsStates 12 = .ok (.sipush 146, 3) := by decide +kernel
theorem dX11_beginsStates_15 : decode cX11_beginsStates 15 = .ok (.iconst 0, 1) := by decide +kernel
theorem dX11_beginsStates_16 : decode cX11_beginsStates 16 = .ok (.iastore, 1) := by decide +kernel
theorem dX11_beginsStates_17 : decode cX11_beginsStates 17 = .ok (.iconst 0, 1) := by decide +kernel
theorem dX11_beginsStates_18 : decode cX11_beginsStates 18 = .ok (.istore_n 2, 1) := by decide +kernel
theorem dX11_beginsStates_19 : decode cX11_beginsStates 19 = .ok (.iload_n 2, 1) := by decide +kernel
theorem dX11_beginsStates_20 : decode cX11_beginsStates 20 = .ok (.bipush 36, 2) := by decide +kernel
theorem dX11_beginsStates_22 : decode cX11_beginsStates 22 = .ok (.if_icmp .ge 22, 3) := by decide +kernel
theorem dX11_beginsStates_25 : decode cX11_beginsStates 25 = .ok (.aload_n 0, 1) := by decide +kernel
theorem dX11_beginsStates_26 : decode cX11_beginsStates 26 = .ok (.getfield 7, 3) := by decide +kernel
theorem dX11_beginsStates_29 : decode cX11_beginsStates 29 = .ok (.bipush 110, 2) := by decide +kernel
theorem dX11_beginsStates_31 : decode cX11_beginsStates 31 = .ok (.iload_n 2, 1) := by decide +kernel
theorem dX11_beginsStates_32 : decode cX11_beginsStates 32 = .ok (.iadd, 1) := by decide +kernel
theorem dX11_beginsStates_33 : decode cX11_beginsStates 33 = .ok (.iload_n 2, 1) := by decide +kernel
theorem dX11_beginsStates_34 : decode cX11_beginsStates 34 = .ok (.bipush 6, 2) := by decide +kernel
theorem dX11_beginsStates_36 : decode cX11_beginsStates 36 = .ok (.idiv, 1) := by decide +kernel
theorem dX11_beginsStates_37 : decode cX11_beginsStates 37 = .ok (.iastore, 1) := by decide +kernel
theorem dX11_beginsStates_38 : decode cX11_beginsStates 38 = .ok (.iinc 2 1, 3) := by decide +kernel
theorem dX11_beginsStates_41 : decode cX11_beginsStates 41 = .ok (.goto (-22), 3) := by decide +kernel
theorem dX11_beginsStates_44 : decode cX11_beginsStates 44 = .ok (.return_, 1) := by decide +kernel
set_option maxRecDepth 20000 in
theorem ggX11_setLetters_X11_in : GoodIn wsX11_setLetters wsX11_in := goodIn_r _ [5] (by decide +kernel) (by decide +kernel)
set_option maxRecDepth 20000 in
theorem gX11_setLetters_X11_in : GoodIn wsX11_setLetters (va_wsS RX11 102 yX11_in wsX11_in) := goodIn_app (goodIn_of _ (by decide +kernel)) ggX11_setLetters_X11_in
set_option maxRecDepth 20000 in
theorem ggX11_setLetters_X11_beginsStates : GoodIn wsX11_setLetters wsX11_beginsStates := goodIn_r _ [9, 1, 10, 11, 12, 13, 14, 15, 16, 17, 18, 19, 20, 21, 22, 23, 24, 25, 26, 27, 28, 29, 30, 31, 32, 33, 34, 35, 36, 37, 38, 39, 40, 41, 42, 43, 44, 45, 46, 47, 48] (by decide +kernel) (by decide +kernel)
set_option maxRecDepth 20000 in
theorem gX11_setLetters_X11_beginsStates : GoodIn wsX11_setLetters (wsV RX11 106 RX11 yX11_beginsStates wsX11_beginsStates) := goodIn_app (goodIn_of _ (by decide +kernel)) ggX11_setLetters_X11_beginsStates
theorem dX11_setLetters_0 : decode cX11_setLetters 0 = .ok (.iload_n 1, 1) := by decide +kernel
theorem dX11_setLetters_1 : decode cX11_setLetters 1 = .ok (.iconst 2, 1) := by decide +kernel
theorem dX11_setLetters_2 : decode cX11_setLetters 2 = .ok (.bipush 6, 2) := by decide +kernel
theorem dX11_setLetters_4 : decode cX11_setLetters 4 = .ok (.invokestatic 102, 3) := by decide +kernel
theorem dX11_setLetters_7 : decode cX11_setLetters 7 = .ok (.ifCond .ne 6, 3) := by decide +kernel
theorem dX11_setLetters_10 : decode cX11_setLetters 10 = .ok (.bipush (-2), 2) := by decide +kernel
theorem dX11_setLetters_12 : decode cX11_setLetters 12 = .ok (.ireturn, 1) := by decide +kernel
theorem dX11_setLetters_13 : decode cX11_setLetters 13 = .ok (.aload_n 0, 1) := by decide +kernel
theorem dX11_setLetters_14 : decode cX11_setLetters 14 = .ok (.getfield 7, 3) := by decide +kernel
theorem dX11_setLetters_17 : decode cX11_setLetters 17 = .ok (.iconst 0, 1) := by decide +kernel
theorem dX11_setLetters_18 : decode cX11_setLetters 18 = .ok (.iaload, 1) := by decide +kernel
theorem dX11_setLetters_19 : decode cX11_setLetters 19 = .ok (.istore_n 2, 1) := by decide +kernel
theorem dX11_setLetters_20 : decode cX11_setLetters 20 = .ok (.aload_n 0, 1) := by decide +kernel
theorem dX11_setLetters_21 : decode cX11_setLetters 21 = .ok (.getfield 7, 3) := by decide +kernel
theorem dX11_setLetters_24 : decode cX11_setLetters 24 = .ok (.iconst 0, 1) := by decide +kernel
theorem dX11_setLetters_25 : decode cX11_setLetters 25 = .ok (.iload_n 1, 1) := by decide +kernel
theorem dX11_setLetters_26 : decode cX11_setLetters 26 = .ok (.iastore, 1) := by decide +kernel
theorem dX11_setLetters_27 : decode cX11_setLetters 27 = .ok (.iconst 0, 1) := by decide +kernel
theorem dX11_setLetters_28 : decode cX11_setLetters 28 = .ok (.istore_n 3, 1) := by decide +kernel
theorem dX11_setLetters_29 : decode cX11_setLetters 29 = .ok (.iload_n 3, 1) := by decide +kernel
theorem dX11_setLetters_30 : decode cX11_setLetters 30 = .ok (.bipush 6, 2) := by decide +kernel
theorem dX11_setLetters_32 : decode cX11_setLetters 32 = .ok (.if_icmp .ge 28, 3) := by decide +kernel
theorem dX11_setLetters_35 : decode cX11_setLetters 35 = .ok (.aload_n 0, 1) := by decide +kernel
theorem dX11_setLetters_36 : decode cX11_setLetters 36 = .ok (.getfield 7, 3) := by decide +kernel
theorem dX11_setLetters_39 : decode cX11_setLetters 39 = .ok (.iconst 1, 1) := by decide +kernel
theorem dX11_setLetters_40 : decode cX11_setLetters 40 = .ok (.iload_n 3, 1) := by decide +kernel
theorem dX11_setLetters_41 : decode cX11_setLetters 41 = .ok (.iadd, 1) := by decide +kernel
theorem dX11_setLetters_42 : decode cX11_setLetters 42 = .ok (.iconst 0, 1) := by decide +kernel
theorem dX11_setLetters_43 : decode cX11_setLetters 43 = .ok (.iastore, 1) := by decide +kernel
theorem dX11_setLetters_44 : decode cX11_setLetters 44 = .ok (.aload_n 0, 1) := by decide +kernel
theorem dX11_setLetters_45 : decode cX11_setLetters 45 = .ok (.getfield 7, 3) := by decide +kernel
theorem dX11_setLetters_48 : decode cX11_setLetters 48 = .ok (.bipush 7, 2) := by decide +kernel
theorem dX11_setLetters_50 : decode cX11_setLetters 50 = .ok (.iload_n 3, 1) := by decide +kernel
theorem dX11_setLetters_51 : decode cX11_setLetters 51 = .ok (.iadd, 1) := by decide +kernel
theorem dX11_setLetters_52 : decode cX11_setLetters 52 = .ok (.iconst 0, 1) := by decide +kernel
theorem dX11_setLetters_53 : decode cX11_setLetters 53 = .ok (.iastore, 1) := by decide +kernel
theorem dX11_setLetters_54 : decode cX11_setLetters 54 = .ok (.iinc 3 1, 3) := by decide +kernel
theorem dX11_setLetters_57 : decode cX11_setLetters 57 = .ok (.goto (-28), 3) := by decide +kernel
theorem dX11_setLetters_60 : decode cX11_setLetters 60 = .ok (.aload_n 0, 1) := by decide +kernel
theorem dX11_setLetters_61 : decode cX11_setLetters 61 = .ok (.iconst 1, 1) := by decide +kernel
theorem dX11_setLetters_62 : decode cX11_setLetters 62 = .ok (.invokevirtual 106, 3) := by decide +kernel
theorem dX11_setLetters_65 : decode cX11_setLetters 65 = .ok (.iload_n 2, 1) := by decide +kernel
theorem dX11_setLetters_66 : decode cX11_setLetters 66 = .ok (.ireturn, 1) := by decide +kernel
theorem dX11_frees_0 : decode cX11_frees 0 = .ok (.iconst 1, 1) := by decide +kernel
theorem dX11_frees_1 : decode cX11_frees 1 = .ok (.iload_n 2, 1) := by decide +kernel
theorem dX11_frees_2 : decode cX11_frees 2 = .ok (.ishl, 1) := by decide +kernel
theorem dX11_frees_3 : decode cX11_frees 3 = .ok (.istore 4, 2) := by decide +kernel
theorem dX11_frees_5 : decode cX11_frees 5 = .ok (.aload_n 0, 1) := by decide +kernel
theorem dX11_frees_6 : decode cX11_frees 6 = .ok (.getfield 7, 3) := by decide +kernel
theorem dX11_frees_9 : decode cX11_frees 9 = .ok (.iconst 1, 1) := by decide +kernel
theorem dX11_frees_10 : decode cX11_frees 10 = .ok (.iload_n 1, 1) := by decide +kernel
theorem dX11_frees_11 : decode cX11_frees 11 = .ok (.iadd, 1) := by decide +kernel
theorem dX11_frees_12 : decode cX11_frees 12 = .ok (.iload_n 3, 1) := by decide +kernel
theorem dX11_frees_13 : decode cX11_frees 13 = .ok (.ifCond .eq 17, 3) := by decide +kernel
theorem dX11_frees_16 : decode cX11_frees 16 = .ok (.aload_n 0, 1) := by decide +kernel
theorem dX11_frees_17 : decode cX11_frees 17 = .ok (.getfield 7, 3) := by decide +kernel
theorem dX11_frees_20 : decode cX11_frees 20 = .ok (.iconst 1, 1) := by decide +kernel
theorem dX11_frees_21 : decode cX11_frees 21 = .ok (.iload_n 1, 1) := by decide +kernel
theorem dX11_frees_22 : decode cX11_frees 22 = .ok (.iadd, 1) := by decide +kernel
theorem dX11_frees_23 : decode cX11_frees 23 = .ok (.iaload, 1) := by decide +kernel
theorem dX11_frees_24 : decode cX11_frees 24 = .ok (.iload 4, 2) := by decide +kernel
theorem dX11_frees_26 : decode cX11_frees 26 = .ok (.ior, 1) := by decide +kernel
theorem dX11_frees_27 : decode cX11_frees 27 = .ok (.goto 16, 3) := by decide +kernel
theorem dX11_frees_30 : decode cX11_frees 30 = .ok (.aload_n 0, 1) := by decide +kernel
theorem dX11_frees_31 : decode cX11_frees 31 = .ok (.getfield 7, 3) := by decide +kernel
theorem dX11_frees_34 : decode cX11_frees 34 = .ok (.iconst 1, 1) := by decide +kernel
theorem dX11_frees_35 : decode cX11_frees 35 = .ok (.iload_n 1, 1) := by decide +kernel
theorem dX11_frees_36 : decode cX11_frees 36 = .ok (.iadd, 1) := by decide +kernel
theorem dX11_frees_37 : decode cX11_frees 37 = .ok (.iaload, 1) := by decide +kernel
theorem dX11_frees_38 : decode cX11_frees 38 = .ok (.iload 4, 2) := by decide +kernel
theorem dX11_frees_40 : decode cX11_frees 40 = .ok (.iconst (-1), 1) := by decide +kernel
theorem dX11_frees_41 : decode cX11_frees 41 = .ok (.ixor, 1) := by decide +kernel
theorem dX11_frees_42 : decode cX11_frees 42 = .ok (.iand, 1) := by decide +kernel
theorem dX11_frees_43 : decode cX11_frees 43 = .ok (.iastore, 1) := by decide +kernel
theorem dX11_frees_44 : decode cX11_frees 44 = .ok (.return_, 1) := by decide +kernel
set_option maxRecDepth 20000 in
theorem ggX11_setIndependent_X11_isLetter : GoodIn wsX11_setIndependent wsX11_isLetter := goodIn_r _ [5, 6, 7, 8, 4, 9, 18, 19, 20, 21, 22, 23, 24, 25, 26, 27, 28, 29, 30, 31, 32, 33, 34, 35, 36, 37, 38, 39, 40, 41, 42, 43, 44, 45, 46, 47, 48, 49, 50, 51, 52, 53, 54, 55, 56] (by decide +kernel) (by decide +kernel)
set_option maxRecDepth 20000 in
theorem gX11_setIndependent_X11_isLetter : GoodIn wsX11_setIndependent (wsV RX11 110 RX11 yX11_isLetter wsX11_isLetter) := goodIn_app (goodIn_of _ (by decide +kernel)) ggX11_setIndependent_X11_isLetter
set_option maxRecDepth 20000 in
theorem ggX11_setIndependent_X11_areFree : GoodIn wsX11_setIndependent wsX11_areFree := goodIn_r _ [13, 6, 18, 19, 20, 21, 22, 23, 24, 25, 26, 27, 28, 29, 30, 31, 32, 33, 34, 35, 36, 37, 38, 39, 40, 41, 42, 43, 44, 45, 46, 47, 48, 49, 50, 51, 52, 53, 54, 55, 56] (by decide +kernel) (by decide +kernel)
set_option maxRecDepth 20000 in
theorem gX11_setIndependent_X11_areFree : GoodIn wsX11_setIndependent (wsV RX11 114 RX11 yX11_areFree wsX11_areFree) := goodIn_app (goodIn_of _ (by decide +kernel)) ggX11_setIndependent_X11_areFree
set_option maxRecDepth 20000 in
theorem ggX11_setIndependent_X11_frees : GoodIn wsX11_setIndependent wsX11_frees := goodIn_r _ [17, 6, 18, 19, 20, 21, 22, 23, 24, 25, 26, 27, 28, 29, 30, 31, 32, 33, 34, 35, 36, 37, 38, 39, 40, 41, 42, 43, 44, 45, 46, 47, 48, 49, 50, 51, 52, 53, 54, 55, 56] (by decide +kernel) (by decide +kernel)
set_option maxRecDepth 20000 in
theorem gX11_setIndependent_X11_frees : GoodIn wsX11_setIndependent (wsV RX11 118 RX11 yX11_frees wsX11_frees) := goodIn_app (goodIn_of _ (by decide +kernel)) ggX11_setIndependent_X11_frees
theorem dX11_setIndependent_0 : decode cX11_setIndependent 0 = .ok (.aload_n 0, 1) := by decide +kernel
theorem dX11_setIndependent_1 : decode cX11_setIndependent 1 = .ok (.iload_n 1, 1) := by decide +kernel
theorem dX11_setIndependent_2 : decode cX11_setIndependent 2 = .ok (.invokevirtual 110, 3) := by decide +kernel
theorem dX11_setIndependent_5 : decode cX11_setIndependent 5 = .ok (.ifCond .eq 16, 3) := by decide +kernel
theorem dX11_setIndependent_8 : decode cX11_setIndependent 8 = .ok (.aload_n 0, 1) := by decide +kernel
theorem dX11_setIndependent_9 : decode cX11_setIndependent 9 = .ok (.iload_n 2, 1) := by decide +kernel
theorem dX11_setIndependent_10 : decode cX11_setIndependent 10 = .ok (.invokevirtual 110, 3) := by decide +kernel
theorem dX11_setIndependent_13 : decode cX11_setIndependent 13 = .ok (.ifCond .eq 8, 3) := by decide +kernel
theorem dX11_setIndependent_16 : decode cX11_setIndependent 16 = .ok (.iload_n 1, 1) := by decide +kernel
theorem dX11_setIndependent_17 : decode cX11_setIndependent 17 = .ok (.iload_n 2, 1) := by decide +kernel
theorem dX11_setIndependent_18 : decode cX11_setIndependent 18 = .ok (.if_icmp .ne 5, 3) := by decide +kernel
theorem dX11_setIndependent_21 : decode cX11_setIndependent 21 = .ok (.iconst (-1), 1) := by decide +kernel
theorem dX11_setIndependent_22 : decode cX11_setIndependent 22 = .ok (.ireturn, 1) := by decide +kernel
theorem dX11_setIndependent_23 : decode cX11_setIndependent 23 = .ok (.aload_n 0, 1) := by decide +kernel
theorem dX11_setIndependent_24 : decode cX11_setIndependent 24 = .ok (.iload_n 1, 1) := by decide +kernel
theorem dX11_setIndependent_25 : decode cX11_setIndependent 25 = .ok (.iload_n 2, 1) := by decide +kernel
theorem dX11_setIndependent_26 : decode cX11_setIndependent 26 = .ok (.invokevirtual 114, 3) := by decide +kernel
theorem dX11_setIndependent_29 : decode cX11_setIndependent 29 = .ok (.ifCond .eq 7, 3) := by decide +kernel
theorem dX11_setIndependent_32 : decode cX11_setIndependent 32 = .ok (.iconst 1, 1) := by decide +kernel
theorem dX11_setIndependent_33 : decode cX11_setIndependent 33 = .ok (.goto 4, 3) := by decide +kernel
theorem dX11_setIndependent_36 : decode cX11_setIndependent 36 = .ok (.iconst 0, 1) := by decide +kernel
theorem dX11_setIndependent_37 : decode cX11_setIndependent 37 = .ok (.istore 4, 2) := by decide +kernel
theorem dX11_setIndependent_39 : decode cX11_setIndependent 39 = .ok (.aload_n 0, 1) := by decide +kernel
theorem dX11_setIndependent_40 : decode cX11_setIndependent 40 = .ok (.iload_n 1, 1) := by decide +kernel
theorem dX11_setIndependent_41 : decode cX11_setIndependent 41 = .ok (.iload_n 2, 1) := by decide +kernel
theorem dX11_setIndependent_42 : decode cX11_setIndependent 42 = .ok (.iload_n 3, 1) := by decide +kernel
theorem dX11_setIndependent_43 : decode cX11_setIndependent 43 = .ok (.invokevirtual 118, 3) := by decide +kernel
theorem dX11_setIndependent_46 : decode cX11_setIndependent 46 = .ok (.aload_n 0, 1) := by decide +kernel
theorem dX11_setIndependent_47 : decode cX11_setIndependent 47 = .ok (.iload_n 2, 1) := by decide +kernel
theorem dX11_setIndependent_48 : decode cX11_setIndependent 48 = .ok (.iload_n 1, 1) := by decide +kernel
theorem dX11_setIndependent_49 : decode cX11_setIndependent 49 = .ok (.iload_n 3, 1) := by decide +kernel
theorem dX11_setIndependent_50 : decode cX11_setIndependent 50 = .ok (.invokevirtual 118, 3) := by decide +kernel
theorem dX11_setIndependent_53 : decode cX11_setIndependent 53 = .ok (.iload 4, 2) := by decide +kernel
theorem dX11_setIndependent_55 : decode cX11_setIndependent 55 = .ok (.ireturn, 1) := by decide +kernel
set_option maxRecDepth 20000 in
theorem ggX11_independent_X11_isLetter : GoodIn wsX11_independent wsX11_isLetter := goodIn_r _ [6, 1, 7, 8, 5, 9, 10, 11, 12, 13, 14, 15, 16, 17, 18, 19, 20, 21, 22, 23, 24, 25, 26, 27, 28, 29, 30, 31, 32, 33, 34, 35, 36, 37, 38, 39, 40, 41, 42, 43, 44, 45, 46, 47, 48] (by decide +kernel) (by decide +kernel)
set_option maxRecDepth 20000 in
theorem gX11_independent_X11_isLetter : GoodIn wsX11_independent (wsV RX11 110 RX11 yX11_isLetter wsX11_isLetter) := goodIn_app (goodIn_of _ (by decide +kernel)) ggX11_independent_X11_isLetter
theorem dX11_independent_0 : decode cX11_independent 0 = .ok (.aload_n 0, 1) := by decide +kernel
theorem dX11_independent_1 : decode cX11_independent 1 = .ok (.iload_n 1, 1) := by decide +kernel
theorem dX11_independent_2 : decode cX11_independent 2 = .ok (.invokevirtual 110, 3) := by decide +kernel
theorem dX11_independent_5 : decode cX11_independent 5 = .ok (.ifCond .eq 14, 3) := by decide +kernel
theorem dX11_independent_8 : decode cX11_independent 8 = .ok (.aload_n 0, 1) := by decide +kernel
theorem dX11_independent_9 : decode cX11_independent 9 = .ok (.getfield 7, 3) := by decide +kernel
theorem dX11_independent_12 : decode cX11_independent 12 = .ok (.iconst 1, 1) := by decide +kernel
theorem dX11_independent_13 : decode cX11_independent 13 = .ok (.iload_n 1, 1) := by decide +kernel
theorem dX11_independent_14 : decode cX11_independent 14 = .ok (.iadd, 1) := by decide +kernel
theorem dX11_independent_15 : decode cX11_independent 15 = .ok (.iaload, 1) := by decide +kernel
theorem dX11_independent_16 : decode cX11_independent 16 = .ok (.goto 4, 3) := by decide +kernel
theorem dX11_independent_19 : decode cX11_independent 19 = .ok (.iconst (-1), 1) := by decide +kernel
theorem dX11_independent_20 : decode cX11_independent 20 = .ok (.ireturn, 1) := by decide +kernel
theorem dX11_areAllFree_0 : decode cX11_areAllFree 0 = .ok (.iconst 1, 1) := by decide +kernel
theorem dX11_areAllFree_1 : decode cX11_areAllFree 1 = .ok (.istore_n 2, 1) := by decide +kernel
theorem dX11_areAllFree_2 : decode cX11_areAllFree 2 = .ok (.iconst 0, 1) := by decide +kernel
theorem dX11_areAllFree_3 : decode cX11_areAllFree 3 = .ok (.istore_n 3, 1) := by decide +kernel
theorem dX11_areAllFree_4 : decode cX11_areAllFree 4 = .ok (.iload_n 3, 1) := by decide +kernel
theorem dX11_areAllFree_5 : decode cX11_areAllFree 5 = .ok (.aload_n 0, 1) := by decide +kernel
theorem dX11_areAllFree_6 : decode cX11_areAllFree 6 = .ok (.getfield 7, 3) := by decide +kernel
theorem dX11_areAllFree_9 : decode cX11_areAllFree 9 = .ok (.iconst 0, 1) := by decide +kernel
theorem dX11_areAllFree_10 : decode cX11_areAllFree 10 = .ok (.iaload, 1) := by decide +kernel
theorem dX11_areAllFree_11 : decode cX11_areAllFree 11 = .ok (.if_icmp .ge 52, 3) := by decide +kernel
theorem dX11_areAllFree_14 : decode cX11_areAllFree 14 = .ok (.iload_n 1, 1) := by decide +kernel
theorem dX11_areAllFree_15 : decode cX11_areAllFree 15 = .ok (.iconst 1, 1) := by decide +kernel
theorem dX11_areAllFree_16 : decode cX11_areAllFree 16 = .ok (.iload_n 3, 1) := by decide +kernel
theorem dX11_areAllFree_17 : decode cX11_areAllFree 17 = .ok (.ishl, 1) := by decide +kernel
theorem dX11_areAllFree_18 : decode cX11_areAllFree 18 = .ok (.iconst (-1), 1) := by decide +kernel
theorem dX11_areAllFree_19 : decode cX11_areAllFree 19 = .ok (.ixor, 1) := by decide +kernel
theorem dX11_areAllFree_20 : decode cX11_areAllFree 20 = .ok (.iand, 1) := by decide +kernel
theorem dX11_areAllFree_21 : decode cX11_areAllFree 21 = .ok (.istore 4, 2) := by decide +kernel
theorem dX11_areAllFree_23 : decode cX11_areAllFree 23 = .ok (.iload_n 2, 1) := by decide +kernel
theorem dX11_areAllFree_24 : decode cX11_areAllFree 24 = .ok (.ifCond .eq 31, 3) := by decide +kernel
theorem dX11_areAllFree_27 : decode cX11_areAllFree 27 = .ok (.iload_n 1, 1) := by decide +kernel
theorem dX11_areAllFree_28 : decode cX11_areAllFree 28 = .ok (.iload_n 3, 1) := by decide +kernel
theorem dX11_areAllFree_29 : decode cX11_areAllFree 29 = .ok (.ishr, 1) := by decide +kernel
theorem dX11_areAllFree_30 : decode cX11_areAllFree 30 = .ok (.iconst 1, 1) := by decide +kernel
theorem dX11_areAllFree_31 : decode cX11_areAllFree 31 = .ok (.iand, 1) := by decide +kernel
theorem dX11_areAllFree_32 : decode cX11_areAllFree 32 = .ok (.ifCond .eq 19, 3) := by decide +kernel
theorem dX11_areAllFree_35 : decode cX11_areAllFree 35 = .ok (.aload_n 0, 1) := by decide +kernel
theorem dX11_areAllFree_36 : decode cX11_areAllFree 36 = .ok (.getfield 7, 3) := by decide +kernel
theorem dX11_areAllFree_39 : decode cX11_areAllFree 39 = .ok (.iconst 1, 1) := by decide +kernel
theorem dX11_areAllFree_40 : decode cX11_areAllFree 40 = .ok (.iload_n 3, 1) := by decide +kernel
theorem dX11_areAllFree_41 : decode cX11_areAllFree 41 = .ok (.iadd, 1) := by decide +kernel
theorem dX11_areAllFree_42 : decode cX11_areAllFree 42 = .ok (.iaload, 1) := by decide +kernel
theorem dX11_areAllFree_43 : decode cX11_areAllFree 43 = .ok (.iload 4, 2) := by decide +kernel
theorem dX11_areAllFree_45 : decode cX11_areAllFree 45 = .ok (.iand, 1) := by decide +kernel
theorem dX11_areAllFree_46 : decode cX11_areAllFree 46 = .ok (.iload 4, 2) := by decide +kernel
theorem dX11_areAllFree_48 : decode cX11_areAllFree 48 = .ok (.if_icmp .ne 7, 3) := by decide +kernel
theorem dX11_areAllFree_51 : decode cX11_areAllFree 51 = .ok (.iconst 1, 1) := by decide +kernel
theorem dX11_areAllFree_52 : decode cX11_areAllFree 52 = .ok (.goto 4, 3) := by decide +kernel
theorem dX11_areAllFree_55 : decode cX11_areAllFree 55 = .ok (.iconst 0, 1) := by decide +kernel
theorem dX11_areAllFree_56 : decode cX11_areAllFree 56 = .ok (.istore_n 2, 1) := by decide +kernel
theorem dX11_areAllFree_57 : decode cX11_areAllFree 57 = .ok (.iinc 3 1, 3) := by decide +kernel
theorem dX11_areAllFree_60 : decode cX11_areAllFree 60 = .ok (.goto (-56), 3) := by decide +kernel
theorem dX11_areAllFree_63 : decode cX11_areAllFree 63 = .ok (.iload_n 2, 1) := by decide +kernel
theorem dX11_areAllFree_64 : decode cX11_areAllFree 64 = .ok (.ireturn, 1) := by decide +kernel
set_option maxRecDepth 20000 in
theorem ggX11_different_X11_in : GoodIn wsX11_different wsX11_in := goodIn_r _ [7] (by decide +kernel) (by decide +kernel)
set_option maxRecDepth 20000 in
theorem gX11_different_X11_in : GoodIn wsX11_different (va_wsS RX11 102 yX11_in wsX11_in) := goodIn_app (goodIn_of _ (by decide +kernel)) ggX11_different_X11_in
set_option maxRecDepth 20000 in
theorem ggX11_different_X11_size : GoodIn wsX11_different wsX11_size := goodIn_r _ [10] (by decide +kernel) (by decide +kernel)
set_option maxRecDepth 20000 in
theorem gX11_different_X11_size : GoodIn wsX11_different (va_wsS RX11 124 yX11_size wsX11_size) := goodIn_app (goodIn_of _ (by decide +kernel)) ggX11_different_X11_size
set_option maxRecDepth 20000 in
theorem ggX11_different_X11_areAllFree : GoodIn wsX11_different wsX11_areAllFree := goodIn_r _ [14, 3, 15, 16, 17, 18, 19, 20, 21, 22, 23, 24, 25, 26, 27, 28, 29, 30, 31, 32, 33, 34, 35, 36, 37, 38, 39, 40, 41, 42, 43, 44, 45, 46, 47, 48, 49, 50, 51, 52, 53] (by decide +kernel) (by decide +kernel)
set_option maxRecDepth 20000 in
theorem gX11_different_X11_areAllFree : GoodIn wsX11_different (wsV RX11 128 RX11 yX11_areAllFree wsX11_areAllFree) := goodIn_app (goodIn_of _ (by decide +kernel)) ggX11_different_X11_areAllFree
theorem dX11_different_0 : decode cX11_different 0 = .ok (.iload_n 1, 1) := by decide +kernel
theorem dX11_different_1 : decode cX11_different 1 = .ok (.iconst 0, 1) := by decide +kernel
theorem dX11_different_2 : decode cX11_different 2 = .ok (.bipush 16, 2) := by decide +kernel
theorem dX11_different_4 : decode cX11_different 4 = .ok (.invokestatic 102, 3) := by decide +kernel
theorem dX11_different_7 : decode cX11_different 7 = .ok (.ifCond .ne 7, 3) := by decide +kernel
theorem dX11_different_10 : decode cX11_different 10 = .ok (.ldc2_w 122, 3) := by decide +kernel
theorem dX11_different_13 : decode cX11_different 13 = .ok (.lreturn, 1) := by decide +kernel
theorem dX11_different_14 : decode cX11_different 14 = .ok (.aload_n 0, 1) := by decide +kernel
theorem dX11_different_15 : decode cX11_different 15 = .ok (.getfield 23, 3) := by decide +kernel
theorem dX11_different_18 : decode cX11_different 18 = .ok (.iconst 0, 1) := by decide +kernel
theorem dX11_different_19 : decode cX11_different 19 = .ok (.lconst 1, 1) := by decide +kernel
theorem dX11_different_20 : decode cX11_different 20 = .ok (.lastore, 1) := by decide +kernel
theorem dX11_different_21 : decode cX11_different 21 = .ok (.iconst 1, 1) := by decide +kernel
theorem dX11_different_22 : decode cX11_different 22 = .ok (.istore_n 2, 1) := by decide +kernel
theorem dX11_different_23 : decode cX11_different 23 = .ok (.iload_n 2, 1) := by decide +kernel
theorem dX11_different_24 : decode cX11_different 24 = .ok (.iload_n 1, 1) := by decide +kernel
theorem dX11_different_25 : decode cX11_different 25 = .ok (.if_icmp .gt 95, 3) := by decide +kernel
theorem dX11_different_28 : decode cX11_different 28 = .ok (.aload_n 0, 1) := by decide +kernel
theorem dX11_different_29 : decode cX11_different 29 = .ok (.getfield 23, 3) := by decide +kernel
theorem dX11_different_32 : decode cX11_different 32 = .ok (.iload_n 2, 1) := by decide +kernel
theorem dX11_different_33 : decode cX11_different 33 = .ok (.lconst 0, 1) := by decide +kernel
theorem dX11_different_34 : decode cX11_different 34 = .ok (.lastore, 1) := by decide +kernel
theorem dX11_different_35 : decode cX11_different 35 = .ok (.iconst 1, 1) := by decide +kernel
theorem dX11_different_36 : decode cX11_different 36 = .ok (.istore_n 3, 1) := by decide +kernel
theorem dX11_different_37 : decode cX11_different 37 = .ok (.iload_n 3, 1) := by decide +kernel
theorem dX11_different_38 : decode cX11_different 38 = .ok (.iconst 1, 1) := by decide +kernel
theorem dX11_different_39 : decode cX11_different 39 = .ok (.aload_n 0, 1) := by decide +kernel
theorem dX11_different_40 : decode cX11_different 40 = .ok (.getfield 7, 3) := by decide +kernel
theorem dX11_different_43 : decode cX11_different 43 = .ok (.iconst 0, 1) := by decide +kernel
theorem dX11_different_44 : decode cX11_different 44 = .ok (.iaload, 1) := by decide +kernel
theorem dX11_different_45 : decode cX11_different 45 = .ok (.ishl, 1) := by decide +kernel
theorem dX11_different_46 : decode cX11_different 46 = .ok (.if_icmp .ge 68, 3) := by decide +kernel
theorem dX11_different_49 : decode cX11_different 49 = .ok (.iload_n 3, 1) := by decide +kernel
theorem dX11_different_50 : decode cX11_different 50 = .ok (.invokestatic 124, 3) := by decide +kernel
theorem dX11_different_53 : decode cX11_different 53 = .ok (.istore 4, 2) := by decide +kernel
theorem dX11_different_55 : decode cX11_different 55 = .ok (.iload 4, 2) := by decide +kernel
theorem dX11_different_57 : decode cX11_different 57 = .ok (.iload_n 2, 1) := by decide +kernel
theorem dX11_different_58 : decode cX11_different 58 = .ok (.if_icmp .gt 50, 3) := by decide +kernel
theorem dX11_different_61 : decode cX11_different 61 = .ok (.aload_n 0, 1) := by decide +kernel
theorem dX11_different_62 : decode cX11_different 62 = .ok (.iload_n 3, 1) := by decide +kernel
theorem dX11_different_63 : decode cX11_different 63 = .ok (.invokevirtual 128, 3) := by decide +kernel
theorem dX11_different_66 : decode cX11_different 66 = .ok (.ifCond .eq 42, 3) := by decide +kernel
theorem dX11_different_69 : decode cX11_different 69 = .ok (.aload_n 0, 1) := by decide +kernel
theorem dX11_different_70 : decode cX11_different 70 = .ok (.getfield 23, 3) := by decide +kernel
theorem dX11_different_73 : decode cX11_different 73 = .ok (.iload_n 2, 1) := by decide +kernel
theorem dX11_different_74 : decode cX11_different 74 = .ok (.dup2, 1) := by decide +kernel
theorem dX11_different_75 : decode cX11_different 75 = .ok (.laload, 1) := by decide +kernel
theorem dX11_different_76 : decode cX11_different 76 = .ok (.iload 4, 2) := by decide +kernel
theorem dX11_different_78 : decode cX11_different 78 = .ok (.iconst 2, 1) := by decide +kernel
theorem dX11_different_79 : decode cX11_different 79 = .ok (.irem, 1) := by decide +kernel
theorem dX11_different_80 : decode cX11_different 80 = .ok (.iconst 1, 1) := by decide +kernel
theorem dX11_different_81 : decode cX11_different 81 = .ok (.if_icmp .ne 15, 3) := by decide +kernel
theorem dX11_different_84 : decode cX11_different 84 = .ok (.aload_n 0, 1) := by decide +kernel
theorem dX11_different_85 : decode cX11_different 85 = .ok (.getfield 23, 3) := by decide +kernel
theorem dX11_different_88 : decode cX11_different 88 = .ok (.iload_n 2, 1) := by decide +kernel
theorem dX11_different_89 : decode cX11_different 89 = .ok (.iload 4, 2) := by decide +kernel
theorem dX11_different_91 : decode cX11_different 91 = .ok (.isub, 1) := by decide +kernel
theorem dX11_different_92 : decode cX11_different 92 = .ok (.laload, 1) := by decide +kernel
theorem dX11_different_93 : decode cX11_different 93 = .ok (.goto 13, 3) := by decide +kernel
theorem dX11_different_96 : decode cX11_different 96 = .ok (.aload_n 0, 1) := by decide +kernel
theorem dX11_different_97 : decode cX11_different 97 = .ok (.getfield 23, 3) := by decide +kernel
theorem dX11_different_100 : decode cX11_different 100 = .ok (.iload_n 2, 1) := by decide +kernel
theorem dX11_different_101 : decode cX11_different 101 = .ok (.iload 4, 2) := by decide +kernel
theorem dX11_different_103 : decode cX11_different 103 = .ok (.isub, 1) := by decide +kernel
theorem dX11_different_104 : decode cX11_different 104 = .ok (.laload, 1) := by decide +kernel
theorem dX11_different_105 : decode cX11_different 105 = .ok (.lneg, 1) := by decide +kernel
theorem dX11_different_106 : decode cX11_different 106 = .ok (.ladd, 1) := by decide +kernel
theorem dX11_different_107 : decode cX11_different 107 = .ok (.lastore, 1) := by decide +kernel
theorem dX11_different_108 : decode cX11_different 108 = .ok (.iinc 3 1, 3) := by decide +kernel
theorem dX11_different_111 : decode cX11_different 111 = .ok (.goto (-74), 3) := by decide +kernel
theorem dX11_different_114 : decode cX11_different 114 = .ok (.iinc 2 1, 3) := by decide +kernel
theorem dX11_different_117 : decode cX11_different 117 = .ok (.goto (-94), 3) := by decide +kernel
theorem dX11_different_120 : decode cX11_different 120 = .ok (.aload_n 0, 1) := by decide +kernel
theorem dX11_different_121 : decode cX11_different 121 = .ok (.getfield 23, 3) := by decide +kernel
theorem dX11_different_124 : decode cX11_different 124 = .ok (.iload_n 1, 1) := by decide +kernel
theorem dX11_different_125 : decode cX11_different 125 = .ok (.laload, 1) := by decide +kernel
theorem dX11_different_126 : decode cX11_different 126 = .ok (.lreturn, 1) := by decide +kernel
theorem dX11_takesOne_0 : decode cX11_takesOne 0 = .ok (.aload_n 0, 1) := by decide +kernel
theorem dX11_takesOne_1 : decode cX11_takesOne 1 = .ok (.aload_n 0, 1) := by decide +kernel
theorem dX11_takesOne_2 : decode cX11_takesOne 2 = .ok (.getfield 7, 3) := by decide +kernel
theorem dX11_takesOne_5 : decode cX11_takesOne 5 = .ok (.bipush 7, 2) := by decide +kernel
theorem dX11_takesOne_7 : decode cX11_takesOne 7 = .ok (.iload_n 1, 1) := by decide +kernel
theorem dX11_takesOne_8 : decode cX11_takesOne 8 = .ok (.iadd, 1) := by decide +kernel
theorem dX11_takesOne_9 : decode cX11_takesOne 9 = .ok (.iaload, 1) := by decide +kernel
theorem dX11_takesOne_10 : decode cX11_takesOne 10 = .ok (.putfield 131, 3) := by decide +kernel
theorem dX11_takesOne_13 : decode cX11_takesOne 13 = .ok (.iconst 0, 1) := by decide +kernel
theorem dX11_takesOne_14 : decode cX11_takesOne 14 = .ok (.istore_n 2, 1) := by decide +kernel
theorem dX11_takesOne_15 : decode cX11_takesOne 15 = .ok (.iload_n 2, 1) := by decide +kernel
theorem dX11_takesOne_16 : decode cX11_takesOne 16 = .ok (.aload_n 0, 1) := by decide +kernel
theorem dX11_takesOne_17 : decode cX11_takesOne 17 = .ok (.getfield 131, 3) := by decide +kernel
theorem dX11_takesOne_20 : decode cX11_takesOne 20 = .ok (.if_icmp .ge 29, 3) := by decide +kernel
theorem dX11_takesOne_23 : decode cX11_takesOne 23 = .ok (.aload_n 0, 1) := by decide +kernel
theorem dX11_takesOne_24 : decode cX11_takesOne 24 = .ok (.getfield 27, 3) := by decide +kernel
theorem dX11_takesOne_27 : decode cX11_takesOne 27 = .ok (.iload_n 2, 1) := by decide +kernel
theorem dX11_takesOne_28 : decode cX11_takesOne 28 = .ok (.aload_n 0, 1) := by decide +kernel
theorem dX11_takesOne_29 : decode cX11_takesOne 29 = .ok (.getfield 7, 3) := by decide +kernel
theorem dX11_takesOne_32 : decode cX11_takesOne 32 = .ok (.bipush 13, 2) := by decide +kernel
theorem dX11_takesOne_34 : decode cX11_takesOne 34 = .ok (.bipush 16, 2) := by decide +kernel
theorem dX11_takesOne_36 : decode cX11_takesOne 36 = .ok (.iload_n 1, 1) := by decide +kernel
theorem dX11_takesOne_37 : decode cX11_takesOne 37 = .ok (.imul, 1) := by decide +kernel
theorem dX11_takesOne_38 : decode cX11_takesOne 38 = .ok (.iadd, 1) := by decide +kernel
theorem dX11_takesOne_39 : decode cX11_takesOne 39 = .ok (.iload_n 2, 1) := by decide +kernel
theorem dX11_takesOne_40 : decode cX11_takesOne 40 = .ok (.iadd, 1) := by decide +kernel
theorem dX11_takesOne_41 : decode cX11_takesOne 41 = .ok (.iaload, 1) := by decide +kernel
theorem dX11_takesOne_42 : decode cX11_takesOne 42 = .ok (.iastore, 1) := by decide +kernel
theorem dX11_takesOne_43 : decode cX11_takesOne 43 = .ok (.iinc 2 1, 3) := by decide +kernel
theorem dX11_takesOne_46 : decode cX11_takesOne 46 = .ok (.goto (-31), 3) := by decide +kernel
theorem dX11_takesOne_49 : decode cX11_takesOne 49 = .ok (.return_, 1) := by decide +kernel
theorem dX11_takesOther_0 : decode cX11_takesOther 0 = .ok (.aload_n 0, 1) := by decide +kernel
theorem dX11_takesOther_1 : decode cX11_takesOther 1 = .ok (.aload_n 0, 1) := by decide +kernel
theorem dX11_takesOther_2 : decode cX11_takesOther 2 = .ok (.getfield 7, 3) := by decide +kernel
theorem dX11_takesOther_5 : decode cX11_takesOther 5 = .ok (.bipush 7, 2) := by decide +kernel
theorem dX11_takesOther_7 : decode cX11_takesOther 7 = .ok (.iload_n 1, 1) := by decide +kernel
theorem dX11_takesOther_8 : decode cX11_takesOther 8 = .ok (.iadd, 1) := by decide +kernel
theorem dX11_takesOther_9 : decode cX11_takesOther 9 = .ok (.iaload, 1) := by decide +kernel
theorem dX11_takesOther_10 : decode cX11_takesOther 10 = .ok (.putfield 135, 3) := by decide +kernel
theorem dX11_takesOther_13 : decode cX11_takesOther 13 = .ok (.iconst 0, 1) := by decide +kernel
theorem dX11_takesOther_14 : decode cX11_takesOther 14 = .ok (.istore_n 2, 1) := by decide +kernel
theorem dX11_takesOther_15 : decode cX11_takesOther 15 = .ok (.iload_n 2, 1) := by decide +kernel
theorem dX11_takesOther_16 : decode cX11_takesOther 16 = .ok (.aload_n 0, 1) := by decide +kernel
theorem dX11_takesOther_17 : decode cX11_takesOther 17 = .ok (.getfield 135, 3) := by decide +kernel
theorem dX11_takesOther_20 : decode cX11_takesOther 20 = .ok (.if_icmp .ge 29, 3) := by decide +kernel
theorem dX11_takesOther_23 : decode cX11_takesOther 23 = .ok (.aload_n 0, 1) := by decide +kernel
theorem dX11_takesOther_24 : decode cX11_takesOther 24 = .ok (.getfield 30, 3) := by decide +kernel
theorem dX11_takesOther_27 : decode cX11_takesOther 27 = .ok (.iload_n 2, 1) := by decide +kernel
theorem dX11_takesOther_28 : decode cX11_takesOther 28 = .ok (.aload_n 0, 1) := by decide +kernel
theorem dX11_takesOther_29 : decode cX11_takesOther 29 = .ok (.getfield 7, 3) := by decide +kernel
theorem dX11_takesOther_32 : decode cX11_takesOther 32 = .ok (.bipush 13, 2) := by decide +kernel
theorem dX11_takesOther_34 : decode cX11_takesOther 34 = .ok (.bipush 16, 2) := by decide +kernel
theorem dX11_takesOther_36 : decode cX11_takesOther 36 = .ok (.iload_n 1, 1) := by decide +kernel
theorem dX11_takesOther_37 : decode cX11_takesOther 37 = .ok (.imul, 1) := by decide +kernel
theorem dX11_takesOther_38 : decode cX11_takesOther 38 = .ok (.iadd, 1) := by decide +kernel
theorem dX11_takesOther_39 : decode cX11_takesOther 39 = .ok (.iload_n 2, 1) := by decide +kernel
theorem dX11_takesOther_40 : decode cX11_takesOther 40 = .ok (.iadd, 1) := by decide +kernel
theorem dX11_takesOther_41 : decode cX11_takesOther 41 = .ok (.iaload, 1) := by decide +kernel
theorem dX11_takesOther_42 : decode cX11_takesOther 42 = .ok (.iastore, 1) := by decide +kernel
theorem dX11_takesOther_43 : decode cX11_takesOther 43 = .ok (.iinc 2 1, 3) := by decide +kernel
theorem dX11_takesOther_46 : decode cX11_takesOther 46 = .ok (.goto (-31), 3) := by decide +kernel
theorem dX11_takesOther_49 : decode cX11_takesOther 49 = .ok (.return_, 1) := by decide +kernel
set_option maxRecDepth 20000 in
theorem ggX11_isFirst_X11_areFree : GoodIn wsX11_isFirst wsX11_areFree := goodIn_r _ [6, 7, 8, 9, 10, 11, 12, 13, 14, 15, 16, 17, 18, 19, 20, 21, 22, 23, 24, 25, 26, 27, 28, 29, 30, 31, 32, 33, 34, 35, 36, 37, 38, 39, 40, 41, 42, 43, 44, 45, 46] (by decide +kernel) (by decide +kernel)
set_option maxRecDepth 20000 in
theorem gX11_isFirst_X11_areFree : GoodIn wsX11_isFirst (wsV RX11 114 RX11 yX11_areFree wsX11_areFree) := goodIn_app (goodIn_of _ (by decide +kernel)) ggX11_isFirst_X11_areFree
theorem dX11_isFirst_0 : decode cX11_isFirst 0 = .ok (.aload_n 0, 1) := by decide +kernel
theorem dX11_isFirst_1 : decode cX11_isFirst 1 = .ok (.getfield 36, 3) := by decide +kernel
theorem dX11_isFirst_4 : decode cX11_isFirst 4 = .ok (.iload_n 2, 1) := by decide +kernel
theorem dX11_isFirst_5 : decode cX11_isFirst 5 = .ok (.baload, 1) := by decide +kernel
theorem dX11_isFirst_6 : decode cX11_isFirst 6 = .ok (.ifCond .ne 7, 3) := by decide +kernel
theorem dX11_isFirst_9 : decode cX11_isFirst 9 = .ok (.iconst 1, 1) := by decide +kernel
theorem dX11_isFirst_10 : decode cX11_isFirst 10 = .ok (.goto 4, 3) := by decide +kernel
theorem dX11_isFirst_13 : decode cX11_isFirst 13 = .ok (.iconst 0, 1) := by decide +kernel
theorem dX11_isFirst_14 : decode cX11_isFirst 14 = .ok (.istore_n 3, 1) := by decide +kernel
theorem dX11_isFirst_15 : decode cX11_isFirst 15 = .ok (.iconst 0, 1) := by decide +kernel
theorem dX11_isFirst_16 : decode cX11_isFirst 16 = .ok (.istore 4, 2) := by decide +kernel
theorem dX11_isFirst_18 : decode cX11_isFirst 18 = .ok (.iload 4, 2) := by decide +kernel
theorem dX11_isFirst_20 : decode cX11_isFirst 20 = .ok (.iload_n 2, 1) := by decide +kernel
theorem dX11_isFirst_21 : decode cX11_isFirst 21 = .ok (.if_icmp .ge 43, 3) := by decide +kernel
theorem dX11_isFirst_24 : decode cX11_isFirst 24 = .ok (.iload_n 3, 1) := by decide +kernel
theorem dX11_isFirst_25 : decode cX11_isFirst 25 = .ok (.ifCond .eq 39, 3) := by decide +kernel
theorem dX11_isFirst_28 : decode cX11_isFirst 28 = .ok (.aload_n 0, 1) := by decide +kernel
theorem dX11_isFirst_29 : decode cX11_isFirst 29 = .ok (.getfield 36, 3) := by decide +kernel
theorem dX11_isFirst_32 : decode cX11_isFirst 32 = .ok (.iload 4, 2) := by decide +kernel
theorem dX11_isFirst_34 : decode cX11_isFirst 34 = .ok (.baload, 1) := by decide +kernel
theorem dX11_isFirst_35 : decode cX11_isFirst 35 = .ok (.ifCond .ne 17, 3) := by decide +kernel
theorem dX11_isFirst_38 : decode cX11_isFirst 38 = .ok (.aload_n 0, 1) := by decide +kernel
theorem dX11_isFirst_39 : decode cX11_isFirst 39 = .ok (.aload_n 1, 1) := by decide +kernel
theorem dX11_isFirst_40 : decode cX11_isFirst 40 = .ok (.iload 4, 2) := by decide +kernel
theorem dX11_isFirst_42 : decode cX11_isFirst 42 = .ok (.iaload, 1) := by decide +kernel
theorem dX11_isFirst_43 : decode cX11_isFirst 43 = .ok (.aload_n 1, 1) := by decide +kernel
theorem dX11_isFirst_44 : decode cX11_isFirst 44 = .ok (.iload_n 2, 1) := by decide +kernel
theorem dX11_isFirst_45 : decode cX11_isFirst 45 = .ok (.iaload, 1) := by decide +kernel
theorem dX11_isFirst_46 : decode cX11_isFirst 46 = .ok (.invokevirtual 114, 3) := by decide +kernel
theorem dX11_isFirst_49 : decode cX11_isFirst 49 = .ok (.ifCond .eq 7, 3) := by decide +kernel
theorem dX11_isFirst_52 : decode cX11_isFirst 52 = .ok (.iconst 1, 1) := by decide +kernel
theorem dX11_isFirst_53 : decode cX11_isFirst 53 = .ok (.goto 4, 3) := by decide +kernel
theorem dX11_isFirst_56 : decode cX11_isFirst 56 = .ok (.iconst 0, 1) := by decide +kernel
theorem dX11_isFirst_57 : decode cX11_isFirst 57 = .ok (.istore_n 3, 1) := by decide +kernel
theorem dX11_isFirst_58 : decode cX11_isFirst 58 = .ok (.iinc 4 1, 3) := by decide +kernel
theorem dX11_isFirst_61 : decode cX11_isFirst 61 = .ok (.goto (-43), 3) := by decide +kernel
theorem dX11_isFirst_64 : decode cX11_isFirst 64 = .ok (.iload_n 3, 1) := by decide +kernel
theorem dX11_isFirst_65 : decode cX11_isFirst 65 = .ok (.ireturn, 1) := by decide +kernel
set_option maxRecDepth 20000 in
theorem ggX11_placeOf_X11_isFirst : GoodIn wsX11_placeOf wsX11_isFirst := goodIn_r _ [5, 6, 7, 8, 9, 4, 10, 11, 12, 13, 14, 15, 16, 17, 18, 19, 20, 21, 22, 23, 24, 25, 26, 27, 28, 29, 30, 31, 32, 33, 34, 35, 36, 37, 38, 39, 40, 41, 42, 43, 44, 45, 46, 47, 48, 49, 50] (by decide +kernel) (by decide +kernel)
set_option maxRecDepth 20000 in
theorem gX11_placeOf_X11_isFirst : GoodIn wsX11_placeOf (wsV RX11 138 RX11 yX11_isFirst wsX11_isFirst) := goodIn_app (goodIn_of _ (by decide +kernel)) ggX11_placeOf_X11_isFirst
theorem dX11_placeOf_0 : decode cX11_placeOf 0 = .ok (.iconst 0, 1) := by decide +kernel
theorem dX11_placeOf_1 : decode cX11_placeOf 1 = .ok (.istore 4, 2) := by decide +kernel
theorem dX11_placeOf_3 : decode cX11_placeOf 3 = .ok (.iload 4, 2) := by decide +kernel
theorem dX11_placeOf_5 : decode cX11_placeOf 5 = .ok (.iload_n 2, 1) := by decide +kernel
theorem dX11_placeOf_6 : decode cX11_placeOf 6 = .ok (.if_icmp .ge 30, 3) := by decide +kernel
theorem dX11_placeOf_9 : decode cX11_placeOf 9 = .ok (.aload_n 1, 1) := by decide +kernel
theorem dX11_placeOf_10 : decode cX11_placeOf 10 = .ok (.iload 4, 2) := by decide +kernel
theorem dX11_placeOf_12 : decode cX11_placeOf 12 = .ok (.iaload, 1) := by decide +kernel
theorem dX11_placeOf_13 : decode cX11_placeOf 13 = .ok (.iload_n 3, 1) := by decide +kernel
theorem dX11_placeOf_14 : decode cX11_placeOf 14 = .ok (.if_icmp .ne 16, 3) := by decide +kernel
theorem dX11_placeOf_17 : decode cX11_placeOf 17 = .ok (.aload_n 0, 1) := by decide +kernel
theorem dX11_placeOf_18 : decode cX11_placeOf 18 = .ok (.aload_n 1, 1) := by decide +kernel
theorem dX11_placeOf_19 : decode cX11_placeOf 19 = .ok (.iload 4, 2) := by decide +kernel
theorem dX11_placeOf_21 : decode cX11_placeOf 21 = .ok (.invokevirtual 138, 3) := by decide +kernel
theorem dX11_placeOf_24 : decode cX11_placeOf 24 = .ok (.ifCond .eq 6, 3) := by decide +kernel
theorem dX11_placeOf_27 : decode cX11_placeOf 27 = .ok (.iload 4, 2) := by decide +kernel
theorem dX11_placeOf_29 : decode cX11_placeOf 29 = .ok (.ireturn, 1) := by decide +kernel
theorem dX11_placeOf_30 : decode cX11_placeOf 30 = .ok (.iinc 4 1, 3) := by decide +kernel
theorem dX11_placeOf_33 : decode cX11_placeOf 33 = .ok (.goto (-30), 3) := by decide +kernel
theorem dX11_placeOf_36 : decode cX11_placeOf 36 = .ok (.iconst (-1), 1) := by decide +kernel
theorem dX11_placeOf_37 : decode cX11_placeOf 37 = .ok (.ireturn, 1) := by decide +kernel
theorem dX11_allThere_0 : decode cX11_allThere 0 = .ok (.iconst 0, 1) := by decide +kernel
theorem dX11_allThere_1 : decode cX11_allThere 1 = .ok (.istore_n 2, 1) := by decide +kernel
theorem dX11_allThere_2 : decode cX11_allThere 2 = .ok (.iload_n 2, 1) := by decide +kernel
theorem dX11_allThere_3 : decode cX11_allThere 3 = .ok (.iload_n 1, 1) := by decide +kernel
theorem dX11_allThere_4 : decode cX11_allThere 4 = .ok (.if_icmp .ge 16, 3) := by decide +kernel
theorem dX11_allThere_7 : decode cX11_allThere 7 = .ok (.aload_n 0, 1) := by decide +kernel
theorem dX11_allThere_8 : decode cX11_allThere 8 = .ok (.getfield 36, 3) := by decide +kernel
theorem dX11_allThere_11 : decode cX11_allThere 11 = .ok (.iload_n 2, 1) := by decide +kernel
theorem dX11_allThere_12 : decode cX11_allThere 12 = .ok (.iconst 0, 1) := by decide +kernel
theorem dX11_allThere_13 : decode cX11_allThere 13 = .ok (.bastore, 1) := by decide +kernel
theorem dX11_allThere_14 : decode cX11_allThere 14 = .ok (.iinc 2 1, 3) := by decide +kernel
theorem dX11_allThere_17 : decode cX11_allThere 17 = .ok (.goto (-15), 3) := by decide +kernel
theorem dX11_allThere_20 : decode cX11_allThere 20 = .ok (.return_, 1) := by decide +kernel
set_option maxRecDepth 20000 in
theorem ggX11_normalizes_X11_allThere : GoodIn wsX11_normalizes wsX11_allThere := goodIn_r _ [8, 2, 22, 23, 24, 25, 26, 27, 28, 29, 30, 31, 32, 33, 34, 35, 36, 37, 38, 39, 40, 41, 42, 43, 44, 45, 46, 47, 48, 49, 50, 51, 52, 53, 54, 55, 56, 57, 58, 59, 60] (by decide +kernel) (by decide +kernel)
set_option maxRecDepth 20000 in
theorem gX11_normalizes_X11_allThere : GoodIn wsX11_normalizes (wsV RX11 142 RX11 yX11_allThere wsX11_allThere) := goodIn_app (goodIn_of _ (by decide +kernel)) ggX11_normalizes_X11_allThere
set_option maxRecDepth 20000 in
theorem ggX11_normalizes_X11_placeOf : GoodIn wsX11_normalizes wsX11_placeOf := goodIn_r _ [12, 13, 14, 15, 7, 16, 2, 17, 18, 19, 20, 21, 22, 23, 24, 25, 26, 27, 28, 29, 30, 31, 32, 33, 34, 35, 36, 37, 38, 39, 40, 41, 42, 43, 44, 45, 46, 47, 48, 49, 50, 51, 52, 53, 54, 55, 56, 57, 58, 59, 60] (by decide +kernel) (by decide +kernel)
set_option maxRecDepth 20000 in
theorem gX11_normalizes_X11_placeOf : GoodIn wsX11_normalizes (wsV RX11 148 RX11 yX11_placeOf wsX11_placeOf) := goodIn_app (goodIn_of _ (by decide +kernel)) ggX11_normalizes_X11_placeOf
theorem dX11_normalizes_0 : decode cX11_normalizes 0 = .ok (.aload_n 0, 1) := by decide +kernel
theorem dX11_normalizes_1 : decode cX11_normalizes 1 = .ok (.iload_n 2, 1) := by decide +kernel
theorem dX11_normalizes_2 : decode cX11_normalizes 2 = .ok (.invokevirtual 142, 3) := by decide +kernel
theorem dX11_normalizes_5 : decode cX11_normalizes 5 = .ok (.aload_n 0, 1) := by decide +kernel
theorem dX11_normalizes_6 : decode cX11_normalizes 6 = .ok (.iconst 0, 1) := by decide +kernel
theorem dX11_normalizes_7 : decode cX11_normalizes 7 = .ok (.putfield 145, 3) := by decide +kernel
theorem dX11_normalizes_10 : decode cX11_normalizes 10 = .ok (.aload_n 0, 1) := by decide +kernel
theorem dX11_normalizes_11 : decode cX11_normalizes 11 = .ok (.getfield 145, 3) := by decide +kernel
theorem dX11_normalizes_14 : decode cX11_normalizes 14 = .ok (.iload_n 2, 1) := by decide +kernel
theorem dX11_normalizes_15 : decode cX11_normalizes 15 = .ok (.if_icmp .ge 65, 3) := by decide +kernel
theorem dX11_normalizes_18 : decode cX11_normalizes 18 = .ok (.iconst 0, 1) := by decide +kernel
theorem dX11_normalizes_19 : decode cX11_normalizes 19 = .ok (.istore_n 3, 1) := by decide +kernel
theorem dX11_normalizes_20 : decode cX11_normalizes 20 = .ok (.aload_n 0, 1) := by decide +kernel
theorem dX11_normalizes_21 : decode cX11_normalizes 21 = .ok (.aload_n 1, 1) := by decide +kernel
theorem dX11_normalizes_22 : decode cX11_normalizes 22 = .ok (.iload_n 2, 1) := by decide +kernel
theorem dX11_normalizes_23 : decode cX11_normalizes 23 = .ok (.iconst 0, 1) := by decide +kernel
theorem dX11_normalizes_24 : decode cX11_normalizes 24 = .ok (.invokevirtual 148, 3) := by decide +kernel
theorem dX11_normalizes_27 : decode cX11_normalizes 27 = .ok (.istore 4, 2) := by decide +kernel
theorem dX11_normalizes_29 : decode cX11_normalizes 29 = .ok (.iload 4, 2) := by decide +kernel
theorem dX11_normalizes_31 : decode cX11_normalizes 31 = .ok (.ifCond .ge 18, 3) := by decide +kernel
theorem dX11_normalizes_34 : decode cX11_normalizes 34 = .ok (.iinc 3 1, 3) := by decide +kernel
theorem dX11_normalizes_37 : decode cX11_normalizes 37 = .ok (.aload_n 0, 1) := by decide +kernel
theorem dX11_normalizes_38 : decode cX11_normalizes 38 = .ok (.aload_n 1, 1) := by decide +kernel
theorem dX11_normalizes_39 : decode cX11_normalizes 39 = .ok (.iload_n 2, 1) := by decide +kernel
theorem dX11_normalizes_40 : decode cX11_normalizes 40 = .ok (.iload_n 3, 1) := by decide +kernel
theorem dX11_normalizes_41 : decode cX11_normalizes 41 = .ok (.invokevirtual 148, 3) := by decide +kernel
theorem dX11_normalizes_44 : decode cX11_normalizes 44 = .ok (.istore 4, 2) := by decide +kernel
theorem dX11_normalizes_46 : decode cX11_normalizes 46 = .ok (.goto (-17), 3) := by decide +kernel
theorem dX11_normalizes_49 : decode cX11_normalizes 49 = .ok (.aload_n 0, 1) := by decide +kernel
theorem dX11_normalizes_50 : decode cX11_normalizes 50 = .ok (.getfield 36, 3) := by decide +kernel
theorem dX11_normalizes_53 : decode cX11_normalizes 53 = .ok (.iload 4, 2) := by decide +kernel
theorem dX11_normalizes_55 : decode cX11_normalizes 55 = .ok (.iconst 1, 1) := by decide +kernel
theorem dX11_normalizes_56 : decode cX11_normalizes 56 = .ok (.bastore, 1) := by decide +kernel
theorem dX11_normalizes_57 : decode cX11_normalizes 57 = .ok (.aload_n 0, 1) := by decide +kernel
theorem dX11_normalizes_58 : decode cX11_normalizes 58 = .ok (.getfield 33, 3) := by decide +kernel
theorem dX11_normalizes_61 : decode cX11_normalizes 61 = .ok (.aload_n 0, 1) := by decide +kernel
theorem dX11_normalizes_62 : decode cX11_normalizes 62 = .ok (.getfield 145, 3) := by decide +kernel
theorem dX11_normalizes_65 : decode cX11_normalizes 65 = .ok (.iload_n 3, 1) := by decide +kernel
theorem dX11_normalizes_66 : decode cX11_normalizes 66 = .ok (.iastore, 1) := by decide +kernel
theorem dX11_normalizes_67 : decode cX11_normalizes 67 = .ok (.aload_n 0, 1) := by decide +kernel
theorem dX11_normalizes_68 : decode cX11_normalizes 68 = .ok (.dup, 1) := by decide +kernel
theorem dX11_normalizes_69 : decode cX11_normalizes 69 = .ok (.getfield 145, 3) := by decide +kernel
theorem dX11_normalizes_72 : decode cX11_normalizes 72 = .ok (.iconst 1, 1) := by decide +kernel
theorem dX11_normalizes_73 : decode cX11_normalizes 73 = .ok (.iadd, 1) := by decide +kernel
theorem dX11_normalizes_74 : decode cX11_normalizes 74 = .ok (.putfield 145, 3) := by decide +kernel
theorem dX11_normalizes_77 : decode cX11_normalizes 77 = .ok (.goto (-67), 3) := by decide +kernel
theorem dX11_normalizes_80 : decode cX11_normalizes 80 = .ok (.return_, 1) := by decide +kernel
theorem dX11_stores_0 : decode cX11_stores 0 = .ok (.aload_n 0, 1) := by decide +kernel
theorem dX11_stores_1 : decode cX11_stores 1 = .ok (.getfield 7, 3) := by decide +kernel
theorem dX11_stores_4 : decode cX11_stores 4 = .ok (.bipush 7, 2) := by decide +kernel
theorem dX11_stores_6 : decode cX11_stores 6 = .ok (.iload_n 1, 1) := by decide +kernel
theorem dX11_stores_7 : decode cX11_stores 7 = .ok (.iadd, 1) := by decide +kernel
theorem dX11_stores_8 : decode cX11_stores 8 = .ok (.aload_n 0, 1) := by decide +kernel
theorem dX11_stores_9 : decode cX11_stores 9 = .ok (.getfield 145, 3) := by decide +kernel
theorem dX11_stores_12 : decode cX11_stores 12 = .ok (.iastore, 1) := by decide +kernel
theorem dX11_stores_13 : decode cX11_stores 13 = .ok (.iconst 0, 1) := by decide +kernel
theorem dX11_stores_14 : decode cX11_stores 14 = .ok (.istore_n 2, 1) := by decide +kernel
theorem dX11_stores_15 : decode cX11_stores 15 = .ok (.iload_n 2, 1) := by decide +kernel
theorem dX11_stores_16 : decode cX11_stores 16 = .ok (.aload_n 0, 1) := by decide +kernel
theorem dX11_stores_17 : decode cX11_stores 17 = .ok (.getfield 145, 3) := by decide +kernel
theorem dX11_stores_20 : decode cX11_stores 20 = .ok (.if_icmp .ge 29, 3) := by decide +kernel
theorem dX11_stores_23 : decode cX11_stores 23 = .ok (.aload_n 0, 1) := by decide +kernel
theorem dX11_stores_24 : decode cX11_stores 24 = .ok (.getfield 7, 3) := by decide +kernel
theorem dX11_stores_27 : decode cX11_stores 27 = .ok (.bipush 13, 2) := by decide +kernel
theorem dX11_stores_29 : decode cX11_stores 29 = .ok (.bipush 16, 2) := by decide +kernel
theorem dX11_stores_31 : decode cX11_stores 31 = .ok (.iload_n 1, 1) := by decide +kernel
theorem dX11_stores_32 : decode cX11_stores 32 = .ok (.imul, 1) := by decide +kernel
theorem dX11_stores_33 : decode cX11_stores 33 = .ok (.iadd, 1) := by decide +kernel
theorem dX11_stores_34 : decode cX11_stores 34 = .ok (.iload_n 2, 1) := by decide +kernel
theorem dX11_stores_35 : decode cX11_stores 35 = .ok (.iadd, 1) := by decide +kernel
theorem dX11_stores_36 : decode cX11_stores 36 = .ok (.aload_n 0, 1) := by decide +kernel
theorem dX11_stores_37 : decode cX11_stores 37 = .ok (.getfield 33, 3) := by decide +kernel
theorem dX11_stores_40 : decode cX11_stores 40 = .ok (.iload_n 2, 1) := by decide +kernel
theorem dX11_stores_41 : decode cX11_stores 41 = .ok (.iaload, 1) := by decide +kernel
theorem dX11_stores_42 : decode cX11_stores 42 = .ok (.iastore, 1) := by decide +kernel
theorem dX11_stores_43 : decode cX11_stores 43 = .ok (.iinc 2 1, 3) := by decide +kernel
theorem dX11_stores_46 : decode cX11_stores 46 = .ok (.goto (-31), 3) := by decide +kernel
theorem dX11_stores_49 : decode cX11_stores 49 = .ok (.aload_n 0, 1) := by decide +kernel
theorem dX11_stores_50 : decode cX11_stores 50 = .ok (.getfield 145, 3) := by decide +kernel
theorem dX11_stores_53 : decode cX11_stores 53 = .ok (.ireturn, 1) := by decide +kernel
set_option maxRecDepth 20000 in
theorem ggX11_divides_X11_allThere : GoodIn wsX11_divides wsX11_allThere := goodIn_r _ [10, 5, 24, 25, 26, 27, 28, 29, 30, 31, 32, 33, 34, 35, 36, 37, 38, 39, 40, 41, 42, 43, 44, 45, 46, 47, 48, 49, 50, 51, 52, 53, 54, 55, 56, 57, 58, 59, 60, 61, 62] (by decide +kernel) (by decide +kernel)
set_option maxRecDepth 20000 in
theorem gX11_divides_X11_allThere : GoodIn wsX11_divides (wsV RX11 142 RX11 yX11_allThere wsX11_allThere) := goodIn_app (goodIn_of _ (by decide +kernel)) ggX11_divides_X11_allThere
set_option maxRecDepth 20000 in
theorem ggX11_divides_X11_placeOf : GoodIn wsX11_divides wsX11_placeOf := goodIn_r _ [14, 15, 16, 17, 9, 18, 5, 19, 20, 21, 22, 23, 24, 25, 26, 27, 28, 29, 30, 31, 32, 33, 34, 35, 36, 37, 38, 39, 40, 41, 42, 43, 44, 45, 46, 47, 48, 49, 50, 51, 52, 53, 54, 55, 56, 57, 58, 59, 60, 61, 62] (by decide +kernel) (by decide +kernel)
set_option maxRecDepth 20000 in
theorem gX11_divides_X11_placeOf : GoodIn wsX11_divides (wsV RX11 148 RX11 yX11_placeOf wsX11_placeOf) := goodIn_app (goodIn_of _ (by decide +kernel)) ggX11_divides_X11_placeOf
theorem dX11_divides_0 : decode cX11_divides 0 = .ok (.aload_n 0, 1) := by decide +kernel
theorem dX11_divides_1 : decode cX11_divides 1 = .ok (.aload_n 0, 1) := by decide +kernel
theorem dX11_divides_2 : decode cX11_divides 2 = .ok (.getfield 135, 3) := by decide +kernel
theorem dX11_divides_5 : decode cX11_divides 5 = .ok (.invokevirtual 142, 3) := by decide +kernel
theorem dX11_divides_8 : decode cX11_divides 8 = .ok (.iconst 0, 1) := by decide +kernel
theorem dX11_divides_9 : decode cX11_divides 9 = .ok (.istore_n 1, 1) := by decide +kernel
theorem dX11_divides_10 : decode cX11_divides 10 = .ok (.iload_n 1, 1) := by decide +kernel
theorem dX11_divides_11 : decode cX11_divides 11 = .ok (.aload_n 0, 1) := by decide +kernel
theorem dX11_divides_12 : decode cX11_divides 12 = .ok (.getfield 131, 3) := by decide +kernel
theorem dX11_divides_15 : decode cX11_divides 15 = .ok (.if_icmp .ge 41, 3) := by decide +kernel
theorem dX11_divides_18 : decode cX11_divides 18 = .ok (.aload_n 0, 1) := by decide +kernel
theorem dX11_divides_19 : decode cX11_divides 19 = .ok (.aload_n 0, 1) := by decide +kernel
theorem dX11_divides_20 : decode cX11_divides 20 = .ok (.getfield 30, 3) := by decide +kernel
theorem dX11_divides_23 : decode cX11_divides 23 = .ok (.aload_n 0, 1) := by decide +kernel
theorem dX11_divides_24 : decode cX11_divides 24 = .ok (.getfield 135, 3) := by decide +kernel
theorem dX11_divides_27 : decode cX11_divides 27 = .ok (.aload_n 0, 1) := by decide +kernel
theorem dX11_divides_28 : decode cX11_divides 28 = .ok (.getfield 27, 3) := by decide +kernel
theorem dX11_divides_31 : decode cX11_divides 31 = .ok (.iload_n 1, 1) := by decide +kernel
theorem dX11_divides_32 : decode cX11_divides 32 = .ok (.iaload, 1) := by decide +kernel
theorem dX11_divides_33 : decode cX11_divides 33 = .ok (.invokevirtual 148, 3) := by decide +kernel
theorem dX11_divides_36 : decode cX11_divides 36 = .ok (.istore_n 2, 1) := by decide +kernel
theorem dX11_divides_37 : decode cX11_divides 37 = .ok (.iload_n 2, 1) := by decide +kernel
theorem dX11_divides_38 : decode cX11_divides 38 = .ok (.ifCond .ge 5, 3) := by decide +kernel
theorem dX11_divides_41 : decode cX11_divides 41 = .ok (.iconst 0, 1) := by decide +kernel
theorem dX11_divides_42 : decode cX11_divides 42 = .ok (.ireturn, 1) := by decide +kernel
theorem dX11_divides_43 : decode cX11_divides 43 = .ok (.aload_n 0, 1) := by decide +kernel
theorem dX11_divides_44 : decode cX11_divides 44 = .ok (.getfield 36, 3) := by decide +kernel
theorem dX11_divides_47 : decode cX11_divides 47 = .ok (.iload_n 2, 1) := by decide +kernel
theorem dX11_divides_48 : decode cX11_divides 48 = .ok (.iconst 1, 1) := by decide +kernel
theorem dX11_divides_49 : decode cX11_divides 49 = .ok (.bastore, 1) := by decide +kernel
theorem dX11_divides_50 : decode cX11_divides 50 = .ok (.iinc 1 1, 3) := by decide +kernel
theorem dX11_divides_53 : decode cX11_divides 53 = .ok (.goto (-43), 3) := by decide +kernel
theorem dX11_divides_56 : decode cX11_divides 56 = .ok (.iconst 0, 1) := by decide +kernel
theorem dX11_divides_57 : decode cX11_divides 57 = .ok (.istore_n 1, 1) := by decide +kernel
theorem dX11_divides_58 : decode cX11_divides 58 = .ok (.iconst 0, 1) := by decide +kernel
theorem dX11_divides_59 : decode cX11_divides 59 = .ok (.istore_n 2, 1) := by decide +kernel
theorem dX11_divides_60 : decode cX11_divides 60 = .ok (.iload_n 2, 1) := by decide +kernel
theorem dX11_divides_61 : decode cX11_divides 61 = .ok (.aload_n 0, 1) := by decide +kernel
theorem dX11_divides_62 : decode cX11_divides 62 = .ok (.getfield 135, 3) := by decide +kernel
theorem dX11_divides_65 : decode cX11_divides 65 = .ok (.if_icmp .ge 33, 3) := by decide +kernel
theorem dX11_divides_68 : decode cX11_divides 68 = .ok (.aload_n 0, 1) := by decide +kernel
theorem dX11_divides_69 : decode cX11_divides 69 = .ok (.getfield 36, 3) := by decide +kernel
theorem dX11_divides_72 : decode cX11_divides 72 = .ok (.iload_n 2, 1) := by decide +kernel
theorem dX11_divides_73 : decode cX11_divides 73 = .ok (.baload, 1) := by decide +kernel
theorem dX11_divides_74 : decode cX11_divides 74 = .ok (.ifCond .ne 18, 3) := by decide +kernel
theorem dX11_divides_77 : decode cX11_divides 77 = .ok (.aload_n 0, 1) := by decide +kernel
theorem dX11_divides_78 : decode cX11_divides 78 = .ok (.getfield 30, 3) := by decide +kernel
theorem dX11_divides_81 : decode cX11_divides 81 = .ok (.iload_n 1, 1) := by decide +kernel
theorem dX11_divides_82 : decode cX11_divides 82 = .ok (.aload_n 0, 1) := by decide +kernel
theorem dX11_divides_83 : decode cX11_divides 83 = .ok (.getfield 30, 3) := by decide +kernel
theorem dX11_divides_86 : decode cX11_divides 86 = .ok (.iload_n 2, 1) := by decide +kernel
theorem dX11_divides_87 : decode cX11_divides 87 = .ok (.iaload, 1) := by decide +kernel
theorem dX11_divides_88 : decode cX11_divides 88 = .ok (.iastore, 1) := by decide +kernel
theorem dX11_divides_89 : decode cX11_divides 89 = .ok (.iinc 1 1, 3) := by decide +kernel
theorem dX11_divides_92 : decode cX11_divides 92 = .ok (.iinc 2 1, 3) := by decide +kernel
theorem dX11_divides_95 : decode cX11_divides 95 = .ok (.goto (-35), 3) := by decide +kernel
theorem dX11_divides_98 : decode cX11_divides 98 = .ok (.aload_n 0, 1) := by decide +kernel
theorem dX11_divides_99 : decode cX11_divides 99 = .ok (.iload_n 1, 1) := by decide +kernel
theorem dX11_divides_100 : decode cX11_divides 100 = .ok (.putfield 135, 3) := by decide +kernel
theorem dX11_divides_103 : decode cX11_divides 103 = .ok (.iconst 1, 1) := by decide +kernel
theorem dX11_divides_104 : decode cX11_divides 104 = .ok (.ireturn, 1) := by decide +kernel
set_option maxRecDepth 20000 in
theorem ggX11_areAlike_X11_divides : GoodIn wsX11_areAlike wsX11_divides := goodIn_r _ [7, 2, 1, 8, 9, 10, 11, 12, 13, 6, 14, 15, 16, 17, 18, 19, 20, 21, 22, 23, 24, 25, 26, 27, 28, 29, 30, 31, 32, 33, 34, 35, 36, 37, 38, 39, 40, 41, 42, 43, 44, 45, 46, 47, 48, 49, 50, 51, 52, 53, 54, 55, 56, 57, 58, 59, 60, 61, 62, 63, 64, 65, 66] (by decide +kernel) (by decide +kernel)
set_option maxRecDepth 20000 in
theorem gX11_areAlike_X11_divides : GoodIn wsX11_areAlike (wsV RX11 152 RX11 yX11_divides wsX11_divides) := goodIn_app (goodIn_of _ (by decide +kernel)) ggX11_areAlike_X11_divides
theorem dX11_areAlike_0 : decode cX11_areAlike 0 = .ok (.aload_n 0, 1) := by decide +kernel
theorem dX11_areAlike_1 : decode cX11_areAlike 1 = .ok (.getfield 131, 3) := by decide +kernel
theorem dX11_areAlike_4 : decode cX11_areAlike 4 = .ok (.aload_n 0, 1) := by decide +kernel
theorem dX11_areAlike_5 : decode cX11_areAlike 5 = .ok (.getfield 135, 3) := by decide +kernel
theorem dX11_areAlike_8 : decode cX11_areAlike 8 = .ok (.if_icmp .ne 14, 3) := by decide +kernel
theorem dX11_areAlike_11 : decode cX11_areAlike 11 = .ok (.aload_n 0, 1) := by decide +kernel
theorem dX11_areAlike_12 : decode cX11_areAlike 12 = .ok (.invokevirtual 152, 3) := by decide +kernel
theorem dX11_areAlike_15 : decode cX11_areAlike 15 = .ok (.ifCond .eq 7, 3) := by decide +kernel
theorem dX11_areAlike_18 : decode cX11_areAlike 18 = .ok (.iconst 1, 1) := by decide +kernel
theorem dX11_areAlike_19 : decode cX11_areAlike 19 = .ok (.goto 4, 3) := by decide +kernel
theorem dX11_areAlike_22 : decode cX11_areAlike 22 = .ok (.iconst 0, 1) := by decide +kernel
theorem dX11_areAlike_23 : decode cX11_areAlike 23 = .ok (.ireturn, 1) := by decide +kernel
set_option maxRecDepth 20000 in
theorem ggX11_add_X11_isWord : GoodIn wsX11_add wsX11_isWord := goodIn_r _ [5, 6, 7, 4, 8] (by decide +kernel) (by decide +kernel)
set_option maxRecDepth 20000 in
theorem gX11_add_X11_isWord : GoodIn wsX11_add (va_wsS RX11 156 yX11_isWord wsX11_isWord) := goodIn_app (goodIn_of _ (by decide +kernel)) ggX11_add_X11_isWord
set_option maxRecDepth 20000 in
theorem ggX11_add_X11_isLetter : GoodIn wsX11_add wsX11_isLetter := goodIn_r _ [12, 1, 6, 7, 4, 8, 13, 14, 15, 16, 17, 18, 19, 20, 21, 22, 23, 24, 25, 26, 27, 28, 29, 30, 31, 32, 33, 34, 35, 36, 37, 38, 39, 40, 41, 42, 43, 44, 45, 46, 47, 48, 49, 50, 51] (by decide +kernel) (by decide +kernel)
set_option maxRecDepth 20000 in
theorem gX11_add_X11_isLetter : GoodIn wsX11_add (wsV RX11 110 RX11 yX11_isLetter wsX11_isLetter) := goodIn_app (goodIn_of _ (by decide +kernel)) ggX11_add_X11_isLetter
theorem dX11_add_0 : decode cX11_add 0 = .ok (.iload_n 1, 1) := by decide +kernel
theorem dX11_add_1 : decode cX11_add 1 = .ok (.invokestatic 156, 3) := by decide +kernel
theorem dX11_add_4 : decode cX11_add 4 = .ok (.ifCond .eq 11, 3) := by decide +kernel
theorem dX11_add_7 : decode cX11_add 7 = .ok (.aload_n 0, 1) := by decide +kernel
theorem dX11_add_8 : decode cX11_add 8 = .ok (.iload_n 2, 1) := by decide +kernel
theorem dX11_add_9 : decode cX11_add 9 = .ok (.invokevirtual 110, 3) := by decide +kernel
theorem dX11_add_12 : decode cX11_add 12 = .ok (.ifCond .ne 5, 3) := by decide +kernel
theorem dX11_add_15 : decode cX11_add 15 = .ok (.iconst (-1), 1) := by decide +kernel
theorem dX11_add_16 : decode cX11_add 16 = .ok (.ireturn, 1) := by decide +kernel
theorem dX11_add_17 : decode cX11_add 17 = .ok (.aload_n 0, 1) := by decide +kernel
theorem dX11_add_18 : decode cX11_add 18 = .ok (.getfield 7, 3) := by decide +kernel
theorem dX11_add_21 : decode cX11_add 21 = .ok (.bipush 7, 2) := by decide +kernel
theorem dX11_add_23 : decode cX11_add 23 = .ok (.iload_n 1, 1) := by decide +kernel
theorem dX11_add_24 : decode cX11_add 24 = .ok (.iadd, 1) := by decide +kernel
theorem dX11_add_25 : decode cX11_add 25 = .ok (.iaload, 1) := by decide +kernel
theorem dX11_add_26 : decode cX11_add 26 = .ok (.bipush 16, 2) := by decide +kernel
theorem dX11_add_28 : decode cX11_add 28 = .ok (.if_icmp .ne 6, 3) := by decide +kernel
theorem dX11_add_31 : decode cX11_add 31 = .ok (.bipush (-4), 2) := by decide +kernel
theorem dX11_add_33 : decode cX11_add 33 = .ok (.ireturn, 1) := by decide +kernel
theorem dX11_add_34 : decode cX11_add 34 = .ok (.aload_n 0, 1) := by decide +kernel
theorem dX11_add_35 : decode cX11_add 35 = .ok (.getfield 7, 3) := by decide +kernel
theorem dX11_add_38 : decode cX11_add 38 = .ok (.bipush 13, 2) := by decide +kernel
theorem dX11_add_40 : decode cX11_add 40 = .ok (.bipush 16, 2) := by decide +kernel
theorem dX11_add_42 : decode cX11_add 42 = .ok (.iload_n 1, 1) := by decide +kernel
theorem dX11_add_43 : decode cX11_add 43 = .ok (.imul, 1) := by decide +kernel
theorem dX11_add_44 : decode cX11_add 44 = .ok (.iadd, 1) := by decide +kernel
theorem dX11_add_45 : decode cX11_add 45 = .ok (.aload_n 0, 1) := by decide +kernel
theorem dX11_add_46 : decode cX11_add 46 = .ok (.getfield 7, 3) := by decide +kernel
theorem dX11_add_49 : decode cX11_add 49 = .ok (.bipush 7, 2) := by decide +kernel
theorem dX11_add_51 : decode cX11_add 51 = .ok (.iload_n 1, 1) := by decide +kernel
theorem dX11_add_52 : decode cX11_add 52 = .ok (.iadd, 1) := by decide +kernel
theorem dX11_add_53 : decode cX11_add 53 = .ok (.iaload, 1) := by decide +kernel
theorem dX11_add_54 : decode cX11_add 54 = .ok (.iadd, 1) := by decide +kernel
theorem dX11_add_55 : decode cX11_add 55 = .ok (.iload_n 2, 1) := by decide +kernel
theorem dX11_add_56 : decode cX11_add 56 = .ok (.iastore, 1) := by decide +kernel
theorem dX11_add_57 : decode cX11_add 57 = .ok (.aload_n 0, 1) := by decide +kernel
theorem dX11_add_58 : decode cX11_add 58 = .ok (.getfield 7, 3) := by decide +kernel
theorem dX11_add_61 : decode cX11_add 61 = .ok (.bipush 7, 2) := by decide +kernel
theorem dX11_add_63 : decode cX11_add 63 = .ok (.iload_n 1, 1) := by decide +kernel
theorem dX11_add_64 : decode cX11_add 64 = .ok (.iadd, 1) := by decide +kernel
theorem dX11_add_65 : decode cX11_add 65 = .ok (.dup2, 1) := by decide +kernel
theorem dX11_add_66 : decode cX11_add 66 = .ok (.iaload, 1) := by decide +kernel
theorem dX11_add_67 : decode cX11_add 67 = .ok (.iconst 1, 1) := by decide +kernel
theorem dX11_add_68 : decode cX11_add 68 = .ok (.iadd, 1) := by decide +kernel
theorem dX11_add_69 : decode cX11_add 69 = .ok (.iastore, 1) := by decide +kernel
theorem dX11_add_70 : decode cX11_add 70 = .ok (.aload_n 0, 1) := by decide +kernel
theorem dX11_add_71 : decode cX11_add 71 = .ok (.getfield 7, 3) := by decide +kernel
theorem dX11_add_74 : decode cX11_add 74 = .ok (.bipush 7, 2) := by decide +kernel
theorem dX11_add_76 : decode cX11_add 76 = .ok (.iload_n 1, 1) := by decide +kernel
theorem dX11_add_77 : decode cX11_add 77 = .ok (.iadd, 1) := by decide +kernel
theorem dX11_add_78 : decode cX11_add 78 = .ok (.iaload, 1) := by decide +kernel
theorem dX11_add_79 : decode cX11_add 79 = .ok (.ireturn, 1) := by decide +kernel
set_option maxRecDepth 20000 in
theorem ggX11_clear_X11_isWord : GoodIn wsX11_clear wsX11_isWord := goodIn_r _ [5, 6, 7, 4, 8] (by decide +kernel) (by decide +kernel)
set_option maxRecDepth 20000 in
theorem gX11_clear_X11_isWord : GoodIn wsX11_clear (va_wsS RX11 156 yX11_isWord wsX11_isWord) := goodIn_app (goodIn_of _ (by decide +kernel)) ggX11_clear_X11_isWord
theorem dX11_clear_0 : decode cX11_clear 0 = .ok (.iload_n 1, 1) := by decide +kernel
theorem dX11_clear_1 : decode cX11_clear 1 = .ok (.invokestatic 156, 3) := by decide +kernel
theorem dX11_clear_4 : decode cX11_clear 4 = .ok (.ifCond .ne 5, 3) := by decide +kernel
theorem dX11_clear_7 : decode cX11_clear 7 = .ok (.iconst (-1), 1) := by decide +kernel
theorem dX11_clear_8 : decode cX11_clear 8 = .ok (.ireturn, 1) := by decide +kernel
theorem dX11_clear_9 : decode cX11_clear 9 = .ok (.aload_n 0, 1) := by decide +kernel
theorem dX11_clear_10 : decode cX11_clear 10 = .ok (.getfield 7, 3) := by decide +kernel
theorem dX11_clear_13 : decode cX11_clear 13 = .ok (.bipush 7, 2) := by decide +kernel
theorem dX11_clear_15 : decode cX11_clear 15 = .ok (.iload_n 1, 1) := by decide +kernel
theorem dX11_clear_16 : decode cX11_clear 16 = .ok (.iadd, 1) := by decide +kernel
theorem dX11_clear_17 : decode cX11_clear 17 = .ok (.iaload, 1) := by decide +kernel
theorem dX11_clear_18 : decode cX11_clear 18 = .ok (.istore_n 2, 1) := by decide +kernel
theorem dX11_clear_19 : decode cX11_clear 19 = .ok (.aload_n 0, 1) := by decide +kernel
theorem dX11_clear_20 : decode cX11_clear 20 = .ok (.getfield 7, 3) := by decide +kernel
theorem dX11_clear_23 : decode cX11_clear 23 = .ok (.bipush 7, 2) := by decide +kernel
theorem dX11_clear_25 : decode cX11_clear 25 = .ok (.iload_n 1, 1) := by decide +kernel
theorem dX11_clear_26 : decode cX11_clear 26 = .ok (.iadd, 1) := by decide +kernel
theorem dX11_clear_27 : decode cX11_clear 27 = .ok (.iconst 0, 1) := by decide +kernel
theorem dX11_clear_28 : decode cX11_clear 28 = .ok (.iastore, 1) := by decide +kernel
theorem dX11_clear_29 : decode cX11_clear 29 = .ok (.iload_n 2, 1) := by decide +kernel
theorem dX11_clear_30 : decode cX11_clear 30 = .ok (.ireturn, 1) := by decide +kernel
set_option maxRecDepth 20000 in
theorem ggX11_length_X11_isWord : GoodIn wsX11_length wsX11_isWord := goodIn_r _ [5, 6, 7, 4, 8] (by decide +kernel) (by decide +kernel)
set_option maxRecDepth 20000 in
theorem gX11_length_X11_isWord : GoodIn wsX11_length (va_wsS RX11 156 yX11_isWord wsX11_isWord) := goodIn_app (goodIn_of _ (by decide +kernel)) ggX11_length_X11_isWord
theorem dX11_length_0 : decode cX11_length 0 = .ok (.iload_n 1, 1) := by decide +kernel
theorem dX11_length_1 : decode cX11_length 1 = .ok (.invokestatic 156, 3) := by decide +kernel
theorem dX11_length_4 : decode cX11_length 4 = .ok (.ifCond .eq 15, 3) := by decide +kernel
theorem dX11_length_7 : decode cX11_length 7 = .ok (.aload_n 0, 1) := by decide +kernel
theorem dX11_length_8 : decode cX11_length 8 = .ok (.getfield 7, 3) := by decide +kernel
theorem dX11_length_11 : decode cX11_length 11 = .ok (.bipush 7, 2) := by decide +kernel
theorem dX11_length_13 : decode cX11_length 13 = .ok (.iload_n 1, 1) := by decide +kernel
theorem dX11_length_14 : decode cX11_length 14 = .ok (.iadd, 1) := by decide +kernel
theorem dX11_length_15 : decode cX11_length 15 = .ok (.iaload, 1) := by decide +kernel
theorem dX11_length_16 : decode cX11_length 16 = .ok (.goto 4, 3) := by decide +kernel
theorem dX11_length_19 : decode cX11_length 19 = .ok (.iconst (-1), 1) := by decide +kernel
theorem dX11_length_20 : decode cX11_length 20 = .ok (.ireturn, 1) := by decide +kernel
set_option maxRecDepth 20000 in
theorem ggX11_letter_X11_isWord : GoodIn wsX11_letter wsX11_isWord := goodIn_r _ [5, 6, 7, 4, 8] (by decide +kernel) (by decide +kernel)
set_option maxRecDepth 20000 in
theorem gX11_letter_X11_isWord : GoodIn wsX11_letter (va_wsS RX11 156 yX11_isWord wsX11_isWord) := goodIn_app (goodIn_of _ (by decide +kernel)) ggX11_letter_X11_isWord
set_option maxRecDepth 20000 in
theorem ggX11_letter_X11_in : GoodIn wsX11_letter wsX11_in := goodIn_r _ [8] (by decide +kernel) (by decide +kernel)
set_option maxRecDepth 20000 in
theorem gX11_letter_X11_in : GoodIn wsX11_letter (va_wsS RX11 102 yX11_in wsX11_in) := goodIn_app (goodIn_of _ (by decide +kernel)) ggX11_letter_X11_in
theorem dX11_letter_0 : decode cX11_letter 0 = .ok (.iload_n 1, 1) := by decide +kernel
theorem dX11_letter_1 : decode cX11_letter 1 = .ok (.invokestatic 156, 3) := by decide +kernel
theorem dX11_letter_4 : decode cX11_letter 4 = .ok (.ifCond .ne 5, 3) := by decide +kernel
theorem dX11_letter_7 : decode cX11_letter 7 = .ok (.iconst (-1), 1) := by decide +kernel
theorem dX11_letter_8 : decode cX11_letter 8 = .ok (.ireturn, 1) := by decide +kernel
theorem dX11_letter_9 : decode cX11_letter 9 = .ok (.iload_n 2, 1) := by decide +kernel
theorem dX11_letter_10 : decode cX11_letter 10 = .ok (.iconst 0, 1) := by decide +kernel
theorem dX11_letter_11 : decode cX11_letter 11 = .ok (.aload_n 0, 1) := by decide +kernel
theorem dX11_letter_12 : decode cX11_letter 12 = .ok (.getfield 7, 3) := by decide +kernel
theorem dX11_letter_15 : decode cX11_letter 15 = .ok (.bipush 7, 2) := by decide +kernel
theorem dX11_letter_17 : decode cX11_letter 17 = .ok (.iload_n 1, 1) := by decide +kernel
theorem dX11_letter_18 : decode cX11_letter 18 = .ok (.iadd, 1) := by decide +kernel
theorem dX11_letter_19 : decode cX11_letter 19 = .ok (.iaload, 1) := by decide +kernel
theorem dX11_letter_20 : decode cX11_letter 20 = .ok (.iconst 1, 1) := by decide +kernel
theorem dX11_letter_21 : decode cX11_letter 21 = .ok (.isub, 1) := by decide +kernel
theorem dX11_letter_22 : decode cX11_letter 22 = .ok (.invokestatic 102, 3) := by decide +kernel
theorem dX11_letter_25 : decode cX11_letter 25 = .ok (.ifCond .eq 20, 3) := by decide +kernel
theorem dX11_letter_28 : decode cX11_letter 28 = .ok (.aload_n 0, 1) := by decide +kernel
theorem dX11_letter_29 : decode cX11_letter 29 = .ok (.getfield 7, 3) := by decide +kernel
theorem dX11_letter_32 : decode cX11_letter 32 = .ok (.bipush 13, 2) := by decide +kernel
theorem dX11_letter_34 : decode cX11_letter 34 = .ok (.bipush 16, 2) := by decide +kernel
theorem dX11_letter_36 : decode cX11_letter 36 = .ok (.iload_n 1, 1) := by decide +kernel
theorem dX11_letter_37 : decode cX11_letter 37 = .ok (.imul, 1) := by decide +kernel
theorem dX11_letter_38 : decode cX11_letter 38 = .ok (.iadd, 1) := by decide +kernel
theorem dX11_letter_39 : decode cX11_letter 39 = .ok (.iload_n 2, 1) := by decide +kernel
theorem dX11_letter_40 : decode cX11_letter 40 = .ok (.iadd, 1) := by decide +kernel
theorem dX11_letter_41 : decode cX11_letter 41 = .ok (.iaload, 1) := by decide +kernel
theorem dX11_letter_42 : decode cX11_letter 42 = .ok (.goto 5, 3) := by decide +kernel
theorem dX11_letter_45 : decode cX11_letter 45 = .ok (.bipush (-5), 2) := by decide +kernel
theorem dX11_letter_47 : decode cX11_letter 47 = .ok (.ireturn, 1) := by decide +kernel
set_option maxRecDepth 20000 in
theorem ggX11_normal_X11_isWord : GoodIn wsX11_normal wsX11_isWord := goodIn_r _ [8, 9, 10, 7, 11] (by decide +kernel) (by decide +kernel)
set_option maxRecDepth 20000 in
theorem gX11_normal_X11_isWord : GoodIn wsX11_normal (va_wsS RX11 156 yX11_isWord wsX11_isWord) := goodIn_app (goodIn_of _ (by decide +kernel)) ggX11_normal_X11_isWord
set_option maxRecDepth 20000 in
theorem ggX11_normal_X11_takesOne : GoodIn wsX11_normal wsX11_takesOne := goodIn_r _ [15, 16, 2, 1, 38, 39, 40, 41, 42, 43, 44, 45, 46, 47, 48, 49, 50, 51, 52, 53, 54, 55, 56, 57, 58, 59, 60, 61, 62, 63, 64, 65, 66, 67, 68, 69, 70, 71, 72, 73, 74, 75, 76] (by decide +kernel) (by decide +kernel)
set_option maxRecDepth 20000 in
theorem gX11_normal_X11_takesOne : GoodIn wsX11_normal (wsV RX11 159 RX11 yX11_takesOne wsX11_takesOne) := goodIn_app (goodIn_of _ (by decide +kernel)) ggX11_normal_X11_takesOne
set_option maxRecDepth 20000 in
theorem ggX11_normal_X11_normalizes : GoodIn wsX11_normal wsX11_normalizes := goodIn_r _ [20, 3, 21, 4, 22, 23, 24, 7, 25, 26, 27, 28, 29, 30, 31, 32, 33, 34, 35, 36, 37, 16, 38, 39, 40, 41, 42, 43, 44, 45, 46, 47, 48, 49, 50, 51, 52, 53, 54, 55, 56, 57, 58, 59, 60, 61, 62, 63, 64, 65, 66, 67, 68, 69, 70, 71, 72, 73, 74, 75, 76] (by decide +kernel) (by decide +kernel)
set_option maxRecDepth 20000 in
theorem gX11_normal_X11_normalizes : GoodIn wsX11_normal (wsV RX11 162 RX11 yX11_normalizes wsX11_normalizes) := goodIn_app (goodIn_of _ (by decide +kernel)) ggX11_normal_X11_normalizes
set_option maxRecDepth 20000 in
theorem ggX11_normal_X11_in : GoodIn wsX11_normal wsX11_in := goodIn_r _ [11] (by decide +kernel) (by decide +kernel)
set_option maxRecDepth 20000 in
theorem gX11_normal_X11_in : GoodIn wsX11_normal (va_wsS RX11 102 yX11_in wsX11_in) := goodIn_app (goodIn_of _ (by decide +kernel)) ggX11_normal_X11_in
theorem dX11_normal_0 : decode cX11_normal 0 = .ok (.iload_n 1, 1) := by decide +kernel
theorem dX11_normal_1 : decode cX11_normal 1 = .ok (.invokestatic 156, 3) := by decide +kernel
theorem dX11_normal_4 : decode cX11_normal 4 = .ok (.ifCond .ne 5, 3) := by decide +kernel
theorem dX11_normal_7 : decode cX11_normal 7 = .ok (.iconst (-1), 1) := by decide +kernel
theorem dX11_normal_8 : decode cX11_normal 8 = .ok (.ireturn, 1) := by decide +kernel
theorem dX11_normal_9 : decode cX11_normal 9 = .ok (.aload_n 0, 1) := by decide +kernel
theorem dX11_normal_10 : decode cX11_normal 10 = .ok (.iload_n 1, 1) := by decide +kernel
theorem dX11_normal_11 : decode cX11_normal 11 = .ok (.invokevirtual 159, 3) := by decide +kernel
theorem dX11_normal_14 : decode cX11_normal 14 = .ok (.aload_n 0, 1) := by decide +kernel
theorem dX11_normal_15 : decode cX11_normal 15 = .ok (.aload_n 0, 1) := by decide +kernel
theorem dX11_normal_16 : decode cX11_normal 16 = .ok (.getfield 27, 3) := by decide +kernel
theorem dX11_normal_19 : decode cX11_normal 19 = .ok (.aload_n 0, 1) := by decide +kernel
theorem dX11_normal_20 : decode cX11_normal 20 = .ok (.getfield 131, 3) := by decide +kernel
theorem dX11_normal_23 : decode cX11_normal 23 = .ok (.invokevirtual 162, 3) := by decide +kernel
theorem dX11_normal_26 : decode cX11_normal 26 = .ok (.iload_n 2, 1) := by decide +kernel
theorem dX11_normal_27 : decode cX11_normal 27 = .ok (.iconst 0, 1) := by decide +kernel
theorem dX11_normal_28 : decode cX11_normal 28 = .ok (.aload_n 0, 1) := by decide +kernel
theorem dX11_normal_29 : decode cX11_normal 29 = .ok (.getfield 145, 3) := by decide +kernel
theorem dX11_normal_32 : decode cX11_normal 32 = .ok (.iconst 1, 1) := by decide +kernel
theorem dX11_normal_33 : decode cX11_normal 33 = .ok (.isub, 1) := by decide +kernel
theorem dX11_normal_34 : decode cX11_normal 34 = .ok (.invokestatic 102, 3) := by decide +kernel
theorem dX11_normal_37 : decode cX11_normal 37 = .ok (.ifCond .eq 12, 3) := by decide +kernel
theorem dX11_normal_40 : decode cX11_normal 40 = .ok (.aload_n 0, 1) := by decide +kernel
theorem dX11_normal_41 : decode cX11_normal 41 = .ok (.getfield 33, 3) := by decide +kernel
theorem dX11_normal_44 : decode cX11_normal 44 = .ok (.iload_n 2, 1) := by decide +kernel
theorem dX11_normal_45 : decode cX11_normal 45 = .ok (.iaload, 1) := by decide +kernel
theorem dX11_normal_46 : decode cX11_normal 46 = .ok (.goto 5, 3) := by decide +kernel
theorem dX11_normal_49 : decode cX11_normal 49 = .ok (.bipush (-5), 2) := by decide +kernel
theorem dX11_normal_51 : decode cX11_normal 51 = .ok (.ireturn, 1) := by decide +kernel
set_option maxRecDepth 20000 in
theorem ggX11_findLayers_X11_areFree : GoodIn wsX11_findLayers wsX11_areFree := goodIn_r _ [8, 9, 10, 11, 12, 13, 14, 15, 16, 17, 18, 19, 20, 21, 22, 23, 24, 25, 26, 27, 28, 29, 30, 31, 32, 33, 34, 35, 36, 37, 38, 39, 40, 41, 42, 43, 44, 45, 46, 47, 48] (by decide +kernel) (by decide +kernel)
set_option maxRecDepth 20000 in
theorem gX11_findLayers_X11_areFree : GoodIn wsX11_findLayers (wsV RX11 114 RX11 yX11_areFree wsX11_areFree) := goodIn_app (goodIn_of _ (by decide +kernel)) ggX11_findLayers_X11_areFree
theorem dX11_findLayers_0 : decode cX11_findLayers 0 = .ok (.iconst 0, 1) := by decide +kernel
theorem dX11_findLayers_1 : decode cX11_findLayers 1 = .ok (.istore_n 1, 1) := by decide +kernel
theorem dX11_findLayers_2 : decode cX11_findLayers 2 = .ok (.iconst 0, 1) := by decide +kernel
theorem dX11_findLayers_3 : decode cX11_findLayers 3 = .ok (.istore_n 2, 1) := by decide +kernel
theorem dX11_findLayers_4 : decode cX11_findLayers 4 = .ok (.iload_n 2, 1) := by decide +kernel
theorem dX11_findLayers_5 : decode cX11_findLayers 5 = .ok (.aload_n 0, 1) := by decide +kernel
theorem dX11_findLayers_6 : decode cX11_findLayers 6 = .ok (.getfield 131, 3) := by decide +kernel
theorem dX11_findLayers_9 : decode cX11_findLayers 9 = .ok (.if_icmp .ge 121, 3) := by decide +kernel
theorem dX11_findLayers_12 : decode cX11_findLayers 12 = .ok (.aload_n 0, 1) := by decide +kernel
theorem dX11_findLayers_13 : decode cX11_findLayers 13 = .ok (.getfield 39, 3) := by decide +kernel
theorem dX11_findLayers_16 : decode cX11_findLayers 16 = .ok (.iload_n 2, 1) := by decide +kernel
theorem dX11_findLayers_17 : decode cX11_findLayers 17 = .ok (.iconst 0, 1) := by decide +kernel
theorem dX11_findLayers_18 : decode cX11_findLayers 18 = .ok (.iastore, 1) := by decide +kernel
theorem dX11_findLayers_19 : decode cX11_findLayers 19 = .ok (.iconst 0, 1) := by decide +kernel
theorem dX11_findLayers_20 : decode cX11_findLayers 20 = .ok (.istore_n 3, 1) := by decide +kernel
theorem dX11_findLayers_21 : decode cX11_findLayers 21 = .ok (.iload_n 3, 1) := by decide +kernel
theorem dX11_findLayers_22 : decode cX11_findLayers 22 = .ok (.iload_n 2, 1) := by decide +kernel
theorem dX11_findLayers_23 : decode cX11_findLayers 23 = .ok (.if_icmp .ge 78, 3) := by decide +kernel
theorem dX11_findLayers_26 : decode cX11_findLayers 26 = .ok (.aload_n 0, 1) := by decide +kernel
theorem dX11_findLayers_27 : decode cX11_findLayers 27 = .ok (.aload_n 0, 1) := by decide +kernel
theorem dX11_findLayers_28 : decode cX11_findLayers 28 = .ok (.getfield 27, 3) := by decide +kernel
theorem dX11_findLayers_31 : decode cX11_findLayers 31 = .ok (.iload_n 3, 1) := by decide +kernel
theorem dX11_findLayers_32 : decode cX11_findLayers 32 = .ok (.iaload, 1) := by decide +kernel
theorem dX11_findLayers_33 : decode cX11_findLayers 33 = .ok (.aload_n 0, 1) := by decide +kernel
theorem dX11_findLayers_34 : decode cX11_findLayers 34 = .ok (.getfield 27, 3) := by decide +kernel
theorem dX11_findLayers_37 : decode cX11_findLayers 37 = .ok (.iload_n 2, 1) := by decide +kernel
theorem dX11_findLayers_38 : decode cX11_findLayers 38 = .ok (.iaload, 1) := by decide +kernel
theorem dX11_findLayers_39 : decode cX11_findLayers 39 = .ok (.invokevirtual 114, 3) := by decide +kernel
theorem dX11_findLayers_42 : decode cX11_findLayers 42 = .ok (.ifCond .ne 22, 3) := by decide +kernel
theorem dX11_findLayers_45 : decode cX11_findLayers 45 = .ok (.aload_n 0, 1) := by decide +kernel
theorem dX11_findLayers_46 : decode cX11_findLayers 46 = .ok (.getfield 39, 3) := by decide +kernel
theorem dX11_findLayers_49 : decode cX11_findLayers 49 = .ok (.iload_n 3, 1) := by decide +kernel
theorem dX11_findLayers_50 : decode cX11_findLayers 50 = .ok (.iaload, 1) := by decide +kernel
theorem dX11_findLayers_51 : decode cX11_findLayers 51 = .ok (.aload_n 0, 1) := by decide +kernel
theorem dX11_findLayers_52 : decode cX11_findLayers 52 = .ok (.getfield 39, 3) := by decide +kernel
theorem dX11_findLayers_55 : decode cX11_findLayers 55 = .ok (.iload_n 2, 1) := by decide +kernel
theorem dX11_findLayers_56 : decode cX11_findLayers 56 = .ok (.iaload, 1) := by decide +kernel
theorem dX11_findLayers_57 : decode cX11_findLayers 57 = .ok (.if_icmp .lt 7, 3) := by decide +kernel
theorem dX11_findLayers_60 : decode cX11_findLayers 60 = .ok (.iconst 1, 1) := by decide +kernel
theorem dX11_findLayers_61 : decode cX11_findLayers 61 = .ok (.goto 4, 3) := by decide +kernel
theorem dX11_findLayers_64 : decode cX11_findLayers 64 = .ok (.iconst 0, 1) := by decide +kernel
theorem dX11_findLayers_65 : decode cX11_findLayers 65 = .ok (.istore 4, 2) := by decide +kernel
theorem dX11_findLayers_67 : decode cX11_findLayers 67 = .ok (.aload_n 0, 1) := by decide +kernel
theorem dX11_findLayers_68 : decode cX11_findLayers 68 = .ok (.getfield 39, 3) := by decide +kernel
theorem dX11_findLayers_71 : decode cX11_findLayers 71 = .ok (.iload_n 2, 1) := by decide +kernel
theorem dX11_findLayers_72 : decode cX11_findLayers 72 = .ok (.iload 4, 2) := by decide +kernel
theorem dX11_findLayers_74 : decode cX11_findLayers 74 = .ok (.ifCond .eq 14, 3) := by decide +kernel
theorem dX11_findLayers_77 : decode cX11_findLayers 77 = .ok (.aload_n 0, 1) := by decide +kernel
theorem dX11_findLayers_78 : decode cX11_findLayers 78 = .ok (.getfield 39, 3) := by decide +kernel
theorem dX11_findLayers_81 : decode cX11_findLayers 81 = .ok (.iload_n 3, 1) := by decide +kernel
theorem dX11_findLayers_82 : decode cX11_findLayers 82 = .ok (.iaload, 1) := by decide +kernel
theorem dX11_findLayers_83 : decode cX11_findLayers 83 = .ok (.iconst 1, 1) := by decide +kernel
theorem dX11_findLayers_84 : decode cX11_findLayers 84 = .ok (.iadd, 1) := by decide +kernel
theorem dX11_findLayers_85 : decode cX11_findLayers 85 = .ok (.goto 9, 3) := by decide +kernel
theorem dX11_findLayers_88 : decode cX11_findLayers 88 = .ok (.aload_n 0, 1) := by decide +kernel
theorem dX11_findLayers_89 : decode cX11_findLayers 89 = .ok (.getfield 39, 3) := by decide +kernel
theorem dX11_findLayers_92 : decode cX11_findLayers 92 = .ok (.iload_n 2, 1) := by decide +kernel
theorem dX11_findLayers_93 : decode cX11_findLayers 93 = .ok (.iaload, 1) := by decide +kernel
theorem dX11_findLayers_94 : decode cX11_findLayers 94 = .ok (.iastore, 1) := by decide +kernel
theorem dX11_findLayers_95 : decode cX11_findLayers 95 = .ok (.iinc 3 1, 3) := by decide +kernel
theorem dX11_findLayers_98 : decode cX11_findLayers 98 = .ok (.goto (-77), 3) := by decide +kernel
theorem dX11_findLayers_101 : decode cX11_findLayers 101 = .ok (.aload_n 0, 1) := by decide +kernel
theorem dX11_findLayers_102 : decode cX11_findLayers 102 = .ok (.getfield 39, 3) := by decide +kernel
theorem dX11_findLayers_105 : decode cX11_findLayers 105 = .ok (.iload_n 2, 1) := by decide +kernel
theorem dX11_findLayers_106 : decode cX11_findLayers 106 = .ok (.iaload, 1) := by decide +kernel
theorem dX11_findLayers_107 : decode cX11_findLayers 107 = .ok (.iload_n 1, 1) := by decide +kernel
theorem dX11_findLayers_108 : decode cX11_findLayers 108 = .ok (.if_icmp .lt 14, 3) := by decide +kernel
theorem dX11_findLayers_111 : decode cX11_findLayers 111 = .ok (.aload_n 0, 1) := by decide +kernel
theorem dX11_findLayers_112 : decode cX11_findLayers 112 = .ok (.getfield 39, 3) := by decide +kernel
theorem dX11_findLayers_115 : decode cX11_findLayers 115 = .ok (.iload_n 2, 1) := by decide +kernel
theorem dX11_findLayers_116 : decode cX11_findLayers 116 = .ok (.iaload, 1) := by decide +kernel
theorem dX11_findLayers_117 : decode cX11_findLayers 117 = .ok (.iconst 1, 1) := by decide +kernel
theorem dX11_findLayers_118 : decode cX11_findLayers 118 = .ok (.iadd, 1) := by decide +kernel
theorem dX11_findLayers_119 : decode cX11_findLayers 119 = .ok (.goto 4, 3) := by decide +kernel
theorem dX11_findLayers_122 : decode cX11_findLayers 122 = .ok (.iload_n 1, 1) := by decide +kernel
theorem dX11_findLayers_123 : decode cX11_findLayers 123 = .ok (.istore_n 1, 1) := by decide +kernel
theorem dX11_findLayers_124 : decode cX11_findLayers 124 = .ok (.iinc 2 1, 3) := by decide +kernel
theorem dX11_findLayers_127 : decode cX11_findLayers 127 = .ok (.goto (-123), 3) := by decide +kernel
theorem dX11_findLayers_130 : decode cX11_findLayers 130 = .ok (.iload_n 1, 1) := by decide +kernel
theorem dX11_findLayers_131 : decode cX11_findLayers 131 = .ok (.ireturn, 1) := by decide +kernel
set_option maxRecDepth 20000 in
theorem ggX11_layers_X11_isWord : GoodIn wsX11_layers wsX11_isWord := goodIn_r _ [4, 5, 6, 3, 7] (by decide +kernel) (by decide +kernel)
set_option maxRecDepth 20000 in
theorem gX11_layers_X11_isWord : GoodIn wsX11_layers (va_wsS RX11 156 yX11_isWord wsX11_isWord) := goodIn_app (goodIn_of _ (by decide +kernel)) ggX11_layers_X11_isWord
set_option maxRecDepth 20000 in
theorem ggX11_layers_X11_takesOne : GoodIn wsX11_layers wsX11_takesOne := goodIn_r _ [11, 12, 13, 14, 24, 25, 26, 27, 28, 29, 30, 31, 32, 33, 34, 35, 36, 37, 38, 39, 40, 41, 42, 43, 44, 45, 46, 47, 48, 49, 50, 51, 52, 53, 54, 55, 56, 57, 58, 59, 60, 61, 62] (by decide +kernel) (by decide +kernel)
set_option maxRecDepth 20000 in
theorem gX11_layers_X11_takesOne : GoodIn wsX11_layers (wsV RX11 159 RX11 yX11_takesOne wsX11_takesOne) := goodIn_app (goodIn_of _ (by decide +kernel)) ggX11_layers_X11_takesOne
set_option maxRecDepth 20000 in
theorem ggX11_layers_X11_findLayers : GoodIn wsX11_layers wsX11_findLayers := goodIn_r _ [18, 13, 19, 14, 20, 21, 22, 3, 23, 12, 24, 25, 26, 27, 28, 29, 30, 31, 32, 33, 34, 35, 36, 37, 38, 39, 40, 41, 42, 43, 44, 45, 46, 47, 48, 49, 50, 51, 52, 53, 54, 55, 56, 57, 58, 59, 60, 61, 62] (by decide +kernel) (by decide +kernel)
set_option maxRecDepth 20000 in
theorem gX11_layers_X11_findLayers : GoodIn wsX11_layers (wsV RX11 166 RX11 yX11_findLayers wsX11_findLayers) := goodIn_app (goodIn_of _ (by decide +kernel)) ggX11_layers_X11_findLayers
theorem dX11_layers_0 : decode cX11_layers 0 = .ok (.iload_n 1, 1) := by decide +kernel
theorem dX11_layers_1 : decode cX11_layers 1 = .ok (.invokestatic 156, 3) := by decide +kernel
theorem dX11_layers_4 : decode cX11_layers 4 = .ok (.ifCond .ne 5, 3) := by decide +kernel
theorem dX11_layers_7 : decode cX11_layers 7 = .ok (.iconst (-1), 1) := by decide +kernel
theorem dX11_layers_8 : decode cX11_layers 8 = .ok (.ireturn, 1) := by decide +kernel
theorem dX11_layers_9 : decode cX11_layers 9 = .ok (.aload_n 0, 1) := by decide +kernel
theorem dX11_layers_10 : decode cX11_layers 10 = .ok (.iload_n 1, 1) := by decide +kernel
theorem dX11_layers_11 : decode cX11_layers 11 = .ok (.invokevirtual 159, 3) := by decide +kernel
theorem dX11_layers_14 : decode cX11_layers 14 = .ok (.aload_n 0, 1) := by decide +kernel
theorem dX11_layers_15 : decode cX11_layers 15 = .ok (.invokevirtual 166, 3) := by decide +kernel
theorem dX11_layers_18 : decode cX11_layers 18 = .ok (.ireturn, 1) := by decide +kernel
theorem dX11_layerNow_0 : decode cX11_layerNow 0 = .ok (.iconst 0, 1) := by decide +kernel
theorem dX11_layerNow_1 : decode cX11_layerNow 1 = .ok (.istore_n 2, 1) := by decide +kernel
theorem dX11_layerNow_2 : decode cX11_layerNow 2 = .ok (.iconst 0, 1) := by decide +kernel
theorem dX11_layerNow_3 : decode cX11_layerNow 3 = .ok (.istore_n 3, 1) := by decide +kernel
theorem dX11_layerNow_4 : decode cX11_layerNow 4 = .ok (.iload_n 3, 1) := by decide +kernel
theorem dX11_layerNow_5 : decode cX11_layerNow 5 = .ok (.aload_n 0, 1) := by decide +kernel
theorem dX11_layerNow_6 : decode cX11_layerNow 6 = .ok (.getfield 131, 3) := by decide +kernel
theorem dX11_layerNow_9 : decode cX11_layerNow 9 = .ok (.if_icmp .ge 34, 3) := by decide +kernel
theorem dX11_layerNow_12 : decode cX11_layerNow 12 = .ok (.iload_n 2, 1) := by decide +kernel
theorem dX11_layerNow_13 : decode cX11_layerNow 13 = .ok (.aload_n 0, 1) := by decide +kernel
theorem dX11_layerNow_14 : decode cX11_layerNow 14 = .ok (.getfield 39, 3) := by decide +kernel
theorem dX11_layerNow_17 : decode cX11_layerNow 17 = .ok (.iload_n 3, 1) := by decide +kernel
theorem dX11_layerNow_18 : decode cX11_layerNow 18 = .ok (.iaload, 1) := by decide +kernel
theorem dX11_layerNow_19 : decode cX11_layerNow 19 = .ok (.iload_n 1, 1) := by decide +kernel
theorem dX11_layerNow_20 : decode cX11_layerNow 20 = .ok (.if_icmp .ne 14, 3) := by decide +kernel
theorem dX11_layerNow_23 : decode cX11_layerNow 23 = .ok (.iconst 1, 1) := by decide +kernel
theorem dX11_layerNow_24 : decode cX11_layerNow 24 = .ok (.aload_n 0, 1) := by decide +kernel
theorem dX11_layerNow_25 : decode cX11_layerNow 25 = .ok (.getfield 27, 3) := by decide +kernel
theorem dX11_layerNow_28 : decode cX11_layerNow 28 = .ok (.iload_n 3, 1) := by decide +kernel
theorem dX11_layerNow_29 : decode cX11_layerNow 29 = .ok (.iaload, 1) := by decide +kernel
theorem dX11_layerNow_30 : decode cX11_layerNow 30 = .ok (.ishl, 1) := by decide +kernel
theorem dX11_layerNow_31 : decode cX11_layerNow 31 = .ok (.goto 4, 3) := by decide +kernel
theorem dX11_layerNow_34 : decode cX11_layerNow 34 = .ok (.iconst 0, 1) := by decide +kernel
theorem dX11_layerNow_35 : decode cX11_layerNow 35 = .ok (.ior, 1) := by decide +kernel
theorem dX11_layerNow_36 : decode cX11_layerNow 36 = .ok (.istore_n 2, 1) := by decide +kernel
theorem dX11_layerNow_37 : decode cX11_layerNow 37 = .ok (.iinc 3 1, 3) := by decide +kernel
theorem dX11_layerNow_40 : decode cX11_layerNow 40 = .ok (.goto (-36), 3) := by decide +kernel
theorem dX11_layerNow_43 : decode cX11_layerNow 43 = .ok (.iload_n 2, 1) := by decide +kernel
theorem dX11_layerNow_44 : decode cX11_layerNow 44 = .ok (.ireturn, 1) := by decide +kernel
set_option maxRecDepth 20000 in
theorem ggX11_layer_X11_isWord : GoodIn wsX11_layer wsX11_isWord := goodIn_r _ [4, 5, 6, 3, 7] (by decide +kernel) (by decide +kernel)
set_option maxRecDepth 20000 in
theorem gX11_layer_X11_isWord : GoodIn wsX11_layer (va_wsS RX11 156 yX11_isWord wsX11_isWord) := goodIn_app (goodIn_of _ (by decide +kernel)) ggX11_layer_X11_isWord
set_option maxRecDepth 20000 in
theorem ggX11_layer_X11_takesOne : GoodIn wsX11_layer wsX11_takesOne := goodIn_r _ [11, 12, 13, 14, 28, 29, 30, 31, 32, 33, 34, 35, 36, 37, 38, 39, 40, 41, 42, 43, 44, 45, 46, 47, 48, 49, 50, 51, 52, 53, 54, 55, 56, 57, 58, 59, 60, 61, 62, 63, 64, 65, 66] (by decide +kernel) (by decide +kernel)
set_option maxRecDepth 20000 in
theorem gX11_layer_X11_takesOne : GoodIn wsX11_layer (wsV RX11 159 RX11 yX11_takesOne wsX11_takesOne) := goodIn_app (goodIn_of _ (by decide +kernel)) ggX11_layer_X11_takesOne
set_option maxRecDepth 20000 in
theorem ggX11_layer_X11_findLayers : GoodIn wsX11_layer wsX11_findLayers := goodIn_r _ [18, 13, 19, 14, 20, 21, 22, 3, 23, 12, 28, 29, 30, 31, 32, 33, 34, 35, 36, 37, 38, 39, 40, 41, 42, 43, 44, 45, 46, 47, 48, 49, 50, 51, 52, 53, 54, 55, 56, 57, 58, 59, 60, 61, 62, 63, 64, 65, 66] (by decide +kernel) (by decide +kernel)
set_option maxRecDepth 20000 in
theorem gX11_layer_X11_findLayers : GoodIn wsX11_layer (wsV RX11 166 RX11 yX11_findLayers wsX11_findLayers) := goodIn_app (goodIn_of _ (by decide +kernel)) ggX11_layer_X11_findLayers
set_option maxRecDepth 20000 in
theorem ggX11_layer_X11_in : GoodIn wsX11_layer wsX11_in := goodIn_r _ [7] (by decide +kernel) (by decide +kernel)
set_option maxRecDepth 20000 in
theorem gX11_layer_X11_in : GoodIn wsX11_layer (va_wsS RX11 102 yX11_in wsX11_in) := goodIn_app (goodIn_of _ (by decide +kernel)) ggX11_layer_X11_in
set_option maxRecDepth 20000 in
theorem ggX11_layer_X11_layerNow : GoodIn wsX11_layer wsX11_layerNow := goodIn_r _ [27, 13, 19, 14, 28, 29, 30, 31, 32, 33, 34, 35, 36, 37, 38, 39, 40, 41, 42, 43, 44, 45, 46, 47, 48, 49, 50, 51, 52, 53, 54, 55, 56, 57, 58, 59, 60, 61, 62, 63, 64, 65, 66] (by decide +kernel) (by decide +kernel)
set_option maxRecDepth 20000 in
theorem gX11_layer_X11_layerNow : GoodIn wsX11_layer (wsV RX11 170 RX11 yX11_layerNow wsX11_layerNow) := goodIn_app (goodIn_of _ (by decide +kernel)) ggX11_layer_X11_layerNow
theorem dX11_layer_0 : decode cX11_layer 0 = .ok (.iload_n 1, 1) := by decide +kernel
theorem dX11_layer_1 : decode cX11_layer 1 = .ok (.invokestatic 156, 3) := by decide +kernel
theorem dX11_layer_4 : decode cX11_layer 4 = .ok (.ifCond .ne 5, 3) := by decide +kernel
theorem dX11_layer_7 : decode cX11_layer 7 = .ok (.iconst (-1), 1) := by decide +kernel
theorem dX11_layer_8 : decode cX11_layer 8 = .ok (.ireturn, 1) := by decide +kernel
theorem dX11_layer_9 : decode cX11_layer 9 = .ok (.aload_n 0, 1) := by decide +kernel
theorem dX11_layer_10 : decode cX11_layer 10 = .ok (.iload_n 1, 1) := by decide +kernel
theorem dX11_layer_11 : decode cX11_layer 11 = .ok (.invokevirtual 159, 3) := by decide +kernel
theorem dX11_layer_14 : decode cX11_layer 14 = .ok (.aload_n 0, 1) := by decide +kernel
theorem dX11_layer_15 : decode cX11_layer 15 = .ok (.invokevirtual 166, 3) := by decide +kernel
theorem dX11_layer_18 : decode cX11_layer 18 = .ok (.istore_n 3, 1) := by decide +kernel
theorem dX11_layer_19 : decode cX11_layer 19 = .ok (.iload_n 2, 1) := by decide +kernel
theorem dX11_layer_20 : decode cX11_layer 20 = .ok (.iconst 0, 1) := by decide +kernel
theorem dX11_layer_21 : decode cX11_layer 21 = .ok (.iload_n 3, 1) := by decide +kernel
theorem dX11_layer_22 : decode cX11_layer 22 = .ok (.iconst 1, 1) := by decide +kernel
theorem dX11_layer_23 : decode cX11_layer 23 = .ok (.isub, 1) := by decide +kernel
theorem dX11_layer_24 : decode cX11_layer 24 = .ok (.invokestatic 102, 3) := by decide +kernel
theorem dX11_layer_27 : decode cX11_layer 27 = .ok (.ifCond .eq 11, 3) := by decide +kernel
theorem dX11_layer_30 : decode cX11_layer 30 = .ok (.aload_n 0, 1) := by decide +kernel
theorem dX11_layer_31 : decode cX11_layer 31 = .ok (.iload_n 2, 1) := by decide +kernel
theorem dX11_layer_32 : decode cX11_layer 32 = .ok (.invokevirtual 170, 3) := by decide +kernel
theorem dX11_layer_35 : decode cX11_layer 35 = .ok (.goto 5, 3) := by decide +kernel
theorem dX11_layer_38 : decode cX11_layer 38 = .ok (.bipush (-5), 2) := by decide +kernel
theorem dX11_layer_40 : decode cX11_layer 40 = .ok (.ireturn, 1) := by decide +kernel
set_option maxRecDepth 20000 in
theorem ggX11_projected_X11_isWord : GoodIn wsX11_projected wsX11_isWord := goodIn_r _ [5, 6, 7, 4, 8] (by decide +kernel) (by decide +kernel)
set_option maxRecDepth 20000 in
theorem gX11_projected_X11_isWord : GoodIn wsX11_projected (va_wsS RX11 156 yX11_isWord wsX11_isWord) := goodIn_app (goodIn_of _ (by decide +kernel)) ggX11_projected_X11_isWord
set_option maxRecDepth 20000 in
theorem ggX11_projected_X11_isLetter : GoodIn wsX11_projected wsX11_isLetter := goodIn_r _ [12, 1, 6, 7, 4, 8, 13, 14, 15, 16, 17, 18, 19, 20, 21, 22, 23, 24, 25, 26, 27, 28, 29, 30, 31, 32, 33, 34, 35, 36, 37, 38, 39, 40, 41, 42, 43, 44, 45, 46, 47, 48, 49, 50, 51] (by decide +kernel) (by decide +kernel)
set_option maxRecDepth 20000 in
theorem gX11_projected_X11_isLetter : GoodIn wsX11_projected (wsV RX11 110 RX11 yX11_isLetter wsX11_isLetter) := goodIn_app (goodIn_of _ (by decide +kernel)) ggX11_projected_X11_isLetter
theorem dX11_projected_0 : decode cX11_projected 0 = .ok (.iload_n 1, 1) := by decide +kernel
theorem dX11_projected_1 : decode cX11_projected 1 = .ok (.invokestatic 156, 3) := by decide +kernel
theorem dX11_projected_4 : decode cX11_projected 4 = .ok (.ifCond .eq 19, 3) := by decide +kernel
theorem dX11_projected_7 : decode cX11_projected 7 = .ok (.aload_n 0, 1) := by decide +kernel
theorem dX11_projected_8 : decode cX11_projected 8 = .ok (.iload_n 2, 1) := by decide +kernel
theorem dX11_projected_9 : decode cX11_projected 9 = .ok (.invokevirtual 110, 3) := by decide +kernel
theorem dX11_projected_12 : decode cX11_projected 12 = .ok (.ifCond .eq 11, 3) := by decide +kernel
theorem dX11_projected_15 : decode cX11_projected 15 = .ok (.aload_n 0, 1) := by decide +kernel
theorem dX11_projected_16 : decode cX11_projected 16 = .ok (.iload_n 3, 1) := by decide +kernel
theorem dX11_projected_17 : decode cX11_projected 17 = .ok (.invokevirtual 110, 3) := by decide +kernel
theorem dX11_projected_20 : decode cX11_projected 20 = .ok (.ifCond .ne 5, 3) := by decide +kernel
theorem dX11_projected_23 : decode cX11_projected 23 = .ok (.iconst (-1), 1) := by decide +kernel
theorem dX11_projected_24 : decode cX11_projected 24 = .ok (.ireturn, 1) := by decide +kernel
theorem dX11_projected_25 : decode cX11_projected 25 = .ok (.iload 4, 2) := by decide +kernel
theorem dX11_projected_27 : decode cX11_projected 27 = .ok (.istore 5, 2) := by decide +kernel
theorem dX11_projected_29 : decode cX11_projected 29 = .ok (.iconst 0, 1) := by decide +kernel
theorem dX11_projected_30 : decode cX11_projected 30 = .ok (.istore 6, 2) := by decide +kernel
theorem dX11_projected_32 : decode cX11_projected 32 = .ok (.iload 6, 2) := by decide +kernel
theorem dX11_projected_34 : decode cX11_projected 34 = .ok (.aload_n 0, 1) := by decide +kernel
theorem dX11_projected_35 : decode cX11_projected 35 = .ok (.getfield 7, 3) := by decide +kernel
theorem dX11_projected_38 : decode cX11_projected 38 = .ok (.bipush 7, 2) := by decide +kernel
theorem dX11_projected_40 : decode cX11_projected 40 = .ok (.iload_n 1, 1) := by decide +kernel
theorem dX11_projected_41 : decode cX11_projected 41 = .ok (.iadd, 1) := by decide +kernel
theorem dX11_projected_42 : decode cX11_projected 42 = .ok (.iaload, 1) := by decide +kernel
theorem dX11_projected_43 : decode cX11_projected 43 = .ok (.if_icmp .ge 54, 3) := by decide +kernel
theorem dX11_projected_46 : decode cX11_projected 46 = .ok (.iload 5, 2) := by decide +kernel
theorem dX11_projected_48 : decode cX11_projected 48 = .ok (.ifCond .lt 49, 3) := by decide +kernel
theorem dX11_projected_51 : decode cX11_projected 51 = .ok (.aload_n 0, 1) := by decide +kernel
theorem dX11_projected_52 : decode cX11_projected 52 = .ok (.getfield 7, 3) := by decide +kernel
theorem dX11_projected_55 : decode cX11_projected 55 = .ok (.bipush 13, 2) := by decide +kernel
theorem dX11_projected_57 : decode cX11_projected 57 = .ok (.bipush 16, 2) := by decide +kernel
theorem dX11_projected_59 : decode cX11_projected 59 = .ok (.iload_n 1, 1) := by decide +kernel
theorem dX11_projected_60 : decode cX11_projected 60 = .ok (.imul, 1) := by decide +kernel
theorem dX11_projected_61 : decode cX11_projected 61 = .ok (.iadd, 1) := by decide +kernel
theorem dX11_projected_62 : decode cX11_projected 62 = .ok (.iload 6, 2) := by decide +kernel
theorem dX11_projected_64 : decode cX11_projected 64 = .ok (.iadd, 1) := by decide +kernel
theorem dX11_projected_65 : decode cX11_projected 65 = .ok (.iaload, 1) := by decide +kernel
theorem dX11_projected_66 : decode cX11_projected 66 = .ok (.istore 7, 2) := by decide +kernel
theorem dX11_projected_68 : decode cX11_projected 68 = .ok (.iload 7, 2) := by decide +kernel
theorem dX11_projected_70 : decode cX11_projected 70 = .ok (.iload_n 2, 1) := by decide +kernel
theorem dX11_projected_71 : decode cX11_projected 71 = .ok (.if_icmp .eq 9, 3) := by decide +kernel
theorem dX11_projected_74 : decode cX11_projected 74 = .ok (.iload 7, 2) := by decide +kernel
theorem dX11_projected_76 : decode cX11_projected 76 = .ok (.iload_n 3, 1) := by decide +kernel
theorem dX11_projected_77 : decode cX11_projected 77 = .ok (.if_icmp .ne 14, 3) := by decide +kernel
theorem dX11_projected_80 : decode cX11_projected 80 = .ok (.iload 5, 2) := by decide +kernel
theorem dX11_projected_82 : decode cX11_projected 82 = .ok (.ifCond .ne 6, 3) := by decide +kernel
theorem dX11_projected_85 : decode cX11_projected 85 = .ok (.iload 7, 2) := by decide +kernel
theorem dX11_projected_87 : decode cX11_projected 87 = .ok (.ireturn, 1) := by decide +kernel
theorem dX11_projected_88 : decode cX11_projected 88 = .ok (.iinc 5 (-1), 3) := by decide +kernel
theorem dX11_projected_91 : decode cX11_projected 91 = .ok (.iinc 6 1, 3) := by decide +kernel
theorem dX11_projected_94 : decode cX11_projected 94 = .ok (.goto (-62), 3) := by decide +kernel
theorem dX11_projected_97 : decode cX11_projected 97 = .ok (.bipush (-5), 2) := by decide +kernel
theorem dX11_projected_99 : decode cX11_projected 99 = .ok (.ireturn, 1) := by decide +kernel
theorem dX11_findBeginnings_0 : decode cX11_findBeginnings 0 = .ok (.iconst 0, 1) := by decide +kernel
theorem dX11_findBeginnings_1 : decode cX11_findBeginnings 1 = .ok (.istore_n 1, 1) := by decide +kernel
theorem dX11_findBeginnings_2 : decode cX11_findBeginnings 2 = .ok (.iload_n 1, 1) := by decide +kernel
theorem dX11_findBeginnings_3 : decode cX11_findBeginnings 3 = .ok (.bipush 6, 2) := by decide +kernel
theorem dX11_findBeginnings_5 : decode cX11_findBeginnings 5 = .ok (.if_icmp .ge 16, 3) := by decide +kernel
theorem dX11_findBeginnings_8 : decode cX11_findBeginnings 8 = .ok (.aload_n 0, 1) := by decide +kernel
theorem dX11_findBeginnings_9 : decode cX11_findBeginnings 9 = .ok (.getfield 42, 3) := by decide +kernel
theorem dX11_findBeginnings_12 : decode cX11_findBeginnings 12 = .ok (.iload_n 1, 1) := by decide +kernel
theorem dX11_findBeginnings_13 : decode cX11_findBeginnings 13 = .ok (.iconst 0, 1) := by decide +kernel
theorem dX11_findBeginnings_14 : decode cX11_findBeginnings 14 = .ok (.iastore, 1) := by decide +kernel
theorem dX11_findBeginnings_15 : decode cX11_findBeginnings 15 = .ok (.iinc 1 1, 3) := by decide +kernel
theorem dX11_findBeginnings_18 : decode cX11_findBeginnings 18 = .ok (.goto (-16), 3) := by decide +kernel
theorem dX11_findBeginnings_21 : decode cX11_findBeginnings 21 = .ok (.iconst 0, 1) := by decide +kernel
theorem dX11_findBeginnings_22 : decode cX11_findBeginnings 22 = .ok (.istore_n 1, 1) := by decide +kernel
theorem dX11_findBeginnings_23 : decode cX11_findBeginnings 23 = .ok (.iload_n 1, 1) := by decide +kernel
theorem dX11_findBeginnings_24 : decode cX11_findBeginnings 24 = .ok (.aload_n 0, 1) := by decide +kernel
theorem dX11_findBeginnings_25 : decode cX11_findBeginnings 25 = .ok (.getfield 131, 3) := by decide +kernel
theorem dX11_findBeginnings_28 : decode cX11_findBeginnings 28 = .ok (.if_icmp .ge 67, 3) := by decide +kernel
theorem dX11_findBeginnings_31 : decode cX11_findBeginnings 31 = .ok (.aload_n 0, 1) := by decide +kernel
theorem dX11_findBeginnings_32 : decode cX11_findBeginnings 32 = .ok (.getfield 27, 3) := by decide +kernel
theorem dX11_findBeginnings_35 : decode cX11_findBeginnings 35 = .ok (.iload_n 1, 1) := by decide +kernel
theorem dX11_findBeginnings_36 : decode cX11_findBeginnings 36 = .ok (.iaload, 1) := by decide +kernel
theorem dX11_findBeginnings_37 : decode cX11_findBeginnings 37 = .ok (.istore_n 2, 1) := by decide +kernel
theorem dX11_findBeginnings_38 : decode cX11_findBeginnings 38 = .ok (.iconst 0, 1) := by decide +kernel
theorem dX11_findBeginnings_39 : decode cX11_findBeginnings 39 = .ok (.istore_n 3, 1) := by decide +kernel
theorem dX11_findBeginnings_40 : decode cX11_findBeginnings 40 = .ok (.iload_n 3, 1) := by decide +kernel
theorem dX11_findBeginnings_41 : decode cX11_findBeginnings 41 = .ok (.bipush 6, 2) := by decide +kernel
theorem dX11_findBeginnings_43 : decode cX11_findBeginnings 43 = .ok (.if_icmp .ge 36, 3) := by decide +kernel
theorem dX11_findBeginnings_46 : decode cX11_findBeginnings 46 = .ok (.aload_n 0, 1) := by decide +kernel
theorem dX11_findBeginnings_47 : decode cX11_findBeginnings 47 = .ok (.getfield 48, 3) := by decide +kernel
theorem dX11_findBeginnings_50 : decode cX11_findBeginnings 50 = .ok (.bipush 96, 2) := by decide +kernel
theorem dX11_findBeginnings_52 : decode cX11_findBeginnings 52 = .ok (.iload_n 2, 1) := by decide +kernel
theorem dX11_findBeginnings_53 : decode cX11_findBeginnings 53 = .ok (.imul, 1) := by decide +kernel
theorem dX11_findBeginnings_54 : decode cX11_findBeginnings 54 = .ok (.bipush 6, 2) := by decide +kernel
theorem dX11_findBeginnings_56 : decode cX11_findBeginnings 56 = .ok (.aload_n 0, 1) := by decide +kernel
theorem dX11_findBeginnings_57 : decode cX11_findBeginnings 57 = .ok (.getfield 42, 3) := by decide +kernel
theorem dX11_findBeginnings_60 : decode cX11_findBeginnings 60 = .ok (.iload_n 2, 1) := by decide +kernel
theorem dX11_findBeginnings_61 : decode cX11_findBeginnings 61 = .ok (.iaload, 1) := by decide +kernel
theorem dX11_findBeginnings_62 : decode cX11_findBeginnings 62 = .ok (.imul, 1) := by decide +kernel
theorem dX11_findBeginnings_63 : decode cX11_findBeginnings 63 = .ok (.iadd, 1) := by decide +kernel
theorem dX11_findBeginnings_64 : decode cX11_findBeginnings 64 = .ok (.iload_n 3, 1) := by decide +kernel
theorem dX11_findBeginnings_65 : decode cX11_findBeginnings 65 = .ok (.iadd, 1) := by decide +kernel
theorem dX11_findBeginnings_66 : decode cX11_findBeginnings 66 = .ok (.aload_n 0, 1) := by decide +kernel
theorem dX11_findBeginnings_67 : decode cX11_findBeginnings 67 = .ok (.getfield 42, 3) := by decide +kernel
theorem dX11_findBeginnings_70 : decode cX11_findBeginnings 70 = .ok (.iload_n 3, 1) := by decide +kernel
theorem dX11_findBeginnings_71 : decode cX11_findBeginnings 71 = .ok (.iaload, 1) := by decide +kernel
theorem dX11_findBeginnings_72 : decode cX11_findBeginnings 72 = .ok (.iastore, 1) := by decide +kernel
theorem dX11_findBeginnings_73 : decode cX11_findBeginnings 73 = .ok (.iinc 3 1, 3) := by decide +kernel
theorem dX11_findBeginnings_76 : decode cX11_findBeginnings 76 = .ok (.goto (-36), 3) := by decide +kernel
theorem dX11_findBeginnings_79 : decode cX11_findBeginnings 79 = .ok (.aload_n 0, 1) := by decide +kernel
theorem dX11_findBeginnings_80 : decode cX11_findBeginnings 80 = .ok (.getfield 42, 3) := by decide +kernel
theorem dX11_findBeginnings_83 : decode cX11_findBeginnings 83 = .ok (.iload_n 2, 1) := by decide +kernel
theorem dX11_findBeginnings_84 : decode cX11_findBeginnings 84 = .ok (.dup2, 1) := by decide +kernel
theorem dX11_findBeginnings_85 : decode cX11_findBeginnings 85 = .ok (.iaload, 1) := by decide +kernel
theorem dX11_findBeginnings_86 : decode cX11_findBeginnings 86 = .ok (.iconst 1, 1) := by decide +kernel
theorem dX11_findBeginnings_87 : decode cX11_findBeginnings 87 = .ok (.iadd, 1) := by decide +kernel
theorem dX11_findBeginnings_88 : decode cX11_findBeginnings 88 = .ok (.iastore, 1) := by decide +kernel
theorem dX11_findBeginnings_89 : decode cX11_findBeginnings 89 = .ok (.iinc 1 1, 3) := by decide +kernel
theorem dX11_findBeginnings_92 : decode cX11_findBeginnings 92 = .ok (.goto (-69), 3) := by decide +kernel
theorem dX11_findBeginnings_95 : decode cX11_findBeginnings 95 = .ok (.aload_n 0, 1) := by decide +kernel
theorem dX11_findBeginnings_96 : decode cX11_findBeginnings 96 = .ok (.iconst 1, 1) := by decide +kernel
theorem dX11_findBeginnings_97 : decode cX11_findBeginnings 97 = .ok (.putfield 173, 3) := by decide +kernel
theorem dX11_findBeginnings_100 : decode cX11_findBeginnings 100 = .ok (.iconst 0, 1) := by decide +kernel
theorem dX11_findBeginnings_101 : decode cX11_findBeginnings 101 = .ok (.istore_n 1, 1) := by decide +kernel
theorem dX11_findBeginnings_102 : decode cX11_findBeginnings 102 = .ok (.iload_n 1, 1) := by decide +kernel
theorem dX11_findBeginnings_103 : decode cX11_findBeginnings 103 = .ok (.bipush 6, 2) := by decide +kernel
theorem dX11_findBeginnings_105 : decode cX11_findBeginnings 105 = .ok (.if_icmp .ge 36, 3) := by decide +kernel
theorem dX11_findBeginnings_108 : decode cX11_findBeginnings 108 = .ok (.aload_n 0, 1) := by decide +kernel
theorem dX11_findBeginnings_109 : decode cX11_findBeginnings 109 = .ok (.getfield 45, 3) := by decide +kernel
theorem dX11_findBeginnings_112 : decode cX11_findBeginnings 112 = .ok (.iload_n 1, 1) := by decide +kernel
theorem dX11_findBeginnings_113 : decode cX11_findBeginnings 113 = .ok (.aload_n 0, 1) := by decide +kernel
theorem dX11_findBeginnings_114 : decode cX11_findBeginnings 114 = .ok (.getfield 173, 3) := by decide +kernel
theorem dX11_findBeginnings_117 : decode cX11_findBeginnings 117 = .ok (.iastore, 1) := by decide +kernel
theorem dX11_findBeginnings_118 : decode cX11_findBeginnings 118 = .ok (.aload_n 0, 1) := by decide +kernel
theorem dX11_findBeginnings_119 : decode cX11_findBeginnings 119 = .ok (.dup, 1) := by decide +kernel
theorem dX11_findBeginnings_120 : decode cX11_findBeginnings 120 = .ok (.getfield 173, 3) := by decide +kernel
theorem dX11_findBeginnings_123 : decode cX11_findBeginnings 123 = .ok (.aload_n 0, 1) := by decide +kernel
theorem dX11_findBeginnings_124 : decode cX11_findBeginnings 124 = .ok (.getfield 42, 3) := by decide +kernel
theorem dX11_findBeginnings_127 : decode cX11_findBeginnings 127 = .ok (.iload_n 1, 1) := by decide +kernel
theorem dX11_findBeginnings_128 : decode cX11_findBeginnings 128 = .ok (.iaload, 1) := by decide +kernel
theorem dX11_findBeginnings_129 : decode cX11_findBeginnings 129 = .ok (.iconst 1, 1) := by decide +kernel
theorem dX11_findBeginnings_130 : decode cX11_findBeginnings 130 = .ok (.iadd, 1) := by decide +kernel
theorem dX11_findBeginnings_131 : decode cX11_findBeginnings 131 = .ok (.imul, 1) := by decide +kernel
theorem dX11_findBeginnings_132 : decode cX11_findBeginnings 132 = .ok (.putfield 173, 3) := by decide +kernel
theorem dX11_findBeginnings_135 : decode cX11_findBeginnings 135 = .ok (.iinc 1 1, 3) := by decide +kernel
theorem dX11_findBeginnings_138 : decode cX11_findBeginnings 138 = .ok (.goto (-36), 3) := by decide +kernel
theorem dX11_findBeginnings_141 : decode cX11_findBeginnings 141 = .ok (.return_, 1) := by decide +kernel
theorem dX11_gone_0 : decode cX11_gone 0 = .ok (.iload_n 1, 1) := by decide +kernel
theorem dX11_gone_1 : decode cX11_gone 1 = .ok (.aload_n 0, 1) := by decide +kernel
theorem dX11_gone_2 : decode cX11_gone 2 = .ok (.getfield 45, 3) := by decide +kernel
theorem dX11_gone_5 : decode cX11_gone 5 = .ok (.iload_n 2, 1) := by decide +kernel
theorem dX11_gone_6 : decode cX11_gone 6 = .ok (.iaload, 1) := by decide +kernel
theorem dX11_gone_7 : decode cX11_gone 7 = .ok (.idiv, 1) := by decide +kernel
theorem dX11_gone_8 : decode cX11_gone 8 = .ok (.aload_n 0, 1) := by decide +kernel
theorem dX11_gone_9 : decode cX11_gone 9 = .ok (.getfield 42, 3) := by decide +kernel
theorem dX11_gone_12 : decode cX11_gone 12 = .ok (.iload_n 2, 1) := by decide +kernel
theorem dX11_gone_13 : decode cX11_gone 13 = .ok (.iaload, 1) := by decide +kernel
theorem dX11_gone_14 : decode cX11_gone 14 = .ok (.iconst 1, 1) := by decide +kernel
theorem dX11_gone_15 : decode cX11_gone 15 = .ok (.iadd, 1) := by decide +kernel
theorem dX11_gone_16 : decode cX11_gone 16 = .ok (.irem, 1) := by decide +kernel
theorem dX11_gone_17 : decode cX11_gone 17 = .ok (.ireturn, 1) := by decide +kernel
set_option maxRecDepth 20000 in
theorem ggX11_canCome_X11_gone : GoodIn wsX11_canCome wsX11_gone := goodIn_r _ [8, 9, 1, 14, 15, 16, 17, 18, 19, 20, 21, 22, 23, 24, 25, 26, 27, 28, 29, 30, 31, 32, 33, 34, 35, 36, 37, 38, 39, 40, 41, 42, 43, 44, 45, 46, 47, 48, 49, 50, 51, 52] (by decide +kernel) (by decide +kernel)
set_option maxRecDepth 20000 in
theorem gX11_canCome_X11_gone : GoodIn wsX11_canCome (wsV RX11 176 RX11 yX11_gone wsX11_gone) := goodIn_app (goodIn_of _ (by decide +kernel)) ggX11_canCome_X11_gone
set_option maxRecDepth 20000 in
theorem ggX11_canCome_X11_areFree : GoodIn wsX11_canCome wsX11_areFree := goodIn_r _ [13, 2, 14, 15, 16, 17, 18, 19, 20, 21, 22, 23, 24, 25, 26, 27, 28, 29, 30, 31, 32, 33, 34, 35, 36, 37, 38, 39, 40, 41, 42, 43, 44, 45, 46, 47, 48, 49, 50, 51, 52] (by decide +kernel) (by decide +kernel)
set_option maxRecDepth 20000 in
theorem gX11_canCome_X11_areFree : GoodIn wsX11_canCome (wsV RX11 114 RX11 yX11_areFree wsX11_areFree) := goodIn_app (goodIn_of _ (by decide +kernel)) ggX11_canCome_X11_areFree
theorem dX11_canCome_0 : decode cX11_canCome 0 = .ok (.aload_n 0, 1) := by decide +kernel
theorem dX11_canCome_1 : decode cX11_canCome 1 = .ok (.iload_n 1, 1) := by decide +kernel
theorem dX11_canCome_2 : decode cX11_canCome 2 = .ok (.iload_n 2, 1) := by decide +kernel
theorem dX11_canCome_3 : decode cX11_canCome 3 = .ok (.invokevirtual 176, 3) := by decide +kernel
theorem dX11_canCome_6 : decode cX11_canCome 6 = .ok (.istore_n 3, 1) := by decide +kernel
theorem dX11_canCome_7 : decode cX11_canCome 7 = .ok (.iload_n 3, 1) := by decide +kernel
theorem dX11_canCome_8 : decode cX11_canCome 8 = .ok (.aload_n 0, 1) := by decide +kernel
theorem dX11_canCome_9 : decode cX11_canCome 9 = .ok (.getfield 42, 3) := by decide +kernel
theorem dX11_canCome_12 : decode cX11_canCome 12 = .ok (.iload_n 2, 1) := by decide +kernel
theorem dX11_canCome_13 : decode cX11_canCome 13 = .ok (.iaload, 1) := by decide +kernel
theorem dX11_canCome_14 : decode cX11_canCome 14 = .ok (.if_icmp .ne 5, 3) := by decide +kernel
theorem dX11_canCome_17 : decode cX11_canCome 17 = .ok (.iconst 0, 1) := by decide +kernel
theorem dX11_canCome_18 : decode cX11_canCome 18 = .ok (.ireturn, 1) := by decide +kernel
theorem dX11_canCome_19 : decode cX11_canCome 19 = .ok (.iconst 1, 1) := by decide +kernel
theorem dX11_canCome_20 : decode cX11_canCome 20 = .ok (.istore 4, 2) := by decide +kernel
theorem dX11_canCome_22 : decode cX11_canCome 22 = .ok (.iconst 0, 1) := by decide +kernel
theorem dX11_canCome_23 : decode cX11_canCome 23 = .ok (.istore 5, 2) := by decide +kernel
theorem dX11_canCome_25 : decode cX11_canCome 25 = .ok (.iload 5, 2) := by decide +kernel
theorem dX11_canCome_27 : decode cX11_canCome 27 = .ok (.aload_n 0, 1) := by decide +kernel
theorem dX11_canCome_28 : decode cX11_canCome 28 = .ok (.getfield 7, 3) := by decide +kernel
theorem dX11_canCome_31 : decode cX11_canCome 31 = .ok (.iconst 0, 1) := by decide +kernel
theorem dX11_canCome_32 : decode cX11_canCome 32 = .ok (.iaload, 1) := by decide +kernel
theorem dX11_canCome_33 : decode cX11_canCome 33 = .ok (.if_icmp .ge 58, 3) := by decide +kernel
theorem dX11_canCome_36 : decode cX11_canCome 36 = .ok (.iload 4, 2) := by decide +kernel
theorem dX11_canCome_38 : decode cX11_canCome 38 = .ok (.ifCond .eq 44, 3) := by decide +kernel
theorem dX11_canCome_41 : decode cX11_canCome 41 = .ok (.aload_n 0, 1) := by decide +kernel
theorem dX11_canCome_42 : decode cX11_canCome 42 = .ok (.iload_n 2, 1) := by decide +kernel
theorem dX11_canCome_43 : decode cX11_canCome 43 = .ok (.iload 5, 2) := by decide +kernel
theorem dX11_canCome_45 : decode cX11_canCome 45 = .ok (.invokevirtual 114, 3) := by decide +kernel
theorem dX11_canCome_48 : decode cX11_canCome 48 = .ok (.ifCond .ne 30, 3) := by decide +kernel
theorem dX11_canCome_51 : decode cX11_canCome 51 = .ok (.aload_n 0, 1) := by decide +kernel
theorem dX11_canCome_52 : decode cX11_canCome 52 = .ok (.getfield 48, 3) := by decide +kernel
theorem dX11_canCome_55 : decode cX11_canCome 55 = .ok (.bipush 96, 2) := by decide +kernel
theorem dX11_canCome_57 : decode cX11_canCome 57 = .ok (.iload_n 2, 1) := by decide +kernel
theorem dX11_canCome_58 : decode cX11_canCome 58 = .ok (.imul, 1) := by decide +kernel
theorem dX11_canCome_59 : decode cX11_canCome 59 = .ok (.bipush 6, 2) := by decide +kernel
theorem dX11_canCome_61 : decode cX11_canCome 61 = .ok (.iload_n 3, 1) := by decide +kernel
theorem dX11_canCome_62 : decode cX11_canCome 62 = .ok (.imul, 1) := by decide +kernel
theorem dX11_canCome_63 : decode cX11_canCome 63 = .ok (.iadd, 1) := by decide +kernel
theorem dX11_canCome_64 : decode cX11_canCome 64 = .ok (.iload 5, 2) := by decide +kernel
theorem dX11_canCome_66 : decode cX11_canCome 66 = .ok (.iadd, 1) := by decide +kernel
theorem dX11_canCome_67 : decode cX11_canCome 67 = .ok (.iaload, 1) := by decide +kernel
theorem dX11_canCome_68 : decode cX11_canCome 68 = .ok (.aload_n 0, 1) := by decide +kernel
theorem dX11_canCome_69 : decode cX11_canCome 69 = .ok (.iload_n 1, 1) := by decide +kernel
theorem dX11_canCome_70 : decode cX11_canCome 70 = .ok (.iload 5, 2) := by decide +kernel
theorem dX11_canCome_72 : decode cX11_canCome 72 = .ok (.invokevirtual 176, 3) := by decide +kernel
theorem dX11_canCome_75 : decode cX11_canCome 75 = .ok (.if_icmp .gt 7, 3) := by decide +kernel
theorem dX11_canCome_78 : decode cX11_canCome 78 = .ok (.iconst 1, 1) := by decide +kernel
theorem dX11_canCome_79 : decode cX11_canCome 79 = .ok (.goto 4, 3) := by decide +kernel
theorem dX11_canCome_82 : decode cX11_canCome 82 = .ok (.iconst 0, 1) := by decide +kernel
theorem dX11_canCome_83 : decode cX11_canCome 83 = .ok (.istore 4, 2) := by decide +kernel
theorem dX11_canCome_85 : decode cX11_canCome 85 = .ok (.iinc 5 1, 3) := by decide +kernel
theorem dX11_canCome_88 : decode cX11_canCome 88 = .ok (.goto (-63), 3) := by decide +kernel
theorem dX11_canCome_91 : decode cX11_canCome 91 = .ok (.iload 4, 2) := by decide +kernel
theorem dX11_canCome_93 : decode cX11_canCome 93 = .ok (.ireturn, 1) := by decide +kernel
set_option maxRecDepth 20000 in
theorem ggX11_findWords_X11_findBeginnings : GoodIn wsX11_findWords wsX11_findBeginnings := goodIn_r _ [9, 10, 11, 12, 13, 1, 4, 26, 27, 28, 29, 30, 31, 32, 33, 34, 35, 36, 37, 38, 39, 40, 41, 42, 43, 44, 45, 46, 47, 48, 49, 50, 51, 52, 53, 54, 55, 56, 57, 58, 59, 60, 61, 62, 63, 64] (by decide +kernel) (by decide +kernel)
set_option maxRecDepth 20000 in
theorem gX11_findWords_X11_findBeginnings : GoodIn wsX11_findWords (wsV RX11 180 RX11 yX11_findBeginnings wsX11_findBeginnings) := goodIn_app (goodIn_of _ (by decide +kernel)) ggX11_findWords_X11_findBeginnings
set_option maxRecDepth 20000 in
theorem ggX11_findWords_X11_canCome : GoodIn wsX11_findWords wsX11_canCome := goodIn_r _ [17, 10, 3, 13, 18, 19, 20, 8, 21, 4, 22, 23, 24, 25, 26, 27, 28, 29, 30, 31, 32, 33, 34, 35, 36, 37, 38, 39, 40, 41, 42, 43, 44, 45, 46, 47, 48, 49, 50, 51, 52, 53, 54, 55, 56, 57, 58, 59, 60, 61, 62, 63, 64] (by decide +kernel) (by decide +kernel)
set_option maxRecDepth 20000 in
theorem gX11_findWords_X11_canCome : GoodIn wsX11_findWords (wsV RX11 183 RX11 yX11_canCome wsX11_canCome) := goodIn_app (goodIn_of _ (by decide +kernel)) ggX11_findWords_X11_canCome
theorem dX11_findWords_0 : decode cX11_findWords 0 = .ok (.aload_n 0, 1) := by decide +kernel
theorem dX11_findWords_1 : decode cX11_findWords 1 = .ok (.invokevirtual 180, 3) := by decide +kernel
theorem dX11_findWords_4 : decode cX11_findWords 4 = .ok (.iconst 0, 1) := by decide +kernel
theorem dX11_findWords_5 : decode cX11_findWords 5 = .ok (.istore_n 1, 1) := by decide +kernel
theorem dX11_findWords_6 : decode cX11_findWords 6 = .ok (.iload_n 1, 1) := by decide +kernel
theorem dX11_findWords_7 : decode cX11_findWords 7 = .ok (.bipush 6, 2) := by decide +kernel
theorem dX11_findWords_9 : decode cX11_findWords 9 = .ok (.aload_n 0, 1) := by decide +kernel
theorem dX11_findWords_10 : decode cX11_findWords 10 = .ok (.getfield 173, 3) := by decide +kernel
theorem dX11_findWords_13 : decode cX11_findWords 13 = .ok (.imul, 1) := by decide +kernel
theorem dX11_findWords_14 : decode cX11_findWords 14 = .ok (.if_icmp .ge 24, 3) := by decide +kernel
theorem dX11_findWords_17 : decode cX11_findWords 17 = .ok (.aload_n 0, 1) := by decide +kernel
theorem dX11_findWords_18 : decode cX11_findWords 18 = .ok (.getfield 51, 3) := by decide +kernel
theorem dX11_findWords_21 : decode cX11_findWords 21 = .ok (.iload_n 1, 1) := by decide +kernel
theorem dX11_findWords_22 : decode cX11_findWords 22 = .ok (.iload_n 1, 1) := by decide +kernel
theorem dX11_findWords_23 : decode cX11_findWords 23 = .ok (.ifCond .ne 7, 3) := by decide +kernel
theorem dX11_findWords_26 : decode cX11_findWords 26 = .ok (.lconst 1, 1) := by decide +kernel
theorem dX11_findWords_27 : decode cX11_findWords 27 = .ok (.goto 4, 3) := by decide +kernel
theorem dX11_findWords_30 : decode cX11_findWords 30 = .ok (.lconst 0, 1) := by decide +kernel
theorem dX11_findWords_31 : decode cX11_findWords 31 = .ok (.lastore, 1) := by decide +kernel
theorem dX11_findWords_32 : decode cX11_findWords 32 = .ok (.iinc 1 1, 3) := by decide +kernel
theorem dX11_findWords_35 : decode cX11_findWords 35 = .ok (.goto (-29), 3) := by decide +kernel
theorem dX11_findWords_38 : decode cX11_findWords 38 = .ok (.iconst 0, 1) := by decide +kernel
theorem dX11_findWords_39 : decode cX11_findWords 39 = .ok (.istore_n 1, 1) := by decide +kernel
theorem dX11_findWords_40 : decode cX11_findWords 40 = .ok (.iload_n 1, 1) := by decide +kernel
theorem dX11_findWords_41 : decode cX11_findWords 41 = .ok (.aload_n 0, 1) := by decide +kernel
theorem dX11_findWords_42 : decode cX11_findWords 42 = .ok (.getfield 173, 3) := by decide +kernel
theorem dX11_findWords_45 : decode cX11_findWords 45 = .ok (.if_icmp .ge 100, 3) := by decide +kernel
theorem dX11_findWords_48 : decode cX11_findWords 48 = .ok (.iconst 0, 1) := by decide +kernel
theorem dX11_findWords_49 : decode cX11_findWords 49 = .ok (.istore_n 2, 1) := by decide +kernel
theorem dX11_findWords_50 : decode cX11_findWords 50 = .ok (.iload_n 2, 1) := by decide +kernel
theorem dX11_findWords_51 : decode cX11_findWords 51 = .ok (.aload_n 0, 1) := by decide +kernel
theorem dX11_findWords_52 : decode cX11_findWords 52 = .ok (.getfield 7, 3) := by decide +kernel
theorem dX11_findWords_55 : decode cX11_findWords 55 = .ok (.iconst 0, 1) := by decide +kernel
theorem dX11_findWords_56 : decode cX11_findWords 56 = .ok (.iaload, 1) := by decide +kernel
theorem dX11_findWords_57 : decode cX11_findWords 57 = .ok (.if_icmp .ge 82, 3) := by decide +kernel
theorem dX11_findWords_60 : decode cX11_findWords 60 = .ok (.aload_n 0, 1) := by decide +kernel
theorem dX11_findWords_61 : decode cX11_findWords 61 = .ok (.iload_n 1, 1) := by decide +kernel
theorem dX11_findWords_62 : decode cX11_findWords 62 = .ok (.iload_n 2, 1) := by decide +kernel
theorem dX11_findWords_63 : decode cX11_findWords 63 = .ok (.invokevirtual 183, 3) := by decide +kernel
theorem dX11_findWords_66 : decode cX11_findWords 66 = .ok (.ifCond .eq 67, 3) := by decide +kernel
theorem dX11_findWords_69 : decode cX11_findWords 69 = .ok (.iconst 0, 1) := by decide +kernel
theorem dX11_findWords_70 : decode cX11_findWords 70 = .ok (.istore_n 3, 1) := by decide +kernel
theorem dX11_findWords_71 : decode cX11_findWords 71 = .ok (.iload_n 3, 1) := by decide +kernel
theorem dX11_findWords_72 : decode cX11_findWords 72 = .ok (.aload_n 0, 1) := by decide +kernel
theorem dX11_findWords_73 : decode cX11_findWords 73 = .ok (.getfield 7, 3) := by decide +kernel
theorem dX11_findWords_76 : decode cX11_findWords 76 = .ok (.bipush 109, 2) := by decide +kernel
theorem dX11_findWords_78 : decode cX11_findWords 78 = .ok (.iaload, 1) := by decide +kernel
theorem dX11_findWords_79 : decode cX11_findWords 79 = .ok (.if_icmp .ge 54, 3) := by decide +kernel
theorem dX11_findWords_82 : decode cX11_findWords 82 = .ok (.aload_n 0, 1) := by decide +kernel
theorem dX11_findWords_83 : decode cX11_findWords 83 = .ok (.getfield 51, 3) := by decide +kernel
theorem dX11_findWords_86 : decode cX11_findWords 86 = .ok (.bipush 6, 2) := by decide +kernel
theorem dX11_findWords_88 : decode cX11_findWords 88 = .ok (.iload_n 1, 1) := by decide +kernel
theorem dX11_findWords_89 : decode cX11_findWords 89 = .ok (.aload_n 0, 1) := by decide +kernel
theorem dX11_findWords_90 : decode cX11_findWords 90 = .ok (.getfield 45, 3) := by decide +kernel
theorem dX11_findWords_93 : decode cX11_findWords 93 = .ok (.iload_n 2, 1) := by decide +kernel
theorem dX11_findWords_94 : decode cX11_findWords 94 = .ok (.iaload, 1) := by decide +kernel
theorem dX11_findWords_95 : decode cX11_findWords 95 = .ok (.iadd, 1) := by decide +kernel
theorem dX11_findWords_96 : decode cX11_findWords 96 = .ok (.imul, 1) := by decide +kernel
theorem dX11_findWords_97 : decode cX11_findWords 97 = .ok (.aload_n 0, 1) := by decide +kernel
theorem dX11_findWords_98 : decode cX11_findWords 98 = .ok (.getfield 7, 3) := by decide +kernel
theorem dX11_findWords_101 : decode cX11_findWords 101 = .ok (.bipush 110, 2) := by decide +kernel
theorem dX11_findWords_103 : decode cX11_findWords 103 = .ok (.bipush 6, 2) := by decide +kernel
theorem dX11_findWords_105 : decode cX11_findWords 105 = .ok (.iload_n 3, 1) := by decide +kernel
theorem dX11_findWords_106 : decode cX11_findWords 106 = .ok (.imul, 1) := by decide +kernel
theorem dX11_findWords_107 : decode cX11_findWords 107 = .ok (.iadd, 1) := by decide +kernel
theorem dX11_findWords_108 : decode cX11_findWords 108 = .ok (.iload_n 2, 1) := by decide +kernel
theorem dX11_findWords_109 : decode cX11_findWords 109 = .ok (.iadd, 1) := by decide +kernel
theorem dX11_findWords_110 : decode cX11_findWords 110 = .ok (.iaload, 1) := by decide +kernel
theorem dX11_findWords_111 : decode cX11_findWords 111 = .ok (.iadd, 1) := by decide +kernel
theorem dX11_findWords_112 : decode cX11_findWords 112 = .ok (.dup2, 1) := by decide +kernel
theorem dX11_findWords_113 : decode cX11_findWords 113 = .ok (.laload, 1) := by decide +kernel
theorem dX11_findWords_114 : decode cX11_findWords 114 = .ok (.aload_n 0, 1) := by decide +kernel
theorem dX11_findWords_115 : decode cX11_findWords 115 = .ok (.getfield 51, 3) := by decide +kernel
theorem dX11_findWords_118 : decode cX11_findWords 118 = .ok (.bipush 6, 2) := by decide +kernel
theorem dX11_findWords_120 : decode cX11_findWords 120 = .ok (.iload_n 1, 1) := by decide +kernel
theorem dX11_findWords_121 : decode cX11_findWords 121 = .ok (.imul, 1) := by decide +kernel
theorem dX11_findWords_122 : decode cX11_findWords 122 = .ok (.iload_n 3, 1) := by decide +kernel
theorem dX11_findWords_123 : decode cX11_findWords 123 = .ok (.iadd, 1) := by decide +kernel
theorem dX11_findWords_124 : decode cX11_findWords 124 = .ok (.laload, 1) := by decide +kernel
theorem dX11_findWords_125 : decode cX11_findWords 125 = .ok (.ladd, 1) := by decide +kernel
theorem dX11_findWords_126 : decode cX11_findWords 126 = .ok (.lastore, 1) := by decide +kernel
theorem dX11_findWords_127 : decode cX11_findWords 127 = .ok (.iinc 3 1, 3) := by decide +kernel
theorem dX11_findWords_130 : decode cX11_findWords 130 = .ok (.goto (-59), 3) := by decide +kernel
theorem dX11_findWords_133 : decode cX11_findWords 133 = .ok (.iinc 2 1, 3) := by decide +kernel
theorem dX11_findWords_136 : decode cX11_findWords 136 = .ok (.goto (-86), 3) := by decide +kernel
theorem dX11_findWords_139 : decode cX11_findWords 139 = .ok (.iinc 1 1, 3) := by decide +kernel
theorem dX11_findWords_142 : decode cX11_findWords 142 = .ok (.goto (-102), 3) := by decide +kernel
theorem dX11_findWords_145 : decode cX11_findWords 145 = .ok (.return_, 1) := by decide +kernel
theorem dX11_wordsTo_0 : decode cX11_wordsTo 0 = .ok (.lconst 0, 1) := by decide +kernel
theorem dX11_wordsTo_1 : decode cX11_wordsTo 1 = .ok (.lstore_n 2, 1) := by decide +kernel
theorem dX11_wordsTo_2 : decode cX11_wordsTo 2 = .ok (.iconst 0, 1) := by decide +kernel
theorem dX11_wordsTo_3 : decode cX11_wordsTo 3 = .ok (.istore 4, 2) := by decide +kernel
theorem dX11_wordsTo_5 : decode cX11_wordsTo 5 = .ok (.iload 4, 2) := by decide +kernel
theorem dX11_wordsTo_7 : decode cX11_wordsTo 7 = .ok (.aload_n 0, 1) := by decide +kernel
theorem dX11_wordsTo_8 : decode cX11_wordsTo 8 = .ok (.getfield 7, 3) := by decide +kernel
theorem dX11_wordsTo_11 : decode cX11_wordsTo 11 = .ok (.bipush 109, 2) := by decide +kernel
theorem dX11_wordsTo_13 : decode cX11_wordsTo 13 = .ok (.iaload, 1) := by decide +kernel
theorem dX11_wordsTo_14 : decode cX11_wordsTo 14 = .ok (.if_icmp .ge 43, 3) := by decide +kernel
theorem dX11_wordsTo_17 : decode cX11_wordsTo 17 = .ok (.lload_n 2, 1) := by decide +kernel
theorem dX11_wordsTo_18 : decode cX11_wordsTo 18 = .ok (.iload_n 1, 1) := by decide +kernel
theorem dX11_wordsTo_19 : decode cX11_wordsTo 19 = .ok (.iload 4, 2) := by decide +kernel
theorem dX11_wordsTo_21 : decode cX11_wordsTo 21 = .ok (.ishr, 1) := by decide +kernel
theorem dX11_wordsTo_22 : decode cX11_wordsTo 22 = .ok (.iconst 1, 1) := by decide +kernel
theorem dX11_wordsTo_23 : decode cX11_wordsTo 23 = .ok (.iand, 1) := by decide +kernel
theorem dX11_wordsTo_24 : decode cX11_wordsTo 24 = .ok (.iconst 1, 1) := by decide +kernel
theorem dX11_wordsTo_25 : decode cX11_wordsTo 25 = .ok (.if_icmp .ne 23, 3) := by decide +kernel
theorem dX11_wordsTo_28 : decode cX11_wordsTo 28 = .ok (.aload_n 0, 1) := by decide +kernel
theorem dX11_wordsTo_29 : decode cX11_wordsTo 29 = .ok (.getfield 51, 3) := by decide +kernel
theorem dX11_wordsTo_32 : decode cX11_wordsTo 32 = .ok (.bipush 6, 2) := by decide +kernel
theorem dX11_wordsTo_34 : decode cX11_wordsTo 34 = .ok (.aload_n 0, 1) := by decide +kernel
theorem dX11_wordsTo_35 : decode cX11_wordsTo 35 = .ok (.getfield 173, 3) := by decide +kernel
theorem dX11_wordsTo_38 : decode cX11_wordsTo 38 = .ok (.iconst 1, 1) := by decide +kernel
theorem dX11_wordsTo_39 : decode cX11_wordsTo 39 = .ok (.isub, 1) := by decide +kernel
theorem dX11_wordsTo_40 : decode cX11_wordsTo 40 = .ok (.imul, 1) := by decide +kernel
theorem dX11_wordsTo_41 : decode cX11_wordsTo 41 = .ok (.iload 4, 2) := by decide +kernel
theorem dX11_wordsTo_43 : decode cX11_wordsTo 43 = .ok (.iadd, 1) := by decide +kernel
theorem dX11_wordsTo_44 : decode cX11_wordsTo 44 = .ok (.laload, 1) := by decide +kernel
theorem dX11_wordsTo_45 : decode cX11_wordsTo 45 = .ok (.goto 4, 3) := by decide +kernel
theorem dX11_wordsTo_48 : decode cX11_wordsTo 48 = .ok (.lconst 0, 1) := by decide +kernel
theorem dX11_wordsTo_49 : decode cX11_wordsTo 49 = .ok (.ladd, 1) := by decide +kernel
theorem dX11_wordsTo_50 : decode cX11_wordsTo 50 = .ok (.lstore_n 2, 1) := by decide +kernel
theorem dX11_wordsTo_51 : decode cX11_wordsTo 51 = .ok (.iinc 4 1, 3) := by decide +kernel
theorem dX11_wordsTo_54 : decode cX11_wordsTo 54 = .ok (.goto (-49), 3) := by decide +kernel
theorem dX11_wordsTo_57 : decode cX11_wordsTo 57 = .ok (.lload_n 2, 1) := by decide +kernel
theorem dX11_wordsTo_58 : decode cX11_wordsTo 58 = .ok (.lreturn, 1) := by decide +kernel
set_option maxRecDepth 20000 in
theorem ggX11_alikeWords_X11_isWord : GoodIn wsX11_alikeWords wsX11_isWord := goodIn_r _ [5, 6, 7, 4, 8] (by decide +kernel) (by decide +kernel)
set_option maxRecDepth 20000 in
theorem gX11_alikeWords_X11_isWord : GoodIn wsX11_alikeWords (va_wsS RX11 156 yX11_isWord wsX11_isWord) := goodIn_app (goodIn_of _ (by decide +kernel)) ggX11_alikeWords_X11_isWord
set_option maxRecDepth 20000 in
theorem ggX11_alikeWords_X11_takesOne : GoodIn wsX11_alikeWords wsX11_takesOne := goodIn_r _ [12, 13, 14, 15, 45, 46, 47, 48, 49, 50, 51, 52, 53, 54, 55, 56, 57, 58, 59, 60, 61, 62, 63, 64, 65, 66, 67, 68, 69, 70, 71, 72, 73, 74, 75, 76, 77, 78, 79, 80, 81, 82, 83] (by decide +kernel) (by decide +kernel)
set_option maxRecDepth 20000 in
theorem gX11_alikeWords_X11_takesOne : GoodIn wsX11_alikeWords (wsV RX11 159 RX11 yX11_takesOne wsX11_takesOne) := goodIn_app (goodIn_of _ (by decide +kernel)) ggX11_alikeWords_X11_takesOne
set_option maxRecDepth 20000 in
theorem ggX11_alikeWords_X11_findWords : GoodIn wsX11_alikeWords wsX11_findWords := goodIn_r _ [19, 20, 21, 13, 22, 23, 24, 25, 4, 26, 27, 14, 15, 28, 29, 30, 31, 32, 33, 34, 35, 36, 37, 38, 39, 40, 45, 46, 47, 48, 49, 50, 51, 52, 53, 54, 55, 56, 57, 58, 59, 60, 61, 62, 63, 64, 65, 66, 67, 68, 69, 70, 71, 72, 73, 74, 75, 76, 77, 78, 79, 80, 81, 82, 83] (by decide +kernel) (by decide +kernel)
set_option maxRecDepth 20000 in
theorem gX11_alikeWords_X11_findWords : GoodIn wsX11_alikeWords (wsV RX11 188 RX11 yX11_findWords wsX11_findWords) := goodIn_app (goodIn_of _ (by decide +kernel)) ggX11_alikeWords_X11_findWords
set_option maxRecDepth 20000 in
theorem ggX11_alikeWords_X11_wordsTo : GoodIn wsX11_alikeWords wsX11_wordsTo := goodIn_r _ [44, 13, 21, 20, 45, 46, 47, 48, 49, 50, 51, 52, 53, 54, 55, 56, 57, 58, 59, 60, 61, 62, 63, 64, 65, 66, 67, 68, 69, 70, 71, 72, 73, 74, 75, 76, 77, 78, 79, 80, 81, 82, 83] (by decide +kernel) (by decide +kernel)
set_option maxRecDepth 20000 in
theorem gX11_alikeWords_X11_wordsTo : GoodIn wsX11_alikeWords (wsV RX11 191 RX11 yX11_wordsTo wsX11_wordsTo) := goodIn_app (goodIn_of _ (by decide +kernel)) ggX11_alikeWords_X11_wordsTo
theorem dX11_alikeWords_0 : decode cX11_alikeWords 0 = .ok (.iload_n 1, 1) := by decide +kernel
theorem dX11_alikeWords_1 : decode cX11_alikeWords 1 = .ok (.invokestatic 156, 3) := by decide +kernel
theorem dX11_alikeWords_4 : decode cX11_alikeWords 4 = .ok (.ifCond .ne 7, 3) := by decide +kernel
theorem dX11_alikeWords_7 : decode cX11_alikeWords 7 = .ok (.ldc2_w 186, 3) := by decide +kernel
theorem dX11_alikeWords_10 : decode cX11_alikeWords 10 = .ok (.lreturn, 1) := by decide +kernel
theorem dX11_alikeWords_11 : decode cX11_alikeWords 11 = .ok (.aload_n 0, 1) := by decide +kernel
theorem dX11_alikeWords_12 : decode cX11_alikeWords 12 = .ok (.iload_n 1, 1) := by decide +kernel
theorem dX11_alikeWords_13 : decode cX11_alikeWords 13 = .ok (.invokevirtual 159, 3) := by decide +kernel
theorem dX11_alikeWords_16 : decode cX11_alikeWords 16 = .ok (.aload_n 0, 1) := by decide +kernel
theorem dX11_alikeWords_17 : decode cX11_alikeWords 17 = .ok (.invokevirtual 188, 3) := by decide +kernel
theorem dX11_alikeWords_20 : decode cX11_alikeWords 20 = .ok (.aload_n 0, 1) := by decide +kernel
theorem dX11_alikeWords_21 : decode cX11_alikeWords 21 = .ok (.bipush 63, 2) := by decide +kernel
theorem dX11_alikeWords_23 : decode cX11_alikeWords 23 = .ok (.invokevirtual 191, 3) := by decide +kernel
theorem dX11_alikeWords_26 : decode cX11_alikeWords 26 = .ok (.lreturn, 1) := by decide +kernel
set_option maxRecDepth 20000 in
theorem ggX11_alike_X11_isWord : GoodIn wsX11_alike wsX11_isWord := goodIn_r _ [4, 5, 6, 3, 7] (by decide +kernel) (by decide +kernel)
set_option maxRecDepth 20000 in
theorem gX11_alike_X11_isWord : GoodIn wsX11_alike (va_wsS RX11 156 yX11_isWord wsX11_isWord) := goodIn_app (goodIn_of _ (by decide +kernel)) ggX11_alike_X11_isWord
set_option maxRecDepth 20000 in
theorem ggX11_alike_X11_takesOne : GoodIn wsX11_alike wsX11_takesOne := goodIn_r _ [11, 12, 13, 14, 46, 47, 48, 49, 50, 51, 52, 53, 54, 55, 56, 57, 58, 59, 60, 61, 62, 63, 64, 65, 66, 67, 68, 69, 70, 71, 72, 73, 74, 75, 76, 77, 78, 79, 80, 81, 82, 83, 84] (by decide +kernel) (by decide +kernel)
set_option maxRecDepth 20000 in
theorem gX11_alike_X11_takesOne : GoodIn wsX11_alike (wsV RX11 159 RX11 yX11_takesOne wsX11_takesOne) := goodIn_app (goodIn_of _ (by decide +kernel)) ggX11_alike_X11_takesOne
set_option maxRecDepth 20000 in
theorem ggX11_alike_X11_takesOther : GoodIn wsX11_alike wsX11_takesOther := goodIn_r _ [18, 12, 19, 20, 46, 47, 48, 49, 50, 51, 52, 53, 54, 55, 56, 57, 58, 59, 60, 61, 62, 63, 64, 65, 66, 67, 68, 69, 70, 71, 72, 73, 74, 75, 76, 77, 78, 79, 80, 81, 82, 83, 84] (by decide +kernel) (by decide +kernel)
set_option maxRecDepth 20000 in
theorem gX11_alike_X11_takesOther : GoodIn wsX11_alike (wsV RX11 195 RX11 yX11_takesOther wsX11_takesOther) := goodIn_app (goodIn_of _ (by decide +kernel)) ggX11_alike_X11_takesOther
set_option maxRecDepth 20000 in
theorem ggX11_alike_X11_areAlike : GoodIn wsX11_alike wsX11_areAlike := goodIn_r _ [24, 13, 19, 25, 26, 27, 3, 28, 20, 14, 29, 30, 31, 32, 33, 34, 35, 36, 37, 38, 39, 40, 41, 42, 43, 44, 45, 12, 46, 47, 48, 49, 50, 51, 52, 53, 54, 55, 56, 57, 58, 59, 60, 61, 62, 63, 64, 65, 66, 67, 68, 69, 70, 71, 72, 73, 74, 75, 76, 77, 78, 79, 80, 81, 82, 83, 84] (by decide +kernel) (by decide +kernel)
set_option maxRecDepth 20000 in
theorem gX11_alike_X11_areAlike : GoodIn wsX11_alike (wsV RX11 198 RX11 yX11_areAlike wsX11_areAlike) := goodIn_app (goodIn_of _ (by decide +kernel)) ggX11_alike_X11_areAlike
theorem dX11_alike_0 : decode cX11_alike 0 = .ok (.iload_n 1, 1) := by decide +kernel
theorem dX11_alike_1 : decode cX11_alike 1 = .ok (.invokestatic 156, 3) := by decide +kernel
