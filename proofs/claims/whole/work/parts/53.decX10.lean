set_option maxRecDepth 20000 in
theorem ggX10_init_X6_init : GoodIn wsX10_init wsX6_init := goodIn_r _ [42, 43, 2, 3, 44, 45, 46, 47, 48, 49, 50, 51, 52, 53, 16, 17, 54, 55, 56, 57, 58, 59, 60, 61, 62, 63, 64, 65, 66, 67, 68, 69, 70, 6, 71, 72, 73, 74, 75, 76, 77, 78, 79, 80, 81, 82, 83, 84, 85, 86, 87, 88, 89, 90, 91, 185, 186, 135, 136, 137, 187, 188, 189, 190, 151, 152] (by decide +kernel) (by decide +kernel)
set_option maxRecDepth 20000 in
theorem gX10_init_X6_init : GoodIn wsX10_init (wsX6_init) := ggX10_init_X6_init
set_option maxRecDepth 20000 in
theorem ggX10_init_X7_init : GoodIn wsX10_init wsX7_init := goodIn_r _ [93, 94, 2, 3, 57, 95, 149, 150] (by decide +kernel) (by decide +kernel)
set_option maxRecDepth 20000 in
theorem gX10_init_X7_init_n26 : GoodIn wsX10_init (wsX7_init) := ggX10_init_X7_init
set_option maxRecDepth 20000 in
theorem ggX10_init_X9_init : GoodIn wsX10_init wsX9_init := goodIn_r _ [65, 66, 2, 3, 57, 67, 151, 152] (by decide +kernel) (by decide +kernel)
set_option maxRecDepth 20000 in
theorem gX10_init_X9_init_n33 : GoodIn wsX10_init (wsX9_init) := ggX10_init_X9_init
set_option maxRecDepth 20000 in
theorem ggX10_init_X3_init : GoodIn wsX10_init wsX3_init := goodIn_r _ [97, 98, 2, 3, 57, 99, 100, 101, 102, 153, 154, 155, 156, 157, 158, 159] (by decide +kernel) (by decide +kernel)
set_option maxRecDepth 20000 in
theorem gX10_init_X3_init_n40 : GoodIn wsX10_init (wsX3_init) := ggX10_init_X3_init
set_option maxRecDepth 20000 in
theorem ggX10_init_X4_init : GoodIn wsX10_init wsX4_init := goodIn_r _ [104, 105, 2, 3, 106, 20, 21, 107, 57, 108, 109, 96, 97, 98, 99, 100, 101, 102, 153, 154, 155, 156, 157, 158, 159, 160, 161, 162, 163, 164] (by decide +kernel) (by decide +kernel)
set_option maxRecDepth 20000 in
theorem gX10_init_X4_init_n50 : GoodIn wsX10_init (wsX4_init) := ggX10_init_X4_init
set_option maxRecDepth 20000 in
theorem ggX10_init_X1_init : GoodIn wsX10_init wsX1_init := goodIn_r _ [111, 112, 2, 3, 113, 114, 165, 166] (by decide +kernel) (by decide +kernel)
set_option maxRecDepth 20000 in
theorem gX10_init_X1_init_n57 : GoodIn wsX10_init (wsX1_init) := ggX10_init_X1_init
set_option maxRecDepth 20000 in
theorem ggX10_init_X8_init : GoodIn wsX10_init wsX8_init := goodIn_r _ [116, 117, 2, 3, 57, 118, 119, 120, 121, 113, 122, 123, 124, 125, 167, 168, 169, 170, 171, 172, 173, 174, 175, 176, 177] (by decide +kernel) (by decide +kernel)
set_option maxRecDepth 20000 in
theorem gX10_init_X8_init_n64 : GoodIn wsX10_init (wsX8_init) := ggX10_init_X8_init
set_option maxRecDepth 20000 in
theorem ggX10_init_X2_init : GoodIn wsX10_init wsX2_init := goodIn_r _ [127, 128, 2, 3, 113, 129, 130, 131, 132, 133, 134, 178, 179, 180, 181, 182, 183, 184] (by decide +kernel) (by decide +kernel)
set_option maxRecDepth 20000 in
theorem gX10_init_X2_init_n71 : GoodIn wsX10_init (wsX2_init) := ggX10_init_X2_init
theorem dX10_init_0 : decode cX10_init 0 = .ok (.aload_n 0, 1) := by decide +kernel
theorem dX10_init_1 : decode cX10_init 1 = .ok (.invokespecial 3, 3) := by decide +kernel
theorem dX10_init_4 : decode cX10_init 4 = .ok (.aload_n 0, 1) := by decide +kernel
theorem dX10_init_5 : decode cX10_init 5 = .ok (.new 9, 3) := by decide +kernel
theorem dX10_init_8 : decode cX10_init 8 = .ok (.dup, 1) := by decide +kernel
theorem dX10_init_9 : decode cX10_init 9 = .ok (.invokespecial 11, 3) := by decide +kernel
theorem dX10_init_12 : decode cX10_init 12 = .ok (.putfield 12, 3) := by decide +kernel
theorem dX10_init_15 : decode cX10_init 15 = .ok (.aload_n 0, 1) := by decide +kernel
theorem dX10_init_16 : decode cX10_init 16 = .ok (.iconst 2, 1) := by decide +kernel
theorem dX10_init_17 : decode cX10_init 17 = .ok (.anewarray 9, 3) := by decide +kernel
theorem dX10_init_20 : decode cX10_init 20 = .ok (.putfield 16, 3) := by decide +kernel
theorem dX10_init_23 : decode cX10_init 23 = .ok (.aload_n 0, 1) := by decide +kernel
theorem dX10_init_24 : decode cX10_init 24 = .ok (.iconst 2, 1) := by decide +kernel
theorem dX10_init_25 : decode cX10_init 25 = .ok (.newarray .boolean, 2) := by decide +kernel
theorem dX10_init_27 : decode cX10_init 27 = .ok (.putfield 20, 3) := by decide +kernel
theorem dX10_init_30 : decode cX10_init 30 = .ok (.aload_n 0, 1) := by decide +kernel
theorem dX10_init_31 : decode cX10_init 31 = .ok (.new 24, 3) := by decide +kernel
theorem dX10_init_34 : decode cX10_init 34 = .ok (.dup, 1) := by decide +kernel
theorem dX10_init_35 : decode cX10_init 35 = .ok (.invokespecial 26, 3) := by decide +kernel
theorem dX10_init_38 : decode cX10_init 38 = .ok (.putfield 27, 3) := by decide +kernel
theorem dX10_init_41 : decode cX10_init 41 = .ok (.aload_n 0, 1) := by decide +kernel
theorem dX10_init_42 : decode cX10_init 42 = .ok (.new 31, 3) := by decide +kernel
theorem dX10_init_45 : decode cX10_init 45 = .ok (.dup, 1) := by decide +kernel
theorem dX10_init_46 : decode cX10_init 46 = .ok (.invokespecial 33, 3) := by decide +kernel
theorem dX10_init_49 : decode cX10_init 49 = .ok (.putfield 34, 3) := by decide +kernel
theorem dX10_init_52 : decode cX10_init 52 = .ok (.aload_n 0, 1) := by decide +kernel
theorem dX10_init_53 : decode cX10_init 53 = .ok (.new 38, 3) := by decide +kernel
theorem dX10_init_56 : decode cX10_init 56 = .ok (.dup, 1) := by decide +kernel
theorem dX10_init_57 : decode cX10_init 57 = .ok (.invokespecial 40, 3) := by decide +kernel
theorem dX10_init_60 : decode cX10_init 60 = .ok (.putfield 41, 3) := by decide +kernel
theorem dX10_init_63 : decode cX10_init 63 = .ok (.aload_n 0, 1) := by decide +kernel
theorem dX10_init_64 : decode cX10_init 64 = .ok (.new 38, 3) := by decide +kernel
theorem dX10_init_67 : decode cX10_init 67 = .ok (.dup, 1) := by decide +kernel
theorem dX10_init_68 : decode cX10_init 68 = .ok (.invokespecial 40, 3) := by decide +kernel
theorem dX10_init_71 : decode cX10_init 71 = .ok (.putfield 45, 3) := by decide +kernel
theorem dX10_init_74 : decode cX10_init 74 = .ok (.aload_n 0, 1) := by decide +kernel
theorem dX10_init_75 : decode cX10_init 75 = .ok (.new 48, 3) := by decide +kernel
theorem dX10_init_78 : decode cX10_init 78 = .ok (.dup, 1) := by decide +kernel
theorem dX10_init_79 : decode cX10_init 79 = .ok (.invokespecial 50, 3) := by decide +kernel
theorem dX10_init_82 : decode cX10_init 82 = .ok (.putfield 51, 3) := by decide +kernel
theorem dX10_init_85 : decode cX10_init 85 = .ok (.aload_n 0, 1) := by decide +kernel
theorem dX10_init_86 : decode cX10_init 86 = .ok (.new 55, 3) := by decide +kernel
theorem dX10_init_89 : decode cX10_init 89 = .ok (.dup, 1) := by decide +kernel
theorem dX10_init_90 : decode cX10_init 90 = .ok (.invokespecial 57, 3) := by decide +kernel
theorem dX10_init_93 : decode cX10_init 93 = .ok (.putfield 58, 3) := by decide +kernel
theorem dX10_init_96 : decode cX10_init 96 = .ok (.aload_n 0, 1) := by decide +kernel
theorem dX10_init_97 : decode cX10_init 97 = .ok (.new 62, 3) := by decide +kernel
theorem dX10_init_100 : decode cX10_init 100 = .ok (.dup, 1) := by decide +kernel
theorem dX10_init_101 : decode cX10_init 101 = .ok (.invokespecial 64, 3) := by decide +kernel
theorem dX10_init_104 : decode cX10_init 104 = .ok (.putfield 65, 3) := by decide +kernel
theorem dX10_init_107 : decode cX10_init 107 = .ok (.aload_n 0, 1) := by decide +kernel
theorem dX10_init_108 : decode cX10_init 108 = .ok (.new 69, 3) := by decide +kernel
theorem dX10_init_111 : decode cX10_init 111 = .ok (.dup, 1) := by decide +kernel
theorem dX10_init_112 : decode cX10_init 112 = .ok (.invokespecial 71, 3) := by decide +kernel
theorem dX10_init_115 : decode cX10_init 115 = .ok (.putfield 72, 3) := by decide +kernel
theorem dX10_init_118 : decode cX10_init 118 = .ok (.iconst 0, 1) := by decide +kernel
theorem dX10_init_119 : decode cX10_init 119 = .ok (.istore_n 1, 1) := by decide +kernel
theorem dX10_init_120 : decode cX10_init 120 = .ok (.iload_n 1, 1) := by decide +kernel
theorem dX10_init_121 : decode cX10_init 121 = .ok (.iconst 2, 1) := by decide +kernel
theorem dX10_init_122 : decode cX10_init 122 = .ok (.if_icmp .ge 22, 3) := by decide +kernel
theorem dX10_init_125 : decode cX10_init 125 = .ok (.aload_n 0, 1) := by decide +kernel
theorem dX10_init_126 : decode cX10_init 126 = .ok (.getfield 16, 3) := by decide +kernel
theorem dX10_init_129 : decode cX10_init 129 = .ok (.iload_n 1, 1) := by decide +kernel
theorem dX10_init_130 : decode cX10_init 130 = .ok (.new 9, 3) := by decide +kernel
theorem dX10_init_133 : decode cX10_init 133 = .ok (.dup, 1) := by decide +kernel
theorem dX10_init_134 : decode cX10_init 134 = .ok (.invokespecial 11, 3) := by decide +kernel
theorem dX10_init_137 : decode cX10_init 137 = .ok (.aastore, 1) := by decide +kernel
theorem dX10_init_138 : decode cX10_init 138 = .ok (.iinc 1 1, 3) := by decide +kernel
theorem dX10_init_141 : decode cX10_init 141 = .ok (.goto (-21), 3) := by decide +kernel
theorem dX10_init_144 : decode cX10_init 144 = .ok (.return_, 1) := by decide +kernel
set_option maxRecDepth 20000 in
theorem ggX10_setLetters_X6_begin : GoodIn wsX10_setLetters wsX6_begin := goodIn_r _ [6, 7, 8, 9, 10, 11, 12, 13, 14, 15, 16, 17, 18, 19, 20, 21, 22, 23, 24, 25, 26, 27, 28, 29, 30, 31, 32, 33, 34, 46, 47, 48, 49, 50, 51, 52, 53, 54, 55, 56] (by decide +kernel) (by decide +kernel)
set_option maxRecDepth 20000 in
theorem gX10_setLetters_X6_begin : GoodIn wsX10_setLetters (wsV RX10 86 RX6 yX6_begin wsX6_begin) := goodIn_app (goodIn_of _ (by decide +kernel)) ggX10_setLetters_X6_begin
theorem dX10_setLetters_0 : decode cX10_setLetters 0 = .ok (.iload_n 1, 1) := by decide +kernel
theorem dX10_setLetters_1 : decode cX10_setLetters 1 = .ok (.iconst 2, 1) := by decide +kernel
theorem dX10_setLetters_2 : decode cX10_setLetters 2 = .ok (.if_icmp .lt 9, 3) := by decide +kernel
theorem dX10_setLetters_5 : decode cX10_setLetters 5 = .ok (.iload_n 1, 1) := by decide +kernel
theorem dX10_setLetters_6 : decode cX10_setLetters 6 = .ok (.bipush 6, 2) := by decide +kernel
theorem dX10_setLetters_8 : decode cX10_setLetters 8 = .ok (.if_icmp .le 6, 3) := by decide +kernel
theorem dX10_setLetters_11 : decode cX10_setLetters 11 = .ok (.bipush (-2), 2) := by decide +kernel
theorem dX10_setLetters_13 : decode cX10_setLetters 13 = .ok (.ireturn, 1) := by decide +kernel
theorem dX10_setLetters_14 : decode cX10_setLetters 14 = .ok (.aload_n 0, 1) := by decide +kernel
theorem dX10_setLetters_15 : decode cX10_setLetters 15 = .ok (.getfield 12, 3) := by decide +kernel
theorem dX10_setLetters_18 : decode cX10_setLetters 18 = .ok (.getfield 76, 3) := by decide +kernel
theorem dX10_setLetters_21 : decode cX10_setLetters 21 = .ok (.getfield 80, 3) := by decide +kernel
theorem dX10_setLetters_24 : decode cX10_setLetters 24 = .ok (.istore_n 2, 1) := by decide +kernel
theorem dX10_setLetters_25 : decode cX10_setLetters 25 = .ok (.aload_n 0, 1) := by decide +kernel
theorem dX10_setLetters_26 : decode cX10_setLetters 26 = .ok (.getfield 12, 3) := by decide +kernel
theorem dX10_setLetters_29 : decode cX10_setLetters 29 = .ok (.iload_n 1, 1) := by decide +kernel
theorem dX10_setLetters_30 : decode cX10_setLetters 30 = .ok (.invokevirtual 86, 3) := by decide +kernel
theorem dX10_setLetters_33 : decode cX10_setLetters 33 = .ok (.iload_n 2, 1) := by decide +kernel
theorem dX10_setLetters_34 : decode cX10_setLetters 34 = .ok (.ireturn, 1) := by decide +kernel
set_option maxRecDepth 20000 in
theorem ggX10_setIndependent_X0_has : GoodIn wsX10_setIndependent wsX0_has := goodIn_r _ [6, 7, 40, 41] (by decide +kernel) (by decide +kernel)
set_option maxRecDepth 20000 in
theorem gX10_setIndependent_X0_has : GoodIn wsX10_setIndependent (wsV RX10 90 RX0 yX0_has wsX0_has) := goodIn_app (goodIn_of _ (by decide +kernel)) ggX10_setIndependent_X0_has
set_option maxRecDepth 20000 in
theorem ggX10_setIndependent_X0_areFree : GoodIn wsX10_setIndependent wsX0_areFree := goodIn_r _ [11, 12, 3, 4, 5, 6, 7, 13, 14, 15, 16, 17, 40, 41] (by decide +kernel) (by decide +kernel)
set_option maxRecDepth 20000 in
theorem gX10_setIndependent_X0_areFree : GoodIn wsX10_setIndependent (wsV RX10 94 RX0 yX0_areFree wsX0_areFree) := goodIn_app (goodIn_of _ (by decide +kernel)) ggX10_setIndependent_X0_areFree
set_option maxRecDepth 20000 in
theorem ggX10_setIndependent_X0_join : GoodIn wsX10_setIndependent wsX0_join := goodIn_r _ [21, 17, 12, 3, 4, 5, 6, 7, 40, 41] (by decide +kernel) (by decide +kernel)
set_option maxRecDepth 20000 in
theorem gX10_setIndependent_X0_join : GoodIn wsX10_setIndependent (wsV RX10 98 RX0 yX0_join wsX0_join) := goodIn_app (goodIn_of _ (by decide +kernel)) ggX10_setIndependent_X0_join
set_option maxRecDepth 20000 in
theorem ggX10_setIndependent_X10_toNumber : GoodIn wsX10_setIndependent wsX10_toNumber := goodIn_r _ [25] (by decide +kernel) (by decide +kernel)
set_option maxRecDepth 20000 in
theorem gX10_setIndependent_X10_toNumber : GoodIn wsX10_setIndependent (va_wsS RX10 102 yX10_toNumber wsX10_toNumber) := goodIn_app (goodIn_of _ (by decide +kernel)) ggX10_setIndependent_X10_toNumber
theorem dX10_setIndependent_0 : decode cX10_setIndependent 0 = .ok (.aload_n 0, 1) := by decide +kernel
theorem dX10_setIndependent_1 : decode cX10_setIndependent 1 = .ok (.getfield 12, 3) := by decide +kernel
theorem dX10_setIndependent_4 : decode cX10_setIndependent 4 = .ok (.getfield 76, 3) := by decide +kernel
theorem dX10_setIndependent_7 : decode cX10_setIndependent 7 = .ok (.iload_n 1, 1) := by decide +kernel
theorem dX10_setIndependent_8 : decode cX10_setIndependent 8 = .ok (.invokevirtual 90, 3) := by decide +kernel
theorem dX10_setIndependent_11 : decode cX10_setIndependent 11 = .ok (.ifCond .eq 22, 3) := by decide +kernel
theorem dX10_setIndependent_14 : decode cX10_setIndependent 14 = .ok (.aload_n 0, 1) := by decide +kernel
theorem dX10_setIndependent_15 : decode cX10_setIndependent 15 = .ok (.getfield 12, 3) := by decide +kernel
theorem dX10_setIndependent_18 : decode cX10_setIndependent 18 = .ok (.getfield 76, 3) := by decide +kernel
theorem dX10_setIndependent_21 : decode cX10_setIndependent 21 = .ok (.iload_n 2, 1) := by decide +kernel
theorem dX10_setIndependent_22 : decode cX10_setIndependent 22 = .ok (.invokevirtual 90, 3) := by decide +kernel
theorem dX10_setIndependent_25 : decode cX10_setIndependent 25 = .ok (.ifCond .eq 8, 3) := by decide +kernel
theorem dX10_setIndependent_28 : decode cX10_setIndependent 28 = .ok (.iload_n 1, 1) := by decide +kernel
theorem dX10_setIndependent_29 : decode cX10_setIndependent 29 = .ok (.iload_n 2, 1) := by decide +kernel
theorem dX10_setIndependent_30 : decode cX10_setIndependent 30 = .ok (.if_icmp .ne 5, 3) := by decide +kernel
theorem dX10_setIndependent_33 : decode cX10_setIndependent 33 = .ok (.iconst (-1), 1) := by decide +kernel
theorem dX10_setIndependent_34 : decode cX10_setIndependent 34 = .ok (.ireturn, 1) := by decide +kernel
theorem dX10_setIndependent_35 : decode cX10_setIndependent 35 = .ok (.aload_n 0, 1) := by decide +kernel
theorem dX10_setIndependent_36 : decode cX10_setIndependent 36 = .ok (.getfield 12, 3) := by decide +kernel
theorem dX10_setIndependent_39 : decode cX10_setIndependent 39 = .ok (.getfield 76, 3) := by decide +kernel
theorem dX10_setIndependent_42 : decode cX10_setIndependent 42 = .ok (.iload_n 1, 1) := by decide +kernel
theorem dX10_setIndependent_43 : decode cX10_setIndependent 43 = .ok (.iload_n 2, 1) := by decide +kernel
theorem dX10_setIndependent_44 : decode cX10_setIndependent 44 = .ok (.invokevirtual 94, 3) := by decide +kernel
theorem dX10_setIndependent_47 : decode cX10_setIndependent 47 = .ok (.istore 4, 2) := by decide +kernel
theorem dX10_setIndependent_49 : decode cX10_setIndependent 49 = .ok (.aload_n 0, 1) := by decide +kernel
theorem dX10_setIndependent_50 : decode cX10_setIndependent 50 = .ok (.getfield 12, 3) := by decide +kernel
theorem dX10_setIndependent_53 : decode cX10_setIndependent 53 = .ok (.getfield 76, 3) := by decide +kernel
theorem dX10_setIndependent_56 : decode cX10_setIndependent 56 = .ok (.iload_n 1, 1) := by decide +kernel
theorem dX10_setIndependent_57 : decode cX10_setIndependent 57 = .ok (.iload_n 2, 1) := by decide +kernel
theorem dX10_setIndependent_58 : decode cX10_setIndependent 58 = .ok (.iload_n 3, 1) := by decide +kernel
theorem dX10_setIndependent_59 : decode cX10_setIndependent 59 = .ok (.invokevirtual 98, 3) := by decide +kernel
theorem dX10_setIndependent_62 : decode cX10_setIndependent 62 = .ok (.iload 4, 2) := by decide +kernel
theorem dX10_setIndependent_64 : decode cX10_setIndependent 64 = .ok (.invokestatic 102, 3) := by decide +kernel
theorem dX10_setIndependent_67 : decode cX10_setIndependent 67 = .ok (.ireturn, 1) := by decide +kernel
set_option maxRecDepth 20000 in
theorem ggX10_independent_X0_has : GoodIn wsX10_independent wsX0_has := goodIn_r _ [6, 7, 27, 28] (by decide +kernel) (by decide +kernel)
set_option maxRecDepth 20000 in
theorem gX10_independent_X0_has : GoodIn wsX10_independent (wsV RX10 90 RX0 yX0_has wsX0_has) := goodIn_app (goodIn_of _ (by decide +kernel)) ggX10_independent_X0_has
set_option maxRecDepth 20000 in
theorem ggX10_independent_X0_freeOf : GoodIn wsX10_independent wsX0_freeOf := goodIn_r _ [11, 12, 27, 28] (by decide +kernel) (by decide +kernel)
set_option maxRecDepth 20000 in
theorem gX10_independent_X0_freeOf : GoodIn wsX10_independent (wsV RX10 106 RX0 yX0_freeOf wsX0_freeOf) := goodIn_app (goodIn_of _ (by decide +kernel)) ggX10_independent_X0_freeOf
theorem dX10_independent_0 : decode cX10_independent 0 = .ok (.aload_n 0, 1) := by decide +kernel
theorem dX10_independent_1 : decode cX10_independent 1 = .ok (.getfield 12, 3) := by decide +kernel
theorem dX10_independent_4 : decode cX10_independent 4 = .ok (.getfield 76, 3) := by decide +kernel
theorem dX10_independent_7 : decode cX10_independent 7 = .ok (.iload_n 1, 1) := by decide +kernel
theorem dX10_independent_8 : decode cX10_independent 8 = .ok (.invokevirtual 90, 3) := by decide +kernel
theorem dX10_independent_11 : decode cX10_independent 11 = .ok (.ifCond .ne 5, 3) := by decide +kernel
theorem dX10_independent_14 : decode cX10_independent 14 = .ok (.iconst (-1), 1) := by decide +kernel
theorem dX10_independent_15 : decode cX10_independent 15 = .ok (.ireturn, 1) := by decide +kernel
theorem dX10_independent_16 : decode cX10_independent 16 = .ok (.aload_n 0, 1) := by decide +kernel
theorem dX10_independent_17 : decode cX10_independent 17 = .ok (.getfield 12, 3) := by decide +kernel
theorem dX10_independent_20 : decode cX10_independent 20 = .ok (.getfield 76, 3) := by decide +kernel
theorem dX10_independent_23 : decode cX10_independent 23 = .ok (.iload_n 1, 1) := by decide +kernel
theorem dX10_independent_24 : decode cX10_independent 24 = .ok (.invokevirtual 106, 3) := by decide +kernel
theorem dX10_independent_27 : decode cX10_independent 27 = .ok (.ireturn, 1) := by decide +kernel
set_option maxRecDepth 20000 in
theorem ggX10_different_X0_countDifferent : GoodIn wsX10_different wsX0_countDifferent := goodIn_r _ [7, 8, 9, 10, 11, 6, 12, 13, 14, 15, 16, 17, 18, 19, 20, 21, 22, 23, 24, 25, 26, 27, 28, 29, 44, 45] (by decide +kernel) (by decide +kernel)
set_option maxRecDepth 20000 in
theorem gX10_different_X0_countDifferent : GoodIn wsX10_different (wsV RX10 112 RX0 yX0_countDifferent wsX0_countDifferent) := goodIn_app (goodIn_of _ (by decide +kernel)) ggX10_different_X0_countDifferent
theorem dX10_different_0 : decode cX10_different 0 = .ok (.iload_n 1, 1) := by decide +kernel
theorem dX10_different_1 : decode cX10_different 1 = .ok (.ifCond .lt 9, 3) := by decide +kernel
theorem dX10_different_4 : decode cX10_different 4 = .ok (.iload_n 1, 1) := by decide +kernel
theorem dX10_different_5 : decode cX10_different 5 = .ok (.bipush 16, 2) := by decide +kernel
theorem dX10_different_7 : decode cX10_different 7 = .ok (.if_icmp .le 7, 3) := by decide +kernel
theorem dX10_different_10 : decode cX10_different 10 = .ok (.ldc2_w 110, 3) := by decide +kernel
theorem dX10_different_13 : decode cX10_different 13 = .ok (.lreturn, 1) := by decide +kernel
theorem dX10_different_14 : decode cX10_different 14 = .ok (.aload_n 0, 1) := by decide +kernel
theorem dX10_different_15 : decode cX10_different 15 = .ok (.getfield 12, 3) := by decide +kernel
theorem dX10_different_18 : decode cX10_different 18 = .ok (.getfield 76, 3) := by decide +kernel
theorem dX10_different_21 : decode cX10_different 21 = .ok (.iload_n 1, 1) := by decide +kernel
theorem dX10_different_22 : decode cX10_different 22 = .ok (.invokevirtual 112, 3) := by decide +kernel
theorem dX10_different_25 : decode cX10_different 25 = .ok (.lreturn, 1) := by decide +kernel
set_option maxRecDepth 20000 in
theorem ggX10_add_X10_isWord : GoodIn wsX10_add wsX10_isWord := goodIn_r _ [5] (by decide +kernel) (by decide +kernel)
set_option maxRecDepth 20000 in
theorem gX10_add_X10_isWord : GoodIn wsX10_add (va_wsS RX10 116 yX10_isWord wsX10_isWord) := goodIn_app (goodIn_of _ (by decide +kernel)) ggX10_add_X10_isWord
set_option maxRecDepth 20000 in
theorem ggX10_add_X0_has : GoodIn wsX10_add wsX0_has := goodIn_r _ [10, 11, 35, 36] (by decide +kernel) (by decide +kernel)
set_option maxRecDepth 20000 in
theorem gX10_add_X0_has : GoodIn wsX10_add (wsV RX10 90 RX0 yX0_has wsX0_has) := goodIn_app (goodIn_of _ (by decide +kernel)) ggX10_add_X0_has
set_option maxRecDepth 20000 in
theorem ggX10_add_X9_push : GoodIn wsX10_add wsX9_push := goodIn_r _ [16, 17, 18, 33, 34] (by decide +kernel) (by decide +kernel)
set_option maxRecDepth 20000 in
theorem gX10_add_X9_push : GoodIn wsX10_add (wsV RX10 126 RX9 yX9_push wsX9_push) := goodIn_app (goodIn_of _ (by decide +kernel)) ggX10_add_X9_push
theorem dX10_add_0 : decode cX10_add 0 = .ok (.iload_n 1, 1) := by decide +kernel
theorem dX10_add_1 : decode cX10_add 1 = .ok (.invokestatic 116, 3) := by decide +kernel
theorem dX10_add_4 : decode cX10_add 4 = .ok (.ifCond .eq 17, 3) := by decide +kernel
theorem dX10_add_7 : decode cX10_add 7 = .ok (.aload_n 0, 1) := by decide +kernel
theorem dX10_add_8 : decode cX10_add 8 = .ok (.getfield 12, 3) := by decide +kernel
theorem dX10_add_11 : decode cX10_add 11 = .ok (.getfield 76, 3) := by decide +kernel
theorem dX10_add_14 : decode cX10_add 14 = .ok (.iload_n 2, 1) := by decide +kernel
theorem dX10_add_15 : decode cX10_add 15 = .ok (.invokevirtual 90, 3) := by decide +kernel
theorem dX10_add_18 : decode cX10_add 18 = .ok (.ifCond .ne 5, 3) := by decide +kernel
theorem dX10_add_21 : decode cX10_add 21 = .ok (.iconst (-1), 1) := by decide +kernel
theorem dX10_add_22 : decode cX10_add 22 = .ok (.ireturn, 1) := by decide +kernel
theorem dX10_add_23 : decode cX10_add 23 = .ok (.aload_n 0, 1) := by decide +kernel
theorem dX10_add_24 : decode cX10_add 24 = .ok (.getfield 12, 3) := by decide +kernel
theorem dX10_add_27 : decode cX10_add 27 = .ok (.getfield 119, 3) := by decide +kernel
theorem dX10_add_30 : decode cX10_add 30 = .ok (.iload_n 1, 1) := by decide +kernel
theorem dX10_add_31 : decode cX10_add 31 = .ok (.aaload, 1) := by decide +kernel
theorem dX10_add_32 : decode cX10_add 32 = .ok (.astore_n 3, 1) := by decide +kernel
theorem dX10_add_33 : decode cX10_add 33 = .ok (.aload_n 3, 1) := by decide +kernel
theorem dX10_add_34 : decode cX10_add 34 = .ok (.getfield 123, 3) := by decide +kernel
theorem dX10_add_37 : decode cX10_add 37 = .ok (.bipush 16, 2) := by decide +kernel
theorem dX10_add_39 : decode cX10_add 39 = .ok (.if_icmp .lt 6, 3) := by decide +kernel
theorem dX10_add_42 : decode cX10_add 42 = .ok (.bipush (-4), 2) := by decide +kernel
theorem dX10_add_44 : decode cX10_add 44 = .ok (.ireturn, 1) := by decide +kernel
theorem dX10_add_45 : decode cX10_add 45 = .ok (.aload_n 3, 1) := by decide +kernel
theorem dX10_add_46 : decode cX10_add 46 = .ok (.iload_n 2, 1) := by decide +kernel
theorem dX10_add_47 : decode cX10_add 47 = .ok (.invokevirtual 126, 3) := by decide +kernel
theorem dX10_add_50 : decode cX10_add 50 = .ok (.aload_n 3, 1) := by decide +kernel
theorem dX10_add_51 : decode cX10_add 51 = .ok (.getfield 123, 3) := by decide +kernel
theorem dX10_add_54 : decode cX10_add 54 = .ok (.ireturn, 1) := by decide +kernel
set_option maxRecDepth 20000 in
theorem ggX10_clear_X10_isWord : GoodIn wsX10_clear wsX10_isWord := goodIn_r _ [5] (by decide +kernel) (by decide +kernel)
set_option maxRecDepth 20000 in
theorem gX10_clear_X10_isWord : GoodIn wsX10_clear (va_wsS RX10 116 yX10_isWord wsX10_isWord) := goodIn_app (goodIn_of _ (by decide +kernel)) ggX10_clear_X10_isWord
set_option maxRecDepth 20000 in
theorem ggX10_clear_X9_empty : GoodIn wsX10_clear wsX9_empty := goodIn_r _ [10, 11, 26, 27] (by decide +kernel) (by decide +kernel)
set_option maxRecDepth 20000 in
theorem gX10_clear_X9_empty : GoodIn wsX10_clear (wsV RX10 129 RX9 yX9_empty wsX9_empty) := goodIn_app (goodIn_of _ (by decide +kernel)) ggX10_clear_X9_empty
theorem dX10_clear_0 : decode cX10_clear 0 = .ok (.iload_n 1, 1) := by decide +kernel
theorem dX10_clear_1 : decode cX10_clear 1 = .ok (.invokestatic 116, 3) := by decide +kernel
theorem dX10_clear_4 : decode cX10_clear 4 = .ok (.ifCond .ne 5, 3) := by decide +kernel
theorem dX10_clear_7 : decode cX10_clear 7 = .ok (.iconst (-1), 1) := by decide +kernel
theorem dX10_clear_8 : decode cX10_clear 8 = .ok (.ireturn, 1) := by decide +kernel
theorem dX10_clear_9 : decode cX10_clear 9 = .ok (.aload_n 0, 1) := by decide +kernel
theorem dX10_clear_10 : decode cX10_clear 10 = .ok (.getfield 12, 3) := by decide +kernel
theorem dX10_clear_13 : decode cX10_clear 13 = .ok (.getfield 119, 3) := by decide +kernel
theorem dX10_clear_16 : decode cX10_clear 16 = .ok (.iload_n 1, 1) := by decide +kernel
theorem dX10_clear_17 : decode cX10_clear 17 = .ok (.aaload, 1) := by decide +kernel
theorem dX10_clear_18 : decode cX10_clear 18 = .ok (.getfield 123, 3) := by decide +kernel
theorem dX10_clear_21 : decode cX10_clear 21 = .ok (.istore_n 2, 1) := by decide +kernel
theorem dX10_clear_22 : decode cX10_clear 22 = .ok (.aload_n 0, 1) := by decide +kernel
theorem dX10_clear_23 : decode cX10_clear 23 = .ok (.getfield 12, 3) := by decide +kernel
theorem dX10_clear_26 : decode cX10_clear 26 = .ok (.getfield 119, 3) := by decide +kernel
theorem dX10_clear_29 : decode cX10_clear 29 = .ok (.iload_n 1, 1) := by decide +kernel
theorem dX10_clear_30 : decode cX10_clear 30 = .ok (.aaload, 1) := by decide +kernel
theorem dX10_clear_31 : decode cX10_clear 31 = .ok (.invokevirtual 129, 3) := by decide +kernel
theorem dX10_clear_34 : decode cX10_clear 34 = .ok (.iload_n 2, 1) := by decide +kernel
theorem dX10_clear_35 : decode cX10_clear 35 = .ok (.ireturn, 1) := by decide +kernel
set_option maxRecDepth 20000 in
theorem ggX10_length_X10_isWord : GoodIn wsX10_length wsX10_isWord := goodIn_r _ [5] (by decide +kernel) (by decide +kernel)
set_option maxRecDepth 20000 in
theorem gX10_length_X10_isWord : GoodIn wsX10_length (va_wsS RX10 116 yX10_isWord wsX10_isWord) := goodIn_app (goodIn_of _ (by decide +kernel)) ggX10_length_X10_isWord
theorem dX10_length_0 : decode cX10_length 0 = .ok (.iload_n 1, 1) := by decide +kernel
theorem dX10_length_1 : decode cX10_length 1 = .ok (.invokestatic 116, 3) := by decide +kernel
theorem dX10_length_4 : decode cX10_length 4 = .ok (.ifCond .ne 5, 3) := by decide +kernel
theorem dX10_length_7 : decode cX10_length 7 = .ok (.iconst (-1), 1) := by decide +kernel
theorem dX10_length_8 : decode cX10_length 8 = .ok (.ireturn, 1) := by decide +kernel
theorem dX10_length_9 : decode cX10_length 9 = .ok (.aload_n 0, 1) := by decide +kernel
theorem dX10_length_10 : decode cX10_length 10 = .ok (.getfield 12, 3) := by decide +kernel
theorem dX10_length_13 : decode cX10_length 13 = .ok (.getfield 119, 3) := by decide +kernel
theorem dX10_length_16 : decode cX10_length 16 = .ok (.iload_n 1, 1) := by decide +kernel
theorem dX10_length_17 : decode cX10_length 17 = .ok (.aaload, 1) := by decide +kernel
theorem dX10_length_18 : decode cX10_length 18 = .ok (.getfield 123, 3) := by decide +kernel
theorem dX10_length_21 : decode cX10_length 21 = .ok (.ireturn, 1) := by decide +kernel
set_option maxRecDepth 20000 in
theorem ggX10_letter_X10_isWord : GoodIn wsX10_letter wsX10_isWord := goodIn_r _ [5] (by decide +kernel) (by decide +kernel)
set_option maxRecDepth 20000 in
theorem gX10_letter_X10_isWord : GoodIn wsX10_letter (va_wsS RX10 116 yX10_isWord wsX10_isWord) := goodIn_app (goodIn_of _ (by decide +kernel)) ggX10_letter_X10_isWord
set_option maxRecDepth 20000 in
theorem ggX10_letter_X10_letterOrNone : GoodIn wsX10_letter wsX10_letterOrNone := goodIn_r _ [8, 9, 10, 11, 12, 13, 14, 15, 30, 31] (by decide +kernel) (by decide +kernel)
set_option maxRecDepth 20000 in
theorem gX10_letter_X10_letterOrNone : GoodIn wsX10_letter (va_wsS RX10 132 yX10_letterOrNone wsX10_letterOrNone) := goodIn_app (goodIn_of _ (by decide +kernel)) ggX10_letter_X10_letterOrNone
theorem dX10_letter_0 : decode cX10_letter 0 = .ok (.iload_n 1, 1) := by decide +kernel
theorem dX10_letter_1 : decode cX10_letter 1 = .ok (.invokestatic 116, 3) := by decide +kernel
theorem dX10_letter_4 : decode cX10_letter 4 = .ok (.ifCond .ne 5, 3) := by decide +kernel
theorem dX10_letter_7 : decode cX10_letter 7 = .ok (.iconst (-1), 1) := by decide +kernel
theorem dX10_letter_8 : decode cX10_letter 8 = .ok (.ireturn, 1) := by decide +kernel
theorem dX10_letter_9 : decode cX10_letter 9 = .ok (.aload_n 0, 1) := by decide +kernel
theorem dX10_letter_10 : decode cX10_letter 10 = .ok (.getfield 12, 3) := by decide +kernel
theorem dX10_letter_13 : decode cX10_letter 13 = .ok (.getfield 119, 3) := by decide +kernel
theorem dX10_letter_16 : decode cX10_letter 16 = .ok (.iload_n 1, 1) := by decide +kernel
theorem dX10_letter_17 : decode cX10_letter 17 = .ok (.aaload, 1) := by decide +kernel
theorem dX10_letter_18 : decode cX10_letter 18 = .ok (.iload_n 2, 1) := by decide +kernel
theorem dX10_letter_19 : decode cX10_letter 19 = .ok (.invokestatic 132, 3) := by decide +kernel
theorem dX10_letter_22 : decode cX10_letter 22 = .ok (.ireturn, 1) := by decide +kernel
set_option maxRecDepth 20000 in
theorem ggX10_normal_X10_isWord : GoodIn wsX10_normal wsX10_isWord := goodIn_r _ [6] (by decide +kernel) (by decide +kernel)
set_option maxRecDepth 20000 in
theorem gX10_normal_X10_isWord : GoodIn wsX10_normal (va_wsS RX10 116 yX10_isWord wsX10_isWord) := goodIn_app (goodIn_of _ (by decide +kernel)) ggX10_normal_X10_isWord
set_option maxRecDepth 20000 in
theorem ggX10_normal_X10_lay : GoodIn wsX10_normal wsX10_lay := goodIn_r _ [10, 1, 11, 12, 13, 14, 15, 16, 17, 18, 19, 20, 21, 22, 23, 24, 25, 26, 27, 28, 29, 30, 31, 32, 33, 34, 35, 36, 37, 38, 39, 40, 41, 42, 43, 44, 45, 46, 47, 48, 49, 50, 51, 52, 53, 97, 98, 99, 100, 101, 102, 103, 104, 105, 106, 107, 108, 109, 110, 111, 112, 113, 114, 115, 116, 117, 118, 119, 120, 121] (by decide +kernel) (by decide +kernel)
set_option maxRecDepth 20000 in
theorem gX10_normal_X10_lay : GoodIn wsX10_normal (wsV RX10 136 RX10 yX10_lay wsX10_lay) := goodIn_app (goodIn_of _ (by decide +kernel)) ggX10_normal_X10_lay
set_option maxRecDepth 20000 in
theorem ggX10_normal_X3_writeRest : GoodIn wsX10_normal wsX3_writeRest := goodIn_r _ [57, 58, 59, 60, 28, 61, 30, 62, 63, 64, 15, 65, 17, 66, 67, 68, 69, 18, 19, 70, 71, 72, 73, 74, 75, 76, 77, 78, 79, 80, 81, 82, 83, 84, 20, 42, 85, 86, 87, 88, 89, 90, 91, 92, 31, 120, 121, 113, 114, 115, 116, 117, 118, 119] (by decide +kernel) (by decide +kernel)
set_option maxRecDepth 20000 in
theorem gX10_normal_X3_writeRest : GoodIn wsX10_normal (wsV RX10 139 RX3 yX3_writeRest wsX3_writeRest) := goodIn_app (goodIn_of _ (by decide +kernel)) ggX10_normal_X3_writeRest
set_option maxRecDepth 20000 in
theorem ggX10_normal_X10_letterOrNone : GoodIn wsX10_normal wsX10_letterOrNone := goodIn_r _ [95, 96, 26, 27, 28, 29, 30, 31, 120, 121] (by decide +kernel) (by decide +kernel)
set_option maxRecDepth 20000 in
theorem gX10_normal_X10_letterOrNone : GoodIn wsX10_normal (va_wsS RX10 132 yX10_letterOrNone wsX10_letterOrNone) := goodIn_app (goodIn_of _ (by decide +kernel)) ggX10_normal_X10_letterOrNone
theorem dX10_normal_0 : decode cX10_normal 0 = .ok (.iload_n 1, 1) := by decide +kernel
theorem dX10_normal_1 : decode cX10_normal 1 = .ok (.invokestatic 116, 3) := by decide +kernel
theorem dX10_normal_4 : decode cX10_normal 4 = .ok (.ifCond .ne 5, 3) := by decide +kernel
theorem dX10_normal_7 : decode cX10_normal 7 = .ok (.iconst (-1), 1) := by decide +kernel
theorem dX10_normal_8 : decode cX10_normal 8 = .ok (.ireturn, 1) := by decide +kernel
theorem dX10_normal_9 : decode cX10_normal 9 = .ok (.aload_n 0, 1) := by decide +kernel
theorem dX10_normal_10 : decode cX10_normal 10 = .ok (.iload_n 1, 1) := by decide +kernel
theorem dX10_normal_11 : decode cX10_normal 11 = .ok (.invokevirtual 136, 3) := by decide +kernel
theorem dX10_normal_14 : decode cX10_normal 14 = .ok (.aload_n 0, 1) := by decide +kernel
theorem dX10_normal_15 : decode cX10_normal 15 = .ok (.getfield 41, 3) := by decide +kernel
theorem dX10_normal_18 : decode cX10_normal 18 = .ok (.aload_n 0, 1) := by decide +kernel
theorem dX10_normal_19 : decode cX10_normal 19 = .ok (.getfield 34, 3) := by decide +kernel
theorem dX10_normal_22 : decode cX10_normal 22 = .ok (.invokevirtual 139, 3) := by decide +kernel
theorem dX10_normal_25 : decode cX10_normal 25 = .ok (.aload_n 0, 1) := by decide +kernel
theorem dX10_normal_26 : decode cX10_normal 26 = .ok (.getfield 34, 3) := by decide +kernel
theorem dX10_normal_29 : decode cX10_normal 29 = .ok (.iload_n 2, 1) := by decide +kernel
theorem dX10_normal_30 : decode cX10_normal 30 = .ok (.invokestatic 132, 3) := by decide +kernel
theorem dX10_normal_33 : decode cX10_normal 33 = .ok (.ireturn, 1) := by decide +kernel
set_option maxRecDepth 20000 in
theorem ggX10_layers_X10_isWord : GoodIn wsX10_layers wsX10_isWord := goodIn_r _ [5] (by decide +kernel) (by decide +kernel)
set_option maxRecDepth 20000 in
theorem gX10_layers_X10_isWord : GoodIn wsX10_layers (va_wsS RX10 116 yX10_isWord wsX10_isWord) := goodIn_app (goodIn_of _ (by decide +kernel)) ggX10_layers_X10_isWord
set_option maxRecDepth 20000 in
theorem ggX10_layers_X10_lay : GoodIn wsX10_layers wsX10_lay := goodIn_r _ [9, 1, 10, 11, 12, 13, 14, 15, 16, 17, 18, 19, 20, 21, 22, 23, 24, 25, 26, 27, 28, 29, 30, 31, 32, 33, 34, 35, 36, 37, 38, 39, 40, 41, 42, 43, 44, 45, 46, 47, 48, 49, 50, 51, 52, 57, 58, 59, 60, 61, 62, 63, 64, 65, 66, 67, 68, 69, 70, 71, 72, 73, 74, 75, 76, 77, 78, 79, 80, 81] (by decide +kernel) (by decide +kernel)
set_option maxRecDepth 20000 in
theorem gX10_layers_X10_lay : GoodIn wsX10_layers (wsV RX10 136 RX10 yX10_lay wsX10_lay) := goodIn_app (goodIn_of _ (by decide +kernel)) ggX10_layers_X10_lay
set_option maxRecDepth 20000 in
theorem ggX10_layers_X3_countLayers : GoodIn wsX10_layers wsX3_countLayers := goodIn_r _ [56, 17, 36, 37, 38, 39, 40, 73, 74, 75, 76, 77, 78, 79] (by decide +kernel) (by decide +kernel)
set_option maxRecDepth 20000 in
theorem gX10_layers_X3_countLayers : GoodIn wsX10_layers (wsV RX10 143 RX3 yX3_countLayers wsX3_countLayers) := goodIn_app (goodIn_of _ (by decide +kernel)) ggX10_layers_X3_countLayers
theorem dX10_layers_0 : decode cX10_layers 0 = .ok (.iload_n 1, 1) := by decide +kernel
theorem dX10_layers_1 : decode cX10_layers 1 = .ok (.invokestatic 116, 3) := by decide +kernel
theorem dX10_layers_4 : decode cX10_layers 4 = .ok (.ifCond .ne 5, 3) := by decide +kernel
theorem dX10_layers_7 : decode cX10_layers 7 = .ok (.iconst (-1), 1) := by decide +kernel
theorem dX10_layers_8 : decode cX10_layers 8 = .ok (.ireturn, 1) := by decide +kernel
theorem dX10_layers_9 : decode cX10_layers 9 = .ok (.aload_n 0, 1) := by decide +kernel
theorem dX10_layers_10 : decode cX10_layers 10 = .ok (.iload_n 1, 1) := by decide +kernel
theorem dX10_layers_11 : decode cX10_layers 11 = .ok (.invokevirtual 136, 3) := by decide +kernel
theorem dX10_layers_14 : decode cX10_layers 14 = .ok (.aload_n 0, 1) := by decide +kernel
theorem dX10_layers_15 : decode cX10_layers 15 = .ok (.getfield 41, 3) := by decide +kernel
theorem dX10_layers_18 : decode cX10_layers 18 = .ok (.invokevirtual 143, 3) := by decide +kernel
theorem dX10_layers_21 : decode cX10_layers 21 = .ok (.ireturn, 1) := by decide +kernel
set_option maxRecDepth 20000 in
theorem ggX10_layer_X10_isWord : GoodIn wsX10_layer wsX10_isWord := goodIn_r _ [5] (by decide +kernel) (by decide +kernel)
set_option maxRecDepth 20000 in
theorem gX10_layer_X10_isWord : GoodIn wsX10_layer (va_wsS RX10 116 yX10_isWord wsX10_isWord) := goodIn_app (goodIn_of _ (by decide +kernel)) ggX10_layer_X10_isWord
set_option maxRecDepth 20000 in
theorem ggX10_layer_X10_lay : GoodIn wsX10_layer wsX10_lay := goodIn_r _ [9, 1, 10, 11, 12, 13, 14, 15, 16, 17, 18, 19, 20, 21, 22, 23, 24, 25, 26, 27, 28, 29, 30, 31, 32, 33, 34, 35, 36, 37, 38, 39, 40, 41, 42, 43, 44, 45, 46, 47, 48, 49, 50, 51, 52, 61, 62, 63, 64, 65, 66, 67, 68, 69, 70, 71, 72, 73, 74, 75, 76, 77, 78, 79, 80, 81, 82, 83, 84, 85] (by decide +kernel) (by decide +kernel)
set_option maxRecDepth 20000 in
theorem gX10_layer_X10_lay : GoodIn wsX10_layer (wsV RX10 136 RX10 yX10_lay wsX10_lay) := goodIn_app (goodIn_of _ (by decide +kernel)) ggX10_layer_X10_lay
set_option maxRecDepth 20000 in
theorem ggX10_layer_X3_countLayers : GoodIn wsX10_layer wsX3_countLayers := goodIn_r _ [56, 17, 36, 37, 38, 39, 40, 77, 78, 79, 80, 81, 82, 83] (by decide +kernel) (by decide +kernel)
set_option maxRecDepth 20000 in
theorem gX10_layer_X3_countLayers : GoodIn wsX10_layer (wsV RX10 143 RX3 yX3_countLayers wsX3_countLayers) := goodIn_app (goodIn_of _ (by decide +kernel)) ggX10_layer_X3_countLayers
set_option maxRecDepth 20000 in
theorem ggX10_layer_X3_lettersOfLayer : GoodIn wsX10_layer wsX3_lettersOfLayer := goodIn_r _ [60, 17, 36, 35, 77, 78, 79, 80, 81, 82, 83] (by decide +kernel) (by decide +kernel)
set_option maxRecDepth 20000 in
theorem gX10_layer_X3_lettersOfLayer : GoodIn wsX10_layer (wsV RX10 147 RX3 yX3_lettersOfLayer wsX3_lettersOfLayer) := goodIn_app (goodIn_of _ (by decide +kernel)) ggX10_layer_X3_lettersOfLayer
theorem dX10_layer_0 : decode cX10_layer 0 = .ok (.iload_n 1, 1) := by decide +kernel
theorem dX10_layer_1 : decode cX10_layer 1 = .ok (.invokestatic 116, 3) := by decide +kernel
theorem dX10_layer_4 : decode cX10_layer 4 = .ok (.ifCond .ne 5, 3) := by decide +kernel
theorem dX10_layer_7 : decode cX10_layer 7 = .ok (.iconst (-1), 1) := by decide +kernel
theorem dX10_layer_8 : decode cX10_layer 8 = .ok (.ireturn, 1) := by decide +kernel
theorem dX10_layer_9 : decode cX10_layer 9 = .ok (.aload_n 0, 1) := by decide +kernel
theorem dX10_layer_10 : decode cX10_layer 10 = .ok (.iload_n 1, 1) := by decide +kernel
theorem dX10_layer_11 : decode cX10_layer 11 = .ok (.invokevirtual 136, 3) := by decide +kernel
theorem dX10_layer_14 : decode cX10_layer 14 = .ok (.iload_n 2, 1) := by decide +kernel
theorem dX10_layer_15 : decode cX10_layer 15 = .ok (.ifCond .lt 14, 3) := by decide +kernel
theorem dX10_layer_18 : decode cX10_layer 18 = .ok (.iload_n 2, 1) := by decide +kernel
theorem dX10_layer_19 : decode cX10_layer 19 = .ok (.aload_n 0, 1) := by decide +kernel
theorem dX10_layer_20 : decode cX10_layer 20 = .ok (.getfield 41, 3) := by decide +kernel
theorem dX10_layer_23 : decode cX10_layer 23 = .ok (.invokevirtual 143, 3) := by decide +kernel
theorem dX10_layer_26 : decode cX10_layer 26 = .ok (.if_icmp .lt 6, 3) := by decide +kernel
theorem dX10_layer_29 : decode cX10_layer 29 = .ok (.bipush (-5), 2) := by decide +kernel
theorem dX10_layer_31 : decode cX10_layer 31 = .ok (.ireturn, 1) := by decide +kernel
theorem dX10_layer_32 : decode cX10_layer 32 = .ok (.aload_n 0, 1) := by decide +kernel
theorem dX10_layer_33 : decode cX10_layer 33 = .ok (.getfield 41, 3) := by decide +kernel
theorem dX10_layer_36 : decode cX10_layer 36 = .ok (.iload_n 2, 1) := by decide +kernel
theorem dX10_layer_37 : decode cX10_layer 37 = .ok (.invokevirtual 147, 3) := by decide +kernel
theorem dX10_layer_40 : decode cX10_layer 40 = .ok (.ireturn, 1) := by decide +kernel
set_option maxRecDepth 20000 in
theorem ggX10_projected_X10_isWord : GoodIn wsX10_projected wsX10_isWord := goodIn_r _ [6] (by decide +kernel) (by decide +kernel)
set_option maxRecDepth 20000 in
theorem gX10_projected_X10_isWord : GoodIn wsX10_projected (va_wsS RX10 116 yX10_isWord wsX10_isWord) := goodIn_app (goodIn_of _ (by decide +kernel)) ggX10_projected_X10_isWord
set_option maxRecDepth 20000 in
theorem ggX10_projected_X0_has : GoodIn wsX10_projected wsX0_has := goodIn_r _ [11, 12, 47, 48] (by decide +kernel) (by decide +kernel)
set_option maxRecDepth 20000 in
theorem gX10_projected_X0_has : GoodIn wsX10_projected (wsV RX10 90 RX0 yX0_has wsX0_has) := goodIn_app (goodIn_of _ (by decide +kernel)) ggX10_projected_X0_has
set_option maxRecDepth 20000 in
theorem ggX10_projected_X9_empty : GoodIn wsX10_projected wsX9_empty := goodIn_r _ [17, 18, 45, 46] (by decide +kernel) (by decide +kernel)
set_option maxRecDepth 20000 in
theorem gX10_projected_X9_empty : GoodIn wsX10_projected (wsV RX10 129 RX9 yX9_empty wsX9_empty) := goodIn_app (goodIn_of _ (by decide +kernel)) ggX10_projected_X9_empty
set_option maxRecDepth 20000 in
theorem ggX10_projected_X9_at : GoodIn wsX10_projected wsX9_at := goodIn_r _ [22, 18, 23, 45, 46] (by decide +kernel) (by decide +kernel)
set_option maxRecDepth 20000 in
theorem gX10_projected_X9_at : GoodIn wsX10_projected (wsV RX10 150 RX9 yX9_at wsX9_at) := goodIn_app (goodIn_of _ (by decide +kernel)) ggX10_projected_X9_at
set_option maxRecDepth 20000 in
theorem ggX10_projected_X9_push : GoodIn wsX10_projected wsX9_push := goodIn_r _ [27, 18, 23, 45, 46] (by decide +kernel) (by decide +kernel)
set_option maxRecDepth 20000 in
theorem gX10_projected_X9_push : GoodIn wsX10_projected (wsV RX10 126 RX9 yX9_push wsX9_push) := goodIn_app (goodIn_of _ (by decide +kernel)) ggX10_projected_X9_push
set_option maxRecDepth 20000 in
theorem ggX10_projected_X10_letterOrNone : GoodIn wsX10_projected wsX10_letterOrNone := goodIn_r _ [30, 19, 20, 21, 16, 22, 18, 23, 45, 46] (by decide +kernel) (by decide +kernel)
set_option maxRecDepth 20000 in
theorem gX10_projected_X10_letterOrNone : GoodIn wsX10_projected (va_wsS RX10 132 yX10_letterOrNone wsX10_letterOrNone) := goodIn_app (goodIn_of _ (by decide +kernel)) ggX10_projected_X10_letterOrNone
theorem dX10_projected_0 : decode cX10_projected 0 = .ok (.iload_n 1, 1) := by decide +kernel
theorem dX10_projected_1 : decode cX10_projected 1 = .ok (.invokestatic 116, 3) := by decide +kernel
theorem dX10_projected_4 : decode cX10_projected 4 = .ok (.ifCond .eq 31, 3) := by decide +kernel
theorem dX10_projected_7 : decode cX10_projected 7 = .ok (.aload_n 0, 1) := by decide +kernel
theorem dX10_projected_8 : decode cX10_projected 8 = .ok (.getfield 12, 3) := by decide +kernel
theorem dX10_projected_11 : decode cX10_projected 11 = .ok (.getfield 76, 3) := by decide +kernel
theorem dX10_projected_14 : decode cX10_projected 14 = .ok (.iload_n 2, 1) := by decide +kernel
theorem dX10_projected_15 : decode cX10_projected 15 = .ok (.invokevirtual 90, 3) := by decide +kernel
theorem dX10_projected_18 : decode cX10_projected 18 = .ok (.ifCond .eq 17, 3) := by decide +kernel
theorem dX10_projected_21 : decode cX10_projected 21 = .ok (.aload_n 0, 1) := by decide +kernel
theorem dX10_projected_22 : decode cX10_projected 22 = .ok (.getfield 12, 3) := by decide +kernel
theorem dX10_projected_25 : decode cX10_projected 25 = .ok (.getfield 76, 3) := by decide +kernel
theorem dX10_projected_28 : decode cX10_projected 28 = .ok (.iload_n 3, 1) := by decide +kernel
theorem dX10_projected_29 : decode cX10_projected 29 = .ok (.invokevirtual 90, 3) := by decide +kernel
theorem dX10_projected_32 : decode cX10_projected 32 = .ok (.ifCond .ne 5, 3) := by decide +kernel
theorem dX10_projected_35 : decode cX10_projected 35 = .ok (.iconst (-1), 1) := by decide +kernel
theorem dX10_projected_36 : decode cX10_projected 36 = .ok (.ireturn, 1) := by decide +kernel
theorem dX10_projected_37 : decode cX10_projected 37 = .ok (.aload_n 0, 1) := by decide +kernel
theorem dX10_projected_38 : decode cX10_projected 38 = .ok (.getfield 12, 3) := by decide +kernel
theorem dX10_projected_41 : decode cX10_projected 41 = .ok (.getfield 119, 3) := by decide +kernel
theorem dX10_projected_44 : decode cX10_projected 44 = .ok (.iload_n 1, 1) := by decide +kernel
theorem dX10_projected_45 : decode cX10_projected 45 = .ok (.aaload, 1) := by decide +kernel
theorem dX10_projected_46 : decode cX10_projected 46 = .ok (.astore 5, 2) := by decide +kernel
theorem dX10_projected_48 : decode cX10_projected 48 = .ok (.aload_n 0, 1) := by decide +kernel
theorem dX10_projected_49 : decode cX10_projected 49 = .ok (.getfield 34, 3) := by decide +kernel
theorem dX10_projected_52 : decode cX10_projected 52 = .ok (.invokevirtual 129, 3) := by decide +kernel
theorem dX10_projected_55 : decode cX10_projected 55 = .ok (.iconst 0, 1) := by decide +kernel
theorem dX10_projected_56 : decode cX10_projected 56 = .ok (.istore 6, 2) := by decide +kernel
theorem dX10_projected_58 : decode cX10_projected 58 = .ok (.iload 6, 2) := by decide +kernel
theorem dX10_projected_60 : decode cX10_projected 60 = .ok (.aload 5, 2) := by decide +kernel
theorem dX10_projected_62 : decode cX10_projected 62 = .ok (.getfield 123, 3) := by decide +kernel
theorem dX10_projected_65 : decode cX10_projected 65 = .ok (.if_icmp .ge 39, 3) := by decide +kernel
theorem dX10_projected_68 : decode cX10_projected 68 = .ok (.aload 5, 2) := by decide +kernel
theorem dX10_projected_70 : decode cX10_projected 70 = .ok (.iload 6, 2) := by decide +kernel
theorem dX10_projected_72 : decode cX10_projected 72 = .ok (.invokevirtual 150, 3) := by decide +kernel
theorem dX10_projected_75 : decode cX10_projected 75 = .ok (.istore 7, 2) := by decide +kernel
theorem dX10_projected_77 : decode cX10_projected 77 = .ok (.iload 7, 2) := by decide +kernel
theorem dX10_projected_79 : decode cX10_projected 79 = .ok (.iload_n 2, 1) := by decide +kernel
theorem dX10_projected_80 : decode cX10_projected 80 = .ok (.if_icmp .eq 9, 3) := by decide +kernel
theorem dX10_projected_83 : decode cX10_projected 83 = .ok (.iload 7, 2) := by decide +kernel
theorem dX10_projected_85 : decode cX10_projected 85 = .ok (.iload_n 3, 1) := by decide +kernel
theorem dX10_projected_86 : decode cX10_projected 86 = .ok (.if_icmp .ne 12, 3) := by decide +kernel
theorem dX10_projected_89 : decode cX10_projected 89 = .ok (.aload_n 0, 1) := by decide +kernel
theorem dX10_projected_90 : decode cX10_projected 90 = .ok (.getfield 34, 3) := by decide +kernel
theorem dX10_projected_93 : decode cX10_projected 93 = .ok (.iload 7, 2) := by decide +kernel
theorem dX10_projected_95 : decode cX10_projected 95 = .ok (.invokevirtual 126, 3) := by decide +kernel
theorem dX10_projected_98 : decode cX10_projected 98 = .ok (.iinc 6 1, 3) := by decide +kernel
theorem dX10_projected_101 : decode cX10_projected 101 = .ok (.goto (-43), 3) := by decide +kernel
theorem dX10_projected_104 : decode cX10_projected 104 = .ok (.aload_n 0, 1) := by decide +kernel
theorem dX10_projected_105 : decode cX10_projected 105 = .ok (.getfield 34, 3) := by decide +kernel
theorem dX10_projected_108 : decode cX10_projected 108 = .ok (.iload 4, 2) := by decide +kernel
theorem dX10_projected_110 : decode cX10_projected 110 = .ok (.invokestatic 132, 3) := by decide +kernel
theorem dX10_projected_113 : decode cX10_projected 113 = .ok (.ireturn, 1) := by decide +kernel
set_option maxRecDepth 20000 in
theorem ggX10_alikeWords_X10_isWord : GoodIn wsX10_alikeWords wsX10_isWord := goodIn_r _ [7] (by decide +kernel) (by decide +kernel)
set_option maxRecDepth 20000 in
theorem gX10_alikeWords_X10_isWord : GoodIn wsX10_alikeWords (va_wsS RX10 116 yX10_isWord wsX10_isWord) := goodIn_app (goodIn_of _ (by decide +kernel)) ggX10_alikeWords_X10_isWord
set_option maxRecDepth 20000 in
theorem ggX10_alikeWords_X10_countAlike : GoodIn wsX10_alikeWords wsX10_countAlike := goodIn_r _ [11, 12, 2, 3, 13, 14, 15, 16, 17, 18, 19, 20, 21, 22, 23, 24, 25, 26, 27, 28, 29, 30, 31, 32, 33, 34, 35, 36, 37, 38, 39, 40, 41, 42, 43, 44, 45, 46, 47, 48, 49, 50, 51, 52, 53, 54, 55, 56, 57, 58, 59, 60, 61, 62, 63, 64, 65, 66, 67, 68, 69, 70, 71, 72, 73, 74, 75, 76, 77, 78, 79, 80, 81, 82, 83, 84, 85, 86, 87, 88, 89, 90, 91, 92, 93, 94, 95, 96, 97, 98, 99, 100, 101, 102, 103, 104, 105, 106, 107, 108, 109, 110, 111, 112, 113, 114, 115, 116, 117, 118, 119, 120, 125, 126, 127, 128, 129, 130, 131, 132, 133, 134, 135, 136, 137, 138, 139, 140, 141, 142, 143, 144, 145, 146, 147, 148, 149, 150, 151, 152, 153, 154, 155, 156, 157, 158, 159, 160] (by decide +kernel) (by decide +kernel)
set_option maxRecDepth 20000 in
theorem gX10_alikeWords_X10_countAlike : GoodIn wsX10_alikeWords (wsV RX10 155 RX10 yX10_countAlike wsX10_countAlike) := goodIn_app (goodIn_of _ (by decide +kernel)) ggX10_alikeWords_X10_countAlike
set_option maxRecDepth 20000 in
theorem ggX10_alikeWords_X1_countAll : GoodIn wsX10_alikeWords wsX1_countAll := goodIn_r _ [124, 85, 106, 107, 108, 82, 109, 84, 155, 156] (by decide +kernel) (by decide +kernel)
set_option maxRecDepth 20000 in
theorem gX10_alikeWords_X1_countAll : GoodIn wsX10_alikeWords (wsV RX10 158 RX1 yX1_countAll wsX1_countAll) := goodIn_app (goodIn_of _ (by decide +kernel)) ggX10_alikeWords_X1_countAll
theorem dX10_alikeWords_0 : decode cX10_alikeWords 0 = .ok (.iload_n 1, 1) := by decide +kernel
theorem dX10_alikeWords_1 : decode cX10_alikeWords 1 = .ok (.invokestatic 116, 3) := by decide +kernel
theorem dX10_alikeWords_4 : decode cX10_alikeWords 4 = .ok (.ifCond .ne 7, 3) := by decide +kernel
theorem dX10_alikeWords_7 : decode cX10_alikeWords 7 = .ok (.ldc2_w 153, 3) := by decide +kernel
theorem dX10_alikeWords_10 : decode cX10_alikeWords 10 = .ok (.lreturn, 1) := by decide +kernel
theorem dX10_alikeWords_11 : decode cX10_alikeWords 11 = .ok (.aload_n 0, 1) := by decide +kernel
theorem dX10_alikeWords_12 : decode cX10_alikeWords 12 = .ok (.aload_n 0, 1) := by decide +kernel
theorem dX10_alikeWords_13 : decode cX10_alikeWords 13 = .ok (.getfield 12, 3) := by decide +kernel
theorem dX10_alikeWords_16 : decode cX10_alikeWords 16 = .ok (.getfield 119, 3) := by decide +kernel
theorem dX10_alikeWords_19 : decode cX10_alikeWords 19 = .ok (.iload_n 1, 1) := by decide +kernel
theorem dX10_alikeWords_20 : decode cX10_alikeWords 20 = .ok (.aaload, 1) := by decide +kernel
theorem dX10_alikeWords_21 : decode cX10_alikeWords 21 = .ok (.invokevirtual 155, 3) := by decide +kernel
theorem dX10_alikeWords_24 : decode cX10_alikeWords 24 = .ok (.aload_n 0, 1) := by decide +kernel
theorem dX10_alikeWords_25 : decode cX10_alikeWords 25 = .ok (.getfield 58, 3) := by decide +kernel
theorem dX10_alikeWords_28 : decode cX10_alikeWords 28 = .ok (.invokevirtual 158, 3) := by decide +kernel
theorem dX10_alikeWords_31 : decode cX10_alikeWords 31 = .ok (.lreturn, 1) := by decide +kernel
set_option maxRecDepth 20000 in
theorem ggX10_alike_X10_isWord : GoodIn wsX10_alike wsX10_isWord := goodIn_r _ [6] (by decide +kernel) (by decide +kernel)
set_option maxRecDepth 20000 in
theorem gX10_alike_X10_isWord : GoodIn wsX10_alike (va_wsS RX10 116 yX10_isWord wsX10_isWord) := goodIn_app (goodIn_of _ (by decide +kernel)) ggX10_alike_X10_isWord
set_option maxRecDepth 20000 in
theorem ggX10_alike_X10_lay : GoodIn wsX10_alike wsX10_lay := goodIn_r _ [10, 1, 2, 11, 12, 13, 14, 15, 16, 17, 18, 19, 20, 21, 22, 23, 24, 25, 26, 27, 28, 29, 30, 31, 32, 33, 34, 35, 36, 37, 38, 39, 40, 41, 42, 43, 44, 45, 46, 47, 48, 49, 50, 51, 52, 87, 88, 89, 90, 91, 92, 93, 94, 95, 96, 97, 98, 99, 100, 101, 102, 103, 104, 105, 106, 107, 108, 109, 110, 111] (by decide +kernel) (by decide +kernel)
set_option maxRecDepth 20000 in
theorem gX10_alike_X10_lay : GoodIn wsX10_alike (wsV RX10 136 RX10 yX10_lay wsX10_lay) := goodIn_app (goodIn_of _ (by decide +kernel)) ggX10_alike_X10_lay
set_option maxRecDepth 20000 in
theorem ggX10_alike_X3_takeAll : GoodIn wsX10_alike wsX3_takeAll := goodIn_r _ [56, 24, 25, 26, 27, 28, 29, 30, 57, 58, 59, 14, 60, 18, 61, 62, 63, 64, 19, 41, 65, 66, 67, 68, 69, 110, 111, 103, 104, 105, 106, 107, 108, 109] (by decide +kernel) (by decide +kernel)
set_option maxRecDepth 20000 in
theorem gX10_alike_X3_takeAll : GoodIn wsX10_alike (wsV RX10 162 RX3 yX3_takeAll wsX3_takeAll) := goodIn_app (goodIn_of _ (by decide +kernel)) ggX10_alike_X3_takeAll
set_option maxRecDepth 20000 in
theorem ggX10_alike_X3_allTaken : GoodIn wsX10_alike wsX3_allTaken := goodIn_r _ [73, 74, 75, 76, 14, 77, 17, 18, 78, 79, 67, 80, 81, 82, 83, 103, 104, 105, 106, 107, 108, 109] (by decide +kernel) (by decide +kernel)
set_option maxRecDepth 20000 in
theorem gX10_alike_X3_allTaken : GoodIn wsX10_alike (wsV RX10 166 RX3 yX3_allTaken wsX3_allTaken) := goodIn_app (goodIn_of _ (by decide +kernel)) ggX10_alike_X3_allTaken
set_option maxRecDepth 20000 in
theorem ggX10_alike_X10_toNumber : GoodIn wsX10_alike wsX10_toNumber := goodIn_r _ [86] (by decide +kernel) (by decide +kernel)
set_option maxRecDepth 20000 in
theorem gX10_alike_X10_toNumber : GoodIn wsX10_alike (va_wsS RX10 102 yX10_toNumber wsX10_toNumber) := goodIn_app (goodIn_of _ (by decide +kernel)) ggX10_alike_X10_toNumber
theorem dX10_alike_0 : decode cX10_alike 0 = .ok (.iload_n 1, 1) := by decide +kernel
theorem dX10_alike_1 : decode cX10_alike 1 = .ok (.invokestatic 116, 3) := by decide +kernel
theorem dX10_alike_4 : decode cX10_alike 4 = .ok (.ifCond .eq 10, 3) := by decide +kernel
theorem dX10_alike_7 : decode cX10_alike 7 = .ok (.iload_n 2, 1) := by decide +kernel
theorem dX10_alike_8 : decode cX10_alike 8 = .ok (.invokestatic 116, 3) := by decide +kernel
theorem dX10_alike_11 : decode cX10_alike 11 = .ok (.ifCond .ne 5, 3) := by decide +kernel
theorem dX10_alike_14 : decode cX10_alike 14 = .ok (.iconst (-1), 1) := by decide +kernel
theorem dX10_alike_15 : decode cX10_alike 15 = .ok (.ireturn, 1) := by decide +kernel
theorem dX10_alike_16 : decode cX10_alike 16 = .ok (.aload_n 0, 1) := by decide +kernel
theorem dX10_alike_17 : decode cX10_alike 17 = .ok (.iload_n 2, 1) := by decide +kernel
theorem dX10_alike_18 : decode cX10_alike 18 = .ok (.invokevirtual 136, 3) := by decide +kernel
theorem dX10_alike_21 : decode cX10_alike 21 = .ok (.aload_n 0, 1) := by decide +kernel
theorem dX10_alike_22 : decode cX10_alike 22 = .ok (.getfield 41, 3) := by decide +kernel
theorem dX10_alike_25 : decode cX10_alike 25 = .ok (.aload_n 0, 1) := by decide +kernel
theorem dX10_alike_26 : decode cX10_alike 26 = .ok (.getfield 12, 3) := by decide +kernel
theorem dX10_alike_29 : decode cX10_alike 29 = .ok (.getfield 119, 3) := by decide +kernel
theorem dX10_alike_32 : decode cX10_alike 32 = .ok (.iload_n 1, 1) := by decide +kernel
theorem dX10_alike_33 : decode cX10_alike 33 = .ok (.aaload, 1) := by decide +kernel
theorem dX10_alike_34 : decode cX10_alike 34 = .ok (.invokevirtual 162, 3) := by decide +kernel
theorem dX10_alike_37 : decode cX10_alike 37 = .ok (.ifCond .eq 17, 3) := by decide +kernel
theorem dX10_alike_40 : decode cX10_alike 40 = .ok (.aload_n 0, 1) := by decide +kernel
theorem dX10_alike_41 : decode cX10_alike 41 = .ok (.getfield 41, 3) := by decide +kernel
theorem dX10_alike_44 : decode cX10_alike 44 = .ok (.invokevirtual 166, 3) := by decide +kernel
theorem dX10_alike_47 : decode cX10_alike 47 = .ok (.ifCond .eq 7, 3) := by decide +kernel
theorem dX10_alike_50 : decode cX10_alike 50 = .ok (.iconst 1, 1) := by decide +kernel
theorem dX10_alike_51 : decode cX10_alike 51 = .ok (.goto 4, 3) := by decide +kernel
theorem dX10_alike_54 : decode cX10_alike 54 = .ok (.iconst 0, 1) := by decide +kernel
theorem dX10_alike_55 : decode cX10_alike 55 = .ok (.invokestatic 102, 3) := by decide +kernel
theorem dX10_alike_58 : decode cX10_alike 58 = .ok (.ireturn, 1) := by decide +kernel
set_option maxRecDepth 20000 in
theorem ggX10_commute_X10_isWord : GoodIn wsX10_commute wsX10_isWord := goodIn_r _ [7] (by decide +kernel) (by decide +kernel)
set_option maxRecDepth 20000 in
theorem gX10_commute_X10_isWord : GoodIn wsX10_commute (va_wsS RX10 116 yX10_isWord wsX10_isWord) := goodIn_app (goodIn_of _ (by decide +kernel)) ggX10_commute_X10_isWord
set_option maxRecDepth 20000 in
theorem ggX10_commute_X10_draftPair : GoodIn wsX10_commute wsX10_draftPair := goodIn_r _ [11, 3, 2, 12, 13, 14, 15, 16, 17, 18, 19, 20, 21, 22, 23, 24, 25, 26, 27, 28, 29, 30, 87, 88, 89, 90, 91, 92, 93, 94, 95, 96, 97, 98, 99, 100, 101, 102] (by decide +kernel) (by decide +kernel)
set_option maxRecDepth 20000 in
theorem gX10_commute_X10_draftPair : GoodIn wsX10_commute (wsV RX10 170 RX10 yX10_draftPair wsX10_draftPair) := goodIn_app (goodIn_of _ (by decide +kernel)) ggX10_commute_X10_draftPair
set_option maxRecDepth 20000 in
theorem ggX10_commute_X3_lay : GoodIn wsX10_commute wsX3_lay := goodIn_r _ [35, 36, 37, 38, 39, 40, 41, 42, 43, 44, 23, 24, 15, 25, 17, 26, 45, 46, 47, 34, 48, 49, 50, 51, 52, 53, 54, 55, 56, 57, 58, 59, 60, 61, 62, 63, 64, 65, 66, 103, 104, 105, 106, 107, 108, 109, 110, 111, 101, 102] (by decide +kernel) (by decide +kernel)
set_option maxRecDepth 20000 in
theorem gX10_commute_X3_lay : GoodIn wsX10_commute (wsV RX10 174 RX3 yX3_lay wsX3_lay) := goodIn_app (goodIn_of _ (by decide +kernel)) ggX10_commute_X3_lay
set_option maxRecDepth 20000 in
theorem ggX10_commute_X3_takeAll : GoodIn wsX10_commute wsX3_takeAll := goodIn_r _ [70, 44, 23, 24, 15, 25, 17, 26, 71, 72, 73, 34, 74, 38, 75, 76, 77, 78, 39, 55, 79, 80, 81, 82, 83, 101, 102, 105, 106, 107, 108, 109, 110, 111] (by decide +kernel) (by decide +kernel)
set_option maxRecDepth 20000 in
theorem gX10_commute_X3_takeAll : GoodIn wsX10_commute (wsV RX10 162 RX3 yX3_takeAll wsX3_takeAll) := goodIn_app (goodIn_of _ (by decide +kernel)) ggX10_commute_X3_takeAll
set_option maxRecDepth 20000 in
theorem ggX10_commute_X10_toNumber : GoodIn wsX10_commute wsX10_toNumber := goodIn_r _ [86] (by decide +kernel) (by decide +kernel)
set_option maxRecDepth 20000 in
theorem gX10_commute_X10_toNumber : GoodIn wsX10_commute (va_wsS RX10 102 yX10_toNumber wsX10_toNumber) := goodIn_app (goodIn_of _ (by decide +kernel)) ggX10_commute_X10_toNumber
theorem dX10_commute_0 : decode cX10_commute 0 = .ok (.iload_n 1, 1) := by decide +kernel
theorem dX10_commute_1 : decode cX10_commute 1 = .ok (.invokestatic 116, 3) := by decide +kernel
theorem dX10_commute_4 : decode cX10_commute 4 = .ok (.ifCond .eq 10, 3) := by decide +kernel
theorem dX10_commute_7 : decode cX10_commute 7 = .ok (.iload_n 2, 1) := by decide +kernel
theorem dX10_commute_8 : decode cX10_commute 8 = .ok (.invokestatic 116, 3) := by decide +kernel
theorem dX10_commute_11 : decode cX10_commute 11 = .ok (.ifCond .ne 5, 3) := by decide +kernel
theorem dX10_commute_14 : decode cX10_commute 14 = .ok (.iconst (-1), 1) := by decide +kernel
theorem dX10_commute_15 : decode cX10_commute 15 = .ok (.ireturn, 1) := by decide +kernel
theorem dX10_commute_16 : decode cX10_commute 16 = .ok (.aload_n 0, 1) := by decide +kernel
theorem dX10_commute_17 : decode cX10_commute 17 = .ok (.iload_n 1, 1) := by decide +kernel
theorem dX10_commute_18 : decode cX10_commute 18 = .ok (.iload_n 2, 1) := by decide +kernel
theorem dX10_commute_19 : decode cX10_commute 19 = .ok (.invokevirtual 170, 3) := by decide +kernel
theorem dX10_commute_22 : decode cX10_commute 22 = .ok (.aload_n 0, 1) := by decide +kernel
theorem dX10_commute_23 : decode cX10_commute 23 = .ok (.getfield 41, 3) := by decide +kernel
theorem dX10_commute_26 : decode cX10_commute 26 = .ok (.aload_n 0, 1) := by decide +kernel
theorem dX10_commute_27 : decode cX10_commute 27 = .ok (.getfield 12, 3) := by decide +kernel
theorem dX10_commute_30 : decode cX10_commute 30 = .ok (.getfield 76, 3) := by decide +kernel
theorem dX10_commute_33 : decode cX10_commute 33 = .ok (.aload_n 0, 1) := by decide +kernel
theorem dX10_commute_34 : decode cX10_commute 34 = .ok (.getfield 34, 3) := by decide +kernel
theorem dX10_commute_37 : decode cX10_commute 37 = .ok (.invokevirtual 174, 3) := by decide +kernel
theorem dX10_commute_40 : decode cX10_commute 40 = .ok (.aload_n 0, 1) := by decide +kernel
theorem dX10_commute_41 : decode cX10_commute 41 = .ok (.getfield 41, 3) := by decide +kernel
theorem dX10_commute_44 : decode cX10_commute 44 = .ok (.aload_n 0, 1) := by decide +kernel
theorem dX10_commute_45 : decode cX10_commute 45 = .ok (.getfield 12, 3) := by decide +kernel
theorem dX10_commute_48 : decode cX10_commute 48 = .ok (.getfield 119, 3) := by decide +kernel
theorem dX10_commute_51 : decode cX10_commute 51 = .ok (.iload_n 2, 1) := by decide +kernel
theorem dX10_commute_52 : decode cX10_commute 52 = .ok (.aaload, 1) := by decide +kernel
theorem dX10_commute_53 : decode cX10_commute 53 = .ok (.invokevirtual 162, 3) := by decide +kernel
theorem dX10_commute_56 : decode cX10_commute 56 = .ok (.ifCond .eq 26, 3) := by decide +kernel
theorem dX10_commute_59 : decode cX10_commute 59 = .ok (.aload_n 0, 1) := by decide +kernel
theorem dX10_commute_60 : decode cX10_commute 60 = .ok (.getfield 41, 3) := by decide +kernel
theorem dX10_commute_63 : decode cX10_commute 63 = .ok (.aload_n 0, 1) := by decide +kernel
theorem dX10_commute_64 : decode cX10_commute 64 = .ok (.getfield 12, 3) := by decide +kernel
theorem dX10_commute_67 : decode cX10_commute 67 = .ok (.getfield 119, 3) := by decide +kernel
theorem dX10_commute_70 : decode cX10_commute 70 = .ok (.iload_n 1, 1) := by decide +kernel
theorem dX10_commute_71 : decode cX10_commute 71 = .ok (.aaload, 1) := by decide +kernel
theorem dX10_commute_72 : decode cX10_commute 72 = .ok (.invokevirtual 162, 3) := by decide +kernel
theorem dX10_commute_75 : decode cX10_commute 75 = .ok (.ifCond .eq 7, 3) := by decide +kernel
theorem dX10_commute_78 : decode cX10_commute 78 = .ok (.iconst 1, 1) := by decide +kernel
theorem dX10_commute_79 : decode cX10_commute 79 = .ok (.goto 4, 3) := by decide +kernel
theorem dX10_commute_82 : decode cX10_commute 82 = .ok (.iconst 0, 1) := by decide +kernel
theorem dX10_commute_83 : decode cX10_commute 83 = .ok (.invokestatic 102, 3) := by decide +kernel
theorem dX10_commute_86 : decode cX10_commute 86 = .ok (.ireturn, 1) := by decide +kernel
set_option maxRecDepth 20000 in
theorem ggX10_connected_X10_isWord : GoodIn wsX10_connected wsX10_isWord := goodIn_r _ [5] (by decide +kernel) (by decide +kernel)
set_option maxRecDepth 20000 in
theorem gX10_connected_X10_isWord : GoodIn wsX10_connected (va_wsS RX10 116 yX10_isWord wsX10_isWord) := goodIn_app (goodIn_of _ (by decide +kernel)) ggX10_connected_X10_isWord
set_option maxRecDepth 20000 in
theorem ggX10_connected_X9_letterSet : GoodIn wsX10_connected wsX9_letterSet := goodIn_r _ [10, 11, 12, 13, 14, 9, 15, 16, 45, 46] (by decide +kernel) (by decide +kernel)
set_option maxRecDepth 20000 in
theorem gX10_connected_X9_letterSet : GoodIn wsX10_connected (wsV RX10 177 RX9 yX9_letterSet wsX9_letterSet) := goodIn_app (goodIn_of _ (by decide +kernel)) ggX10_connected_X9_letterSet
set_option maxRecDepth 20000 in
theorem ggX10_connected_X0_isConnected : GoodIn wsX10_connected wsX0_isConnected := goodIn_r _ [21, 22, 23, 24, 25, 20, 26, 27, 47, 48] (by decide +kernel) (by decide +kernel)
set_option maxRecDepth 20000 in
theorem gX10_connected_X0_isConnected : GoodIn wsX10_connected (wsV RX10 180 RX0 yX0_isConnected wsX0_isConnected) := goodIn_app (goodIn_of _ (by decide +kernel)) ggX10_connected_X0_isConnected
set_option maxRecDepth 20000 in
theorem ggX10_connected_X10_toNumber : GoodIn wsX10_connected wsX10_toNumber := goodIn_r _ [30] (by decide +kernel) (by decide +kernel)
set_option maxRecDepth 20000 in
theorem gX10_connected_X10_toNumber : GoodIn wsX10_connected (va_wsS RX10 102 yX10_toNumber wsX10_toNumber) := goodIn_app (goodIn_of _ (by decide +kernel)) ggX10_connected_X10_toNumber
theorem dX10_connected_0 : decode cX10_connected 0 = .ok (.iload_n 1, 1) := by decide +kernel
theorem dX10_connected_1 : decode cX10_connected 1 = .ok (.invokestatic 116, 3) := by decide +kernel
theorem dX10_connected_4 : decode cX10_connected 4 = .ok (.ifCond .ne 5, 3) := by decide +kernel
theorem dX10_connected_7 : decode cX10_connected 7 = .ok (.iconst (-1), 1) := by decide +kernel
theorem dX10_connected_8 : decode cX10_connected 8 = .ok (.ireturn, 1) := by decide +kernel
theorem dX10_connected_9 : decode cX10_connected 9 = .ok (.aload_n 0, 1) := by decide +kernel
theorem dX10_connected_10 : decode cX10_connected 10 = .ok (.getfield 12, 3) := by decide +kernel
theorem dX10_connected_13 : decode cX10_connected 13 = .ok (.getfield 76, 3) := by decide +kernel
theorem dX10_connected_16 : decode cX10_connected 16 = .ok (.aload_n 0, 1) := by decide +kernel
theorem dX10_connected_17 : decode cX10_connected 17 = .ok (.getfield 12, 3) := by decide +kernel
theorem dX10_connected_20 : decode cX10_connected 20 = .ok (.getfield 119, 3) := by decide +kernel
theorem dX10_connected_23 : decode cX10_connected 23 = .ok (.iload_n 1, 1) := by decide +kernel
theorem dX10_connected_24 : decode cX10_connected 24 = .ok (.aaload, 1) := by decide +kernel
theorem dX10_connected_25 : decode cX10_connected 25 = .ok (.invokevirtual 177, 3) := by decide +kernel
theorem dX10_connected_28 : decode cX10_connected 28 = .ok (.invokevirtual 180, 3) := by decide +kernel
theorem dX10_connected_31 : decode cX10_connected 31 = .ok (.invokestatic 102, 3) := by decide +kernel
theorem dX10_connected_34 : decode cX10_connected 34 = .ok (.ireturn, 1) := by decide +kernel
set_option maxRecDepth 20000 in
theorem ggX10_isPrefix_X10_isWord : GoodIn wsX10_isPrefix wsX10_isWord := goodIn_r _ [6] (by decide +kernel) (by decide +kernel)
set_option maxRecDepth 20000 in
theorem gX10_isPrefix_X10_isWord : GoodIn wsX10_isPrefix (va_wsS RX10 116 yX10_isWord wsX10_isWord) := goodIn_app (goodIn_of _ (by decide +kernel)) ggX10_isPrefix_X10_isWord
set_option maxRecDepth 20000 in
theorem ggX10_isPrefix_X10_lay : GoodIn wsX10_isPrefix wsX10_lay := goodIn_r _ [10, 1, 2, 11, 12, 13, 14, 15, 16, 17, 18, 19, 20, 21, 22, 23, 24, 25, 26, 27, 28, 29, 30, 31, 32, 33, 34, 35, 36, 37, 38, 39, 40, 41, 42, 43, 44, 45, 46, 47, 48, 49, 50, 51, 52, 73, 74, 75, 76, 77, 78, 79, 80, 81, 82, 83, 84, 85, 86, 87, 88, 89, 90, 91, 92, 93, 94, 95, 96, 97] (by decide +kernel) (by decide +kernel)
set_option maxRecDepth 20000 in
theorem gX10_isPrefix_X10_lay : GoodIn wsX10_isPrefix (wsV RX10 136 RX10 yX10_lay wsX10_lay) := goodIn_app (goodIn_of _ (by decide +kernel)) ggX10_isPrefix_X10_lay
set_option maxRecDepth 20000 in
theorem ggX10_isPrefix_X3_takeAll : GoodIn wsX10_isPrefix wsX3_takeAll := goodIn_r _ [56, 24, 25, 26, 27, 28, 29, 30, 57, 58, 59, 14, 60, 18, 61, 62, 63, 64, 19, 41, 65, 66, 67, 68, 69, 96, 97, 89, 90, 91, 92, 93, 94, 95] (by decide +kernel) (by decide +kernel)
set_option maxRecDepth 20000 in
theorem gX10_isPrefix_X3_takeAll : GoodIn wsX10_isPrefix (wsV RX10 162 RX3 yX3_takeAll wsX3_takeAll) := goodIn_app (goodIn_of _ (by decide +kernel)) ggX10_isPrefix_X3_takeAll
set_option maxRecDepth 20000 in
theorem ggX10_isPrefix_X10_toNumber : GoodIn wsX10_isPrefix wsX10_toNumber := goodIn_r _ [72] (by decide +kernel) (by decide +kernel)
set_option maxRecDepth 20000 in
theorem gX10_isPrefix_X10_toNumber : GoodIn wsX10_isPrefix (va_wsS RX10 102 yX10_toNumber wsX10_toNumber) := goodIn_app (goodIn_of _ (by decide +kernel)) ggX10_isPrefix_X10_toNumber
theorem dX10_isPrefix_0 : decode cX10_isPrefix 0 = .ok (.iload_n 1, 1) := by decide +kernel
theorem dX10_isPrefix_1 : decode cX10_isPrefix 1 = .ok (.invokestatic 116, 3) := by decide +kernel
theorem dX10_isPrefix_4 : decode cX10_isPrefix 4 = .ok (.ifCond .eq 10, 3) := by decide +kernel
theorem dX10_isPrefix_7 : decode cX10_isPrefix 7 = .ok (.iload_n 2, 1) := by decide +kernel
theorem dX10_isPrefix_8 : decode cX10_isPrefix 8 = .ok (.invokestatic 116, 3) := by decide +kernel
theorem dX10_isPrefix_11 : decode cX10_isPrefix 11 = .ok (.ifCond .ne 5, 3) := by decide +kernel
theorem dX10_isPrefix_14 : decode cX10_isPrefix 14 = .ok (.iconst (-1), 1) := by decide +kernel
theorem dX10_isPrefix_15 : decode cX10_isPrefix 15 = .ok (.ireturn, 1) := by decide +kernel
theorem dX10_isPrefix_16 : decode cX10_isPrefix 16 = .ok (.aload_n 0, 1) := by decide +kernel
theorem dX10_isPrefix_17 : decode cX10_isPrefix 17 = .ok (.iload_n 2, 1) := by decide +kernel
theorem dX10_isPrefix_18 : decode cX10_isPrefix 18 = .ok (.invokevirtual 136, 3) := by decide +kernel
theorem dX10_isPrefix_21 : decode cX10_isPrefix 21 = .ok (.aload_n 0, 1) := by decide +kernel
theorem dX10_isPrefix_22 : decode cX10_isPrefix 22 = .ok (.getfield 41, 3) := by decide +kernel
theorem dX10_isPrefix_25 : decode cX10_isPrefix 25 = .ok (.aload_n 0, 1) := by decide +kernel
theorem dX10_isPrefix_26 : decode cX10_isPrefix 26 = .ok (.getfield 12, 3) := by decide +kernel
theorem dX10_isPrefix_29 : decode cX10_isPrefix 29 = .ok (.getfield 119, 3) := by decide +kernel
theorem dX10_isPrefix_32 : decode cX10_isPrefix 32 = .ok (.iload_n 1, 1) := by decide +kernel
theorem dX10_isPrefix_33 : decode cX10_isPrefix 33 = .ok (.aaload, 1) := by decide +kernel
theorem dX10_isPrefix_34 : decode cX10_isPrefix 34 = .ok (.invokevirtual 162, 3) := by decide +kernel
theorem dX10_isPrefix_37 : decode cX10_isPrefix 37 = .ok (.invokestatic 102, 3) := by decide +kernel
theorem dX10_isPrefix_40 : decode cX10_isPrefix 40 = .ok (.ireturn, 1) := by decide +kernel
set_option maxRecDepth 20000 in
theorem ggX10_isFactor_X10_isWord : GoodIn wsX10_isFactor wsX10_isWord := goodIn_r _ [6] (by decide +kernel) (by decide +kernel)
set_option maxRecDepth 20000 in
theorem gX10_isFactor_X10_isWord : GoodIn wsX10_isFactor (va_wsS RX10 116 yX10_isWord wsX10_isWord) := goodIn_app (goodIn_of _ (by decide +kernel)) ggX10_isFactor_X10_isWord
set_option maxRecDepth 20000 in
theorem ggX10_isFactor_X4_begin : GoodIn wsX10_isFactor wsX4_begin := goodIn_r _ [11, 12, 13, 14, 15, 16, 17, 18, 19, 20, 21, 22, 23, 24, 25, 26, 27, 28, 29, 30, 31, 32, 33, 34, 35, 36, 37, 38, 39, 40, 41, 42, 43, 44, 45, 46, 47, 48, 49, 50, 51, 52, 53, 54, 55, 56, 57, 58, 59, 60, 61, 62, 63, 64, 65, 66, 67, 68, 69, 70, 71, 72, 119, 120, 121, 122, 123, 124, 125, 126, 127, 128, 129, 130, 131, 132, 133, 134] (by decide +kernel) (by decide +kernel)
set_option maxRecDepth 20000 in
theorem gX10_isFactor_X4_begin : GoodIn wsX10_isFactor (wsV RX10 183 RX4 yX4_begin wsX4_begin) := goodIn_app (goodIn_of _ (by decide +kernel)) ggX10_isFactor_X4_begin
set_option maxRecDepth 20000 in
theorem ggX10_isFactor_X4_someIsFollowedBy : GoodIn wsX10_isFactor wsX4_someIsFollowedBy := goodIn_r _ [76, 14, 12, 13, 77, 78, 79, 10, 80, 20, 81, 82, 83, 24, 84, 34, 35, 36, 37, 38, 39, 40, 85, 86, 87, 88, 28, 89, 90, 91, 92, 29, 50, 93, 94, 68, 95, 96, 97, 98, 99, 100, 15, 101, 119, 120, 121, 122, 123, 126, 127, 128, 129, 130, 131, 132, 133, 134] (by decide +kernel) (by decide +kernel)
set_option maxRecDepth 20000 in
theorem gX10_isFactor_X4_someIsFollowedBy : GoodIn wsX10_isFactor (wsV RX10 185 RX4 yX4_someIsFollowedBy wsX4_someIsFollowedBy) := goodIn_app (goodIn_of _ (by decide +kernel)) ggX10_isFactor_X4_someIsFollowedBy
set_option maxRecDepth 20000 in
theorem ggX10_isFactor_X10_toNumber : GoodIn wsX10_isFactor wsX10_toNumber := goodIn_r _ [104] (by decide +kernel) (by decide +kernel)
set_option maxRecDepth 20000 in
theorem gX10_isFactor_X10_toNumber : GoodIn wsX10_isFactor (va_wsS RX10 102 yX10_toNumber wsX10_toNumber) := goodIn_app (goodIn_of _ (by decide +kernel)) ggX10_isFactor_X10_toNumber
theorem dX10_isFactor_0 : decode cX10_isFactor 0 = .ok (.iload_n 1, 1) := by decide +kernel
theorem dX10_isFactor_1 : decode cX10_isFactor 1 = .ok (.invokestatic 116, 3) := by decide +kernel
theorem dX10_isFactor_4 : decode cX10_isFactor 4 = .ok (.ifCond .eq 10, 3) := by decide +kernel
theorem dX10_isFactor_7 : decode cX10_isFactor 7 = .ok (.iload_n 2, 1) := by decide +kernel
theorem dX10_isFactor_8 : decode cX10_isFactor 8 = .ok (.invokestatic 116, 3) := by decide +kernel
theorem dX10_isFactor_11 : decode cX10_isFactor 11 = .ok (.ifCond .ne 5, 3) := by decide +kernel
theorem dX10_isFactor_14 : decode cX10_isFactor 14 = .ok (.iconst (-1), 1) := by decide +kernel
theorem dX10_isFactor_15 : decode cX10_isFactor 15 = .ok (.ireturn, 1) := by decide +kernel
theorem dX10_isFactor_16 : decode cX10_isFactor 16 = .ok (.aload_n 0, 1) := by decide +kernel
theorem dX10_isFactor_17 : decode cX10_isFactor 17 = .ok (.getfield 51, 3) := by decide +kernel
theorem dX10_isFactor_20 : decode cX10_isFactor 20 = .ok (.aload_n 0, 1) := by decide +kernel
theorem dX10_isFactor_21 : decode cX10_isFactor 21 = .ok (.getfield 12, 3) := by decide +kernel
theorem dX10_isFactor_24 : decode cX10_isFactor 24 = .ok (.getfield 76, 3) := by decide +kernel
theorem dX10_isFactor_27 : decode cX10_isFactor 27 = .ok (.aload_n 0, 1) := by decide +kernel
theorem dX10_isFactor_28 : decode cX10_isFactor 28 = .ok (.getfield 12, 3) := by decide +kernel
theorem dX10_isFactor_31 : decode cX10_isFactor 31 = .ok (.getfield 119, 3) := by decide +kernel
theorem dX10_isFactor_34 : decode cX10_isFactor 34 = .ok (.iload_n 2, 1) := by decide +kernel
theorem dX10_isFactor_35 : decode cX10_isFactor 35 = .ok (.aaload, 1) := by decide +kernel
theorem dX10_isFactor_36 : decode cX10_isFactor 36 = .ok (.invokevirtual 183, 3) := by decide +kernel
theorem dX10_isFactor_39 : decode cX10_isFactor 39 = .ok (.aload_n 0, 1) := by decide +kernel
theorem dX10_isFactor_40 : decode cX10_isFactor 40 = .ok (.getfield 51, 3) := by decide +kernel
theorem dX10_isFactor_43 : decode cX10_isFactor 43 = .ok (.aload_n 0, 1) := by decide +kernel
theorem dX10_isFactor_44 : decode cX10_isFactor 44 = .ok (.getfield 12, 3) := by decide +kernel
theorem dX10_isFactor_47 : decode cX10_isFactor 47 = .ok (.getfield 119, 3) := by decide +kernel
theorem dX10_isFactor_50 : decode cX10_isFactor 50 = .ok (.iload_n 1, 1) := by decide +kernel
theorem dX10_isFactor_51 : decode cX10_isFactor 51 = .ok (.aaload, 1) := by decide +kernel
theorem dX10_isFactor_52 : decode cX10_isFactor 52 = .ok (.invokevirtual 185, 3) := by decide +kernel
theorem dX10_isFactor_55 : decode cX10_isFactor 55 = .ok (.invokestatic 102, 3) := by decide +kernel
theorem dX10_isFactor_58 : decode cX10_isFactor 58 = .ok (.ireturn, 1) := by decide +kernel
set_option maxRecDepth 20000 in
theorem ggX10_exponent_X10_isWord : GoodIn wsX10_exponent wsX10_isWord := goodIn_r _ [5] (by decide +kernel) (by decide +kernel)
set_option maxRecDepth 20000 in
theorem gX10_exponent_X10_isWord : GoodIn wsX10_exponent (va_wsS RX10 116 yX10_isWord wsX10_isWord) := goodIn_app (goodIn_of _ (by decide +kernel)) ggX10_exponent_X10_isWord
set_option maxRecDepth 20000 in
theorem ggX10_exponent_X10_draftRoot : GoodIn wsX10_exponent wsX10_draftRoot := goodIn_r _ [9, 10, 11, 12, 13, 4, 14, 15, 16, 17, 18, 19, 20, 21, 22, 23, 24, 25, 26, 27, 28, 29, 30, 31, 32, 33, 34, 35, 36, 37, 38, 39, 1, 40, 41, 42, 43, 44, 45, 46, 47, 48, 49, 50, 51, 52, 53, 54, 55, 56, 57, 58, 59, 60, 61, 62, 63, 64, 65, 66, 67, 68, 69, 70, 71, 72, 73, 74, 75, 76, 77, 78, 79, 80, 81, 82, 83, 84, 85, 86, 87, 88, 89, 90, 91, 92, 93, 94, 95, 96, 97, 98, 99, 100, 101, 102, 103, 104, 105, 106, 107, 108, 109, 110, 125, 126, 111, 112, 113, 114, 115, 116, 117, 118, 119, 120, 121, 122, 123, 124, 127, 128, 129, 130, 131, 132, 133, 134, 135] (by decide +kernel) (by decide +kernel)
set_option maxRecDepth 20000 in
theorem gX10_exponent_X10_draftRoot : GoodIn wsX10_exponent (wsV RX10 188 RX10 yX10_draftRoot wsX10_draftRoot) := goodIn_app (goodIn_of _ (by decide +kernel)) ggX10_exponent_X10_draftRoot
theorem dX10_exponent_0 : decode cX10_exponent 0 = .ok (.iload_n 1, 1) := by decide +kernel
theorem dX10_exponent_1 : decode cX10_exponent 1 = .ok (.invokestatic 116, 3) := by decide +kernel
theorem dX10_exponent_4 : decode cX10_exponent 4 = .ok (.ifCond .ne 5, 3) := by decide +kernel
theorem dX10_exponent_7 : decode cX10_exponent 7 = .ok (.iconst (-1), 1) := by decide +kernel
theorem dX10_exponent_8 : decode cX10_exponent 8 = .ok (.ireturn, 1) := by decide +kernel
theorem dX10_exponent_9 : decode cX10_exponent 9 = .ok (.aload_n 0, 1) := by decide +kernel
theorem dX10_exponent_10 : decode cX10_exponent 10 = .ok (.getfield 12, 3) := by decide +kernel
theorem dX10_exponent_13 : decode cX10_exponent 13 = .ok (.getfield 119, 3) := by decide +kernel
theorem dX10_exponent_16 : decode cX10_exponent 16 = .ok (.iload_n 1, 1) := by decide +kernel
theorem dX10_exponent_17 : decode cX10_exponent 17 = .ok (.aaload, 1) := by decide +kernel
theorem dX10_exponent_18 : decode cX10_exponent 18 = .ok (.getfield 123, 3) := by decide +kernel
theorem dX10_exponent_21 : decode cX10_exponent 21 = .ok (.ifCond .ne 6, 3) := by decide +kernel
theorem dX10_exponent_24 : decode cX10_exponent 24 = .ok (.bipush (-3), 2) := by decide +kernel
theorem dX10_exponent_26 : decode cX10_exponent 26 = .ok (.ireturn, 1) := by decide +kernel
theorem dX10_exponent_27 : decode cX10_exponent 27 = .ok (.aload_n 0, 1) := by decide +kernel
theorem dX10_exponent_28 : decode cX10_exponent 28 = .ok (.aload_n 0, 1) := by decide +kernel
theorem dX10_exponent_29 : decode cX10_exponent 29 = .ok (.getfield 12, 3) := by decide +kernel
theorem dX10_exponent_32 : decode cX10_exponent 32 = .ok (.getfield 119, 3) := by decide +kernel
theorem dX10_exponent_35 : decode cX10_exponent 35 = .ok (.iload_n 1, 1) := by decide +kernel
theorem dX10_exponent_36 : decode cX10_exponent 36 = .ok (.aaload, 1) := by decide +kernel
theorem dX10_exponent_37 : decode cX10_exponent 37 = .ok (.invokevirtual 188, 3) := by decide +kernel
theorem dX10_exponent_40 : decode cX10_exponent 40 = .ok (.ireturn, 1) := by decide +kernel
set_option maxRecDepth 20000 in
theorem ggX10_product_X10_isWord : GoodIn wsX10_product wsX10_isWord := goodIn_r _ [5] (by decide +kernel) (by decide +kernel)
set_option maxRecDepth 20000 in
theorem gX10_product_X10_isWord : GoodIn wsX10_product (va_wsS RX10 116 yX10_isWord wsX10_isWord) := goodIn_app (goodIn_of _ (by decide +kernel)) ggX10_product_X10_isWord
set_option maxRecDepth 20000 in
theorem ggX10_product_X10_draftPair : GoodIn wsX10_product wsX10_draftPair := goodIn_r _ [9, 1, 10, 11, 12, 13, 14, 15, 16, 17, 18, 19, 20, 21, 22, 23, 24, 25, 26, 27, 28, 29, 104, 105, 106, 107, 108, 109, 110, 111, 112, 113, 114, 117, 118, 119, 115, 116] (by decide +kernel) (by decide +kernel)
set_option maxRecDepth 20000 in
theorem gX10_product_X10_draftPair : GoodIn wsX10_product (wsV RX10 170 RX10 yX10_draftPair wsX10_draftPair) := goodIn_app (goodIn_of _ (by decide +kernel)) ggX10_product_X10_draftPair
set_option maxRecDepth 20000 in
theorem ggX10_product_X10_settleDraft : GoodIn wsX10_product wsX10_settleDraft := goodIn_r _ [33, 34, 10, 1, 35, 36, 37, 38, 39, 40, 41, 42, 43, 44, 45, 46, 47, 48, 22, 23, 14, 24, 16, 25, 49, 50, 51, 52, 53, 54, 55, 56, 57, 58, 59, 60, 61, 62, 63, 64, 65, 66, 67, 68, 69, 70, 71, 72, 73, 74, 75, 12, 13, 15, 76, 77, 78, 79, 80, 81, 82, 83, 84, 85, 86, 87, 88, 89, 90, 91, 92, 93, 94, 95, 96, 97, 98, 99, 100, 101, 102, 103, 27, 28, 29, 104, 105, 106, 107, 108, 109, 110, 111, 112, 113, 114, 117, 118, 119, 115, 116, 120, 121, 122, 123, 124, 125, 126, 127, 128] (by decide +kernel) (by decide +kernel)
set_option maxRecDepth 20000 in
theorem gX10_product_X10_settleDraft : GoodIn wsX10_product (wsV RX10 192 RX10 yX10_settleDraft wsX10_settleDraft) := goodIn_app (goodIn_of _ (by decide +kernel)) ggX10_product_X10_settleDraft
theorem dX10_product_0 : decode cX10_product 0 = .ok (.iload_n 1, 1) := by decide +kernel
theorem dX10_product_1 : decode cX10_product 1 = .ok (.invokestatic 116, 3) := by decide +kernel
theorem dX10_product_4 : decode cX10_product 4 = .ok (.ifCond .eq 17, 3) := by decide +kernel
theorem dX10_product_7 : decode cX10_product 7 = .ok (.iload_n 2, 1) := by decide +kernel
theorem dX10_product_8 : decode cX10_product 8 = .ok (.invokestatic 116, 3) := by decide +kernel
theorem dX10_product_11 : decode cX10_product 11 = .ok (.ifCond .eq 10, 3) := by decide +kernel
theorem dX10_product_14 : decode cX10_product 14 = .ok (.iload_n 3, 1) := by decide +kernel
theorem dX10_product_15 : decode cX10_product 15 = .ok (.invokestatic 116, 3) := by decide +kernel
theorem dX10_product_18 : decode cX10_product 18 = .ok (.ifCond .ne 5, 3) := by decide +kernel
theorem dX10_product_21 : decode cX10_product 21 = .ok (.iconst (-1), 1) := by decide +kernel
theorem dX10_product_22 : decode cX10_product 22 = .ok (.ireturn, 1) := by decide +kernel
theorem dX10_product_23 : decode cX10_product 23 = .ok (.aload_n 0, 1) := by decide +kernel
theorem dX10_product_24 : decode cX10_product 24 = .ok (.iload_n 1, 1) := by decide +kernel
theorem dX10_product_25 : decode cX10_product 25 = .ok (.iload_n 2, 1) := by decide +kernel
theorem dX10_product_26 : decode cX10_product 26 = .ok (.invokevirtual 170, 3) := by decide +kernel
theorem dX10_product_29 : decode cX10_product 29 = .ok (.aload_n 0, 1) := by decide +kernel
theorem dX10_product_30 : decode cX10_product 30 = .ok (.getfield 34, 3) := by decide +kernel
theorem dX10_product_33 : decode cX10_product 33 = .ok (.getfield 123, 3) := by decide +kernel
theorem dX10_product_36 : decode cX10_product 36 = .ok (.bipush 16, 2) := by decide +kernel
theorem dX10_product_38 : decode cX10_product 38 = .ok (.if_icmp .le 6, 3) := by decide +kernel
theorem dX10_product_41 : decode cX10_product 41 = .ok (.bipush (-4), 2) := by decide +kernel
theorem dX10_product_43 : decode cX10_product 43 = .ok (.ireturn, 1) := by decide +kernel
theorem dX10_product_44 : decode cX10_product 44 = .ok (.aload_n 0, 1) := by decide +kernel
theorem dX10_product_45 : decode cX10_product 45 = .ok (.iload_n 3, 1) := by decide +kernel
theorem dX10_product_46 : decode cX10_product 46 = .ok (.invokevirtual 192, 3) := by decide +kernel
theorem dX10_product_49 : decode cX10_product 49 = .ok (.ireturn, 1) := by decide +kernel
set_option maxRecDepth 20000 in
theorem ggX10_quotient_X10_isWord : GoodIn wsX10_quotient wsX10_isWord := goodIn_r _ [6] (by decide +kernel) (by decide +kernel)
set_option maxRecDepth 20000 in
theorem gX10_quotient_X10_isWord : GoodIn wsX10_quotient (va_wsS RX10 116 yX10_isWord wsX10_isWord) := goodIn_app (goodIn_of _ (by decide +kernel)) ggX10_quotient_X10_isWord
set_option maxRecDepth 20000 in
theorem ggX10_quotient_X10_lay : GoodIn wsX10_quotient wsX10_lay := goodIn_r _ [10, 1, 2, 11, 12, 13, 14, 15, 16, 17, 18, 19, 20, 21, 22, 23, 24, 25, 26, 27, 28, 29, 30, 31, 32, 33, 34, 35, 36, 37, 38, 39, 40, 41, 42, 43, 44, 45, 46, 47, 48, 49, 50, 51, 52, 96, 97, 98, 99, 100, 101, 102, 103, 104, 105, 106, 107, 108, 109, 112, 113, 114, 115, 116, 117, 118, 119, 120, 110, 111] (by decide +kernel) (by decide +kernel)
set_option maxRecDepth 20000 in
theorem gX10_quotient_X10_lay : GoodIn wsX10_quotient (wsV RX10 136 RX10 yX10_lay wsX10_lay) := goodIn_app (goodIn_of _ (by decide +kernel)) ggX10_quotient_X10_lay
set_option maxRecDepth 20000 in
theorem ggX10_quotient_X3_takeAll : GoodIn wsX10_quotient wsX3_takeAll := goodIn_r _ [56, 24, 25, 26, 27, 28, 29, 30, 57, 58, 59, 14, 60, 18, 61, 62, 63, 64, 19, 41, 65, 66, 67, 68, 69, 110, 111, 114, 115, 116, 117, 118, 119, 120] (by decide +kernel) (by decide +kernel)
set_option maxRecDepth 20000 in
theorem gX10_quotient_X3_takeAll : GoodIn wsX10_quotient (wsV RX10 162 RX3 yX3_takeAll wsX3_takeAll) := goodIn_app (goodIn_of _ (by decide +kernel)) ggX10_quotient_X3_takeAll
set_option maxRecDepth 20000 in
theorem ggX10_quotient_X3_writeRest : GoodIn wsX10_quotient wsX3_writeRest := goodIn_r _ [73, 74, 75, 76, 27, 77, 29, 78, 79, 80, 14, 81, 16, 82, 83, 84, 85, 17, 18, 86, 87, 67, 88, 89, 90, 91, 57, 58, 59, 60, 61, 62, 63, 64, 19, 41, 65, 66, 68, 69, 92, 93, 94, 95, 30, 110, 111, 114, 115, 116, 117, 118, 119, 120] (by decide +kernel) (by decide +kernel)
set_option maxRecDepth 20000 in
theorem gX10_quotient_X3_writeRest : GoodIn wsX10_quotient (wsV RX10 139 RX3 yX3_writeRest wsX3_writeRest) := goodIn_app (goodIn_of _ (by decide +kernel)) ggX10_quotient_X3_writeRest
theorem dX10_quotient_0 : decode cX10_quotient 0 = .ok (.iload_n 1, 1) := by decide +kernel
theorem dX10_quotient_1 : decode cX10_quotient 1 = .ok (.invokestatic 116, 3) := by decide +kernel
theorem dX10_quotient_4 : decode cX10_quotient 4 = .ok (.ifCond .eq 17, 3) := by decide +kernel
theorem dX10_quotient_7 : decode cX10_quotient 7 = .ok (.iload_n 2, 1) := by decide +kernel
theorem dX10_quotient_8 : decode cX10_quotient 8 = .ok (.invokestatic 116, 3) := by decide +kernel
theorem dX10_quotient_11 : decode cX10_quotient 11 = .ok (.ifCond .eq 10, 3) := by decide +kernel
theorem dX10_quotient_14 : decode cX10_quotient 14 = .ok (.iload_n 3, 1) := by decide +kernel
theorem dX10_quotient_15 : decode cX10_quotient 15 = .ok (.invokestatic 116, 3) := by decide +kernel
theorem dX10_quotient_18 : decode cX10_quotient 18 = .ok (.ifCond .ne 5, 3) := by decide +kernel
theorem dX10_quotient_21 : decode cX10_quotient 21 = .ok (.iconst (-1), 1) := by decide +kernel
theorem dX10_quotient_22 : decode cX10_quotient 22 = .ok (.ireturn, 1) := by decide +kernel
theorem dX10_quotient_23 : decode cX10_quotient 23 = .ok (.aload_n 0, 1) := by decide +kernel
theorem dX10_quotient_24 : decode cX10_quotient 24 = .ok (.iload_n 2, 1) := by decide +kernel
theorem dX10_quotient_25 : decode cX10_quotient 25 = .ok (.invokevirtual 136, 3) := by decide +kernel
theorem dX10_quotient_28 : decode cX10_quotient 28 = .ok (.aload_n 0, 1) := by decide +kernel
theorem dX10_quotient_29 : decode cX10_quotient 29 = .ok (.getfield 41, 3) := by decide +kernel
theorem dX10_quotient_32 : decode cX10_quotient 32 = .ok (.aload_n 0, 1) := by decide +kernel
theorem dX10_quotient_33 : decode cX10_quotient 33 = .ok (.getfield 12, 3) := by decide +kernel
theorem dX10_quotient_36 : decode cX10_quotient 36 = .ok (.getfield 119, 3) := by decide +kernel
theorem dX10_quotient_39 : decode cX10_quotient 39 = .ok (.iload_n 1, 1) := by decide +kernel
theorem dX10_quotient_40 : decode cX10_quotient 40 = .ok (.aaload, 1) := by decide +kernel
theorem dX10_quotient_41 : decode cX10_quotient 41 = .ok (.invokevirtual 162, 3) := by decide +kernel
theorem dX10_quotient_44 : decode cX10_quotient 44 = .ok (.ifCond .ne 6, 3) := by decide +kernel
theorem dX10_quotient_47 : decode cX10_quotient 47 = .ok (.bipush (-3), 2) := by decide +kernel
theorem dX10_quotient_49 : decode cX10_quotient 49 = .ok (.ireturn, 1) := by decide +kernel
theorem dX10_quotient_50 : decode cX10_quotient 50 = .ok (.aload_n 0, 1) := by decide +kernel
theorem dX10_quotient_51 : decode cX10_quotient 51 = .ok (.getfield 41, 3) := by decide +kernel
theorem dX10_quotient_54 : decode cX10_quotient 54 = .ok (.aload_n 0, 1) := by decide +kernel
theorem dX10_quotient_55 : decode cX10_quotient 55 = .ok (.getfield 12, 3) := by decide +kernel
theorem dX10_quotient_58 : decode cX10_quotient 58 = .ok (.getfield 119, 3) := by decide +kernel
theorem dX10_quotient_61 : decode cX10_quotient 61 = .ok (.iload_n 3, 1) := by decide +kernel
theorem dX10_quotient_62 : decode cX10_quotient 62 = .ok (.aaload, 1) := by decide +kernel
theorem dX10_quotient_63 : decode cX10_quotient 63 = .ok (.invokevirtual 139, 3) := by decide +kernel
theorem dX10_quotient_66 : decode cX10_quotient 66 = .ok (.aload_n 0, 1) := by decide +kernel
theorem dX10_quotient_67 : decode cX10_quotient 67 = .ok (.getfield 12, 3) := by decide +kernel
theorem dX10_quotient_70 : decode cX10_quotient 70 = .ok (.getfield 119, 3) := by decide +kernel
theorem dX10_quotient_73 : decode cX10_quotient 73 = .ok (.iload_n 3, 1) := by decide +kernel
theorem dX10_quotient_74 : decode cX10_quotient 74 = .ok (.aaload, 1) := by decide +kernel
theorem dX10_quotient_75 : decode cX10_quotient 75 = .ok (.getfield 123, 3) := by decide +kernel
theorem dX10_quotient_78 : decode cX10_quotient 78 = .ok (.ireturn, 1) := by decide +kernel
set_option maxRecDepth 20000 in
theorem ggX10_commonPrefix_X10_isWord : GoodIn wsX10_commonPrefix wsX10_isWord := goodIn_r _ [4] (by decide +kernel) (by decide +kernel)
set_option maxRecDepth 20000 in
theorem gX10_commonPrefix_X10_isWord : GoodIn wsX10_commonPrefix (va_wsS RX10 116 yX10_isWord wsX10_isWord) := goodIn_app (goodIn_of _ (by decide +kernel)) ggX10_commonPrefix_X10_isWord
set_option maxRecDepth 20000 in
theorem ggX10_commonPrefix_X10_draftCommonPrefix : GoodIn wsX10_commonPrefix wsX10_draftCommonPrefix := goodIn_r _ [8, 9, 10, 11, 12, 13, 14, 15, 16, 17, 18, 19, 20, 21, 22, 23, 24, 25, 26, 27, 28, 29, 30, 31, 32, 33, 34, 35, 36, 37, 38, 39, 40, 41, 42, 43, 44, 45, 46, 47, 48, 49, 50, 51, 52, 53, 54, 55, 56, 57, 58, 59, 60, 61, 3, 62, 63, 64, 65, 66, 67, 68, 69, 70, 71, 72, 73, 74, 75, 76, 77, 78, 79, 80, 106, 107, 108, 109, 110, 111, 112, 113, 114, 115, 116, 117, 118, 119, 120, 121, 122, 123, 124, 125, 126, 127, 128, 129, 130] (by decide +kernel) (by decide +kernel)
set_option maxRecDepth 20000 in
theorem gX10_commonPrefix_X10_draftCommonPrefix : GoodIn wsX10_commonPrefix (wsV RX10 195 RX10 yX10_draftCommonPrefix wsX10_draftCommonPrefix) := goodIn_app (goodIn_of _ (by decide +kernel)) ggX10_commonPrefix_X10_draftCommonPrefix
set_option maxRecDepth 20000 in
theorem ggX10_commonPrefix_X10_settleDraft : GoodIn wsX10_commonPrefix wsX10_settleDraft := goodIn_r _ [84, 9, 10, 12, 13, 14, 15, 16, 17, 18, 19, 20, 21, 22, 23, 24, 25, 26, 27, 28, 29, 30, 31, 32, 33, 34, 35, 36, 37, 38, 39, 40, 41, 42, 43, 44, 45, 46, 47, 48, 49, 50, 51, 52, 53, 54, 85, 86, 87, 88, 89, 56, 57, 58, 90, 91, 92, 93, 94, 95, 96, 97, 98, 99, 69, 100, 101, 102, 103, 104, 73, 74, 75, 76, 64, 65, 66, 67, 68, 70, 71, 105, 78, 79, 80, 106, 107, 108, 109, 110, 111, 112, 113, 114, 115, 116, 117, 118, 119, 129, 130, 120, 121, 122, 123, 124, 125, 126, 127, 128] (by decide +kernel) (by decide +kernel)
set_option maxRecDepth 20000 in
theorem gX10_commonPrefix_X10_settleDraft : GoodIn wsX10_commonPrefix (wsV RX10 192 RX10 yX10_settleDraft wsX10_settleDraft) := goodIn_app (goodIn_of _ (by decide +kernel)) ggX10_commonPrefix_X10_settleDraft
theorem dX10_commonPrefix_0 : decode cX10_commonPrefix 0 = .ok (.iload_n 1, 1) := by decide +kernel
theorem dX10_commonPrefix_1 : decode cX10_commonPrefix 1 = .ok (.invokestatic 116, 3) := by decide +kernel
theorem dX10_commonPrefix_4 : decode cX10_commonPrefix 4 = .ok (.ifCond .eq 17, 3) := by decide +kernel
theorem dX10_commonPrefix_7 : decode cX10_commonPrefix 7 = .ok (.iload_n 2, 1) := by decide +kernel
theorem dX10_commonPrefix_8 : decode cX10_commonPrefix 8 = .ok (.invokestatic 116, 3) := by decide +kernel
theorem dX10_commonPrefix_11 : decode cX10_commonPrefix 11 = .ok (.ifCond .eq 10, 3) := by decide +kernel
theorem dX10_commonPrefix_14 : decode cX10_commonPrefix 14 = .ok (.iload_n 3, 1) := by decide +kernel
theorem dX10_commonPrefix_15 : decode cX10_commonPrefix 15 = .ok (.invokestatic 116, 3) := by decide +kernel
theorem dX10_commonPrefix_18 : decode cX10_commonPrefix 18 = .ok (.ifCond .ne 5, 3) := by decide +kernel
theorem dX10_commonPrefix_21 : decode cX10_commonPrefix 21 = .ok (.iconst (-1), 1) := by decide +kernel
theorem dX10_commonPrefix_22 : decode cX10_commonPrefix 22 = .ok (.ireturn, 1) := by decide +kernel
theorem dX10_commonPrefix_23 : decode cX10_commonPrefix 23 = .ok (.aload_n 0, 1) := by decide +kernel
theorem dX10_commonPrefix_24 : decode cX10_commonPrefix 24 = .ok (.iload_n 1, 1) := by decide +kernel
theorem dX10_commonPrefix_25 : decode cX10_commonPrefix 25 = .ok (.iload_n 2, 1) := by decide +kernel
theorem dX10_commonPrefix_26 : decode cX10_commonPrefix 26 = .ok (.invokevirtual 195, 3) := by decide +kernel
theorem dX10_commonPrefix_29 : decode cX10_commonPrefix 29 = .ok (.aload_n 0, 1) := by decide +kernel
theorem dX10_commonPrefix_30 : decode cX10_commonPrefix 30 = .ok (.iload_n 3, 1) := by decide +kernel
theorem dX10_commonPrefix_31 : decode cX10_commonPrefix 31 = .ok (.invokevirtual 192, 3) := by decide +kernel
theorem dX10_commonPrefix_34 : decode cX10_commonPrefix 34 = .ok (.ireturn, 1) := by decide +kernel
set_option maxRecDepth 20000 in
theorem ggX10_commonMultiple_X10_isWord : GoodIn wsX10_commonMultiple wsX10_isWord := goodIn_r _ [8] (by decide +kernel) (by decide +kernel)
set_option maxRecDepth 20000 in
theorem gX10_commonMultiple_X10_isWord : GoodIn wsX10_commonMultiple (va_wsS RX10 116 yX10_isWord wsX10_isWord) := goodIn_app (goodIn_of _ (by decide +kernel)) ggX10_commonMultiple_X10_isWord
set_option maxRecDepth 20000 in
theorem ggX10_commonMultiple_X10_draftCommonPrefix : GoodIn wsX10_commonMultiple wsX10_draftCommonPrefix := goodIn_r _ [12, 2, 1, 3, 4, 13, 14, 15, 16, 17, 18, 19, 20, 21, 22, 23, 24, 25, 26, 27, 28, 29, 30, 31, 32, 33, 34, 35, 36, 37, 38, 39, 40, 41, 42, 43, 44, 45, 46, 47, 48, 49, 50, 51, 52, 53, 54, 55, 56, 57, 58, 59, 60, 61, 7, 62, 63, 64, 65, 66, 67, 68, 69, 70, 71, 72, 73, 74, 75, 76, 77, 78, 79, 80, 117, 118, 119, 120, 121, 122, 123, 124, 125, 126, 127, 128, 129, 130, 133, 134, 135, 136, 137, 138, 139, 140, 141, 131, 132] (by decide +kernel) (by decide +kernel)
set_option maxRecDepth 20000 in
theorem gX10_commonMultiple_X10_draftCommonPrefix : GoodIn wsX10_commonMultiple (wsV RX10 195 RX10 yX10_draftCommonPrefix wsX10_draftCommonPrefix) := goodIn_app (goodIn_of _ (by decide +kernel)) ggX10_commonMultiple_X10_draftCommonPrefix
set_option maxRecDepth 20000 in
theorem ggX10_commonMultiple_X3_lettersOfRest : GoodIn wsX10_commonMultiple wsX3_lettersOfRest := goodIn_r _ [84, 18, 21, 20, 135, 136, 137, 138, 139, 140, 141] (by decide +kernel) (by decide +kernel)
set_option maxRecDepth 20000 in
theorem gX10_commonMultiple_X3_lettersOfRest : GoodIn wsX10_commonMultiple (wsV RX10 198 RX3 yX3_lettersOfRest wsX3_lettersOfRest) := goodIn_app (goodIn_of _ (by decide +kernel)) ggX10_commonMultiple_X3_lettersOfRest
set_option maxRecDepth 20000 in
theorem ggX10_commonMultiple_X0_areAllFree : GoodIn wsX10_commonMultiple wsX0_areAllFree := goodIn_r _ [88, 49, 89, 51, 52, 47, 53, 54, 133, 134] (by decide +kernel) (by decide +kernel)
set_option maxRecDepth 20000 in
theorem gX10_commonMultiple_X0_areAllFree : GoodIn wsX10_commonMultiple (wsV RX10 201 RX0 yX0_areAllFree wsX0_areAllFree) := goodIn_app (goodIn_of _ (by decide +kernel)) ggX10_commonMultiple_X0_areAllFree
set_option maxRecDepth 20000 in
theorem ggX10_commonMultiple_X3_countRest : GoodIn wsX10_commonMultiple wsX3_countRest := goodIn_r _ [93, 19, 20, 94, 95, 69, 96, 97, 98, 99, 135, 136, 137, 138, 139, 140, 141] (by decide +kernel) (by decide +kernel)
set_option maxRecDepth 20000 in
theorem gX10_commonMultiple_X3_countRest : GoodIn wsX10_commonMultiple (wsV RX10 204 RX3 yX3_countRest wsX3_countRest) := goodIn_app (goodIn_of _ (by decide +kernel)) ggX10_commonMultiple_X3_countRest
set_option maxRecDepth 20000 in
theorem ggX10_commonMultiple_X3_pushRest : GoodIn wsX10_commonMultiple wsX3_pushRest := goodIn_r _ [103, 18, 104, 91, 92, 16, 93, 19, 20, 94, 95, 69, 96, 97, 98, 99, 105, 73, 74, 75, 76, 64, 65, 66, 21, 43, 67, 68, 70, 71, 106, 78, 79, 29, 80, 31, 32, 135, 136, 137, 138, 139, 140, 141, 131, 132] (by decide +kernel) (by decide +kernel)
set_option maxRecDepth 20000 in
theorem gX10_commonMultiple_X3_pushRest : GoodIn wsX10_commonMultiple (wsV RX10 207 RX3 yX3_pushRest wsX3_pushRest) := goodIn_app (goodIn_of _ (by decide +kernel)) ggX10_commonMultiple_X3_pushRest
set_option maxRecDepth 20000 in
theorem ggX10_commonMultiple_X10_settleDraft : GoodIn wsX10_commonMultiple wsX10_settleDraft := goodIn_r _ [110, 2, 1, 4, 13, 14, 15, 16, 17, 18, 19, 20, 21, 22, 23, 24, 25, 26, 27, 28, 29, 30, 31, 32, 33, 34, 35, 36, 37, 38, 39, 40, 41, 42, 43, 44, 45, 46, 47, 48, 49, 50, 51, 52, 53, 54, 111, 112, 113, 114, 115, 56, 57, 58, 116, 101, 102, 103, 104, 91, 92, 93, 94, 95, 69, 96, 97, 98, 99, 105, 73, 74, 75, 76, 64, 65, 66, 67, 68, 70, 71, 106, 78, 79, 80, 117, 118, 119, 120, 121, 122, 123, 124, 125, 126, 127, 128, 129, 130, 131, 132, 133, 134, 135, 136, 137, 138, 139, 140, 141] (by decide +kernel) (by decide +kernel)
set_option maxRecDepth 20000 in
theorem gX10_commonMultiple_X10_settleDraft : GoodIn wsX10_commonMultiple (wsV RX10 192 RX10 yX10_settleDraft wsX10_settleDraft) := goodIn_app (goodIn_of _ (by decide +kernel)) ggX10_commonMultiple_X10_settleDraft
theorem dX10_commonMultiple_0 : decode cX10_commonMultiple 0 = .ok (.iload_n 1, 1) := by decide +kernel
theorem dX10_commonMultiple_1 : decode cX10_commonMultiple 1 = .ok (.invokestatic 116, 3) := by decide +kernel
theorem dX10_commonMultiple_4 : decode cX10_commonMultiple 4 = .ok (.ifCond .eq 17, 3) := by decide +kernel
theorem dX10_commonMultiple_7 : decode cX10_commonMultiple 7 = .ok (.iload_n 2, 1) := by decide +kernel
theorem dX10_commonMultiple_8 : decode cX10_commonMultiple 8 = .ok (.invokestatic 116, 3) := by decide +kernel
theorem dX10_commonMultiple_11 : decode cX10_commonMultiple 11 = .ok (.ifCond .eq 10, 3) := by decide +kernel
theorem dX10_commonMultiple_14 : decode cX10_commonMultiple 14 = .ok (.iload_n 3, 1) := by decide +kernel
theorem dX10_commonMultiple_15 : decode cX10_commonMultiple 15 = .ok (.invokestatic 116, 3) := by decide +kernel
theorem dX10_commonMultiple_18 : decode cX10_commonMultiple 18 = .ok (.ifCond .ne 5, 3) := by decide +kernel
theorem dX10_commonMultiple_21 : decode cX10_commonMultiple 21 = .ok (.iconst (-1), 1) := by decide +kernel
theorem dX10_commonMultiple_22 : decode cX10_commonMultiple 22 = .ok (.ireturn, 1) := by decide +kernel
theorem dX10_commonMultiple_23 : decode cX10_commonMultiple 23 = .ok (.aload_n 0, 1) := by decide +kernel
theorem dX10_commonMultiple_24 : decode cX10_commonMultiple 24 = .ok (.iload_n 1, 1) := by decide +kernel
theorem dX10_commonMultiple_25 : decode cX10_commonMultiple 25 = .ok (.iload_n 2, 1) := by decide +kernel
theorem dX10_commonMultiple_26 : decode cX10_commonMultiple 26 = .ok (.invokevirtual 195, 3) := by decide +kernel
theorem dX10_commonMultiple_29 : decode cX10_commonMultiple 29 = .ok (.aload_n 0, 1) := by decide +kernel
theorem dX10_commonMultiple_30 : decode cX10_commonMultiple 30 = .ok (.getfield 12, 3) := by decide +kernel
theorem dX10_commonMultiple_33 : decode cX10_commonMultiple 33 = .ok (.getfield 76, 3) := by decide +kernel
theorem dX10_commonMultiple_36 : decode cX10_commonMultiple 36 = .ok (.aload_n 0, 1) := by decide +kernel
theorem dX10_commonMultiple_37 : decode cX10_commonMultiple 37 = .ok (.getfield 41, 3) := by decide +kernel
theorem dX10_commonMultiple_40 : decode cX10_commonMultiple 40 = .ok (.invokevirtual 198, 3) := by decide +kernel
theorem dX10_commonMultiple_43 : decode cX10_commonMultiple 43 = .ok (.aload_n 0, 1) := by decide +kernel
theorem dX10_commonMultiple_44 : decode cX10_commonMultiple 44 = .ok (.getfield 45, 3) := by decide +kernel
theorem dX10_commonMultiple_47 : decode cX10_commonMultiple 47 = .ok (.invokevirtual 198, 3) := by decide +kernel
theorem dX10_commonMultiple_50 : decode cX10_commonMultiple 50 = .ok (.invokevirtual 201, 3) := by decide +kernel
theorem dX10_commonMultiple_53 : decode cX10_commonMultiple 53 = .ok (.ifCond .ne 6, 3) := by decide +kernel
theorem dX10_commonMultiple_56 : decode cX10_commonMultiple 56 = .ok (.bipush (-3), 2) := by decide +kernel
theorem dX10_commonMultiple_58 : decode cX10_commonMultiple 58 = .ok (.ireturn, 1) := by decide +kernel
theorem dX10_commonMultiple_59 : decode cX10_commonMultiple 59 = .ok (.aload_n 0, 1) := by decide +kernel
theorem dX10_commonMultiple_60 : decode cX10_commonMultiple 60 = .ok (.getfield 34, 3) := by decide +kernel
theorem dX10_commonMultiple_63 : decode cX10_commonMultiple 63 = .ok (.getfield 123, 3) := by decide +kernel
theorem dX10_commonMultiple_66 : decode cX10_commonMultiple 66 = .ok (.aload_n 0, 1) := by decide +kernel
theorem dX10_commonMultiple_67 : decode cX10_commonMultiple 67 = .ok (.getfield 41, 3) := by decide +kernel
theorem dX10_commonMultiple_70 : decode cX10_commonMultiple 70 = .ok (.invokevirtual 204, 3) := by decide +kernel
theorem dX10_commonMultiple_73 : decode cX10_commonMultiple 73 = .ok (.iadd, 1) := by decide +kernel
theorem dX10_commonMultiple_74 : decode cX10_commonMultiple 74 = .ok (.aload_n 0, 1) := by decide +kernel
theorem dX10_commonMultiple_75 : decode cX10_commonMultiple 75 = .ok (.getfield 45, 3) := by decide +kernel
theorem dX10_commonMultiple_78 : decode cX10_commonMultiple 78 = .ok (.invokevirtual 204, 3) := by decide +kernel
theorem dX10_commonMultiple_81 : decode cX10_commonMultiple 81 = .ok (.iadd, 1) := by decide +kernel
theorem dX10_commonMultiple_82 : decode cX10_commonMultiple 82 = .ok (.bipush 16, 2) := by decide +kernel
theorem dX10_commonMultiple_84 : decode cX10_commonMultiple 84 = .ok (.if_icmp .le 6, 3) := by decide +kernel
theorem dX10_commonMultiple_87 : decode cX10_commonMultiple 87 = .ok (.bipush (-4), 2) := by decide +kernel
theorem dX10_commonMultiple_89 : decode cX10_commonMultiple 89 = .ok (.ireturn, 1) := by decide +kernel
theorem dX10_commonMultiple_90 : decode cX10_commonMultiple 90 = .ok (.aload_n 0, 1) := by decide +kernel
theorem dX10_commonMultiple_91 : decode cX10_commonMultiple 91 = .ok (.getfield 41, 3) := by decide +kernel
theorem dX10_commonMultiple_94 : decode cX10_commonMultiple 94 = .ok (.aload_n 0, 1) := by decide +kernel
theorem dX10_commonMultiple_95 : decode cX10_commonMultiple 95 = .ok (.getfield 34, 3) := by decide +kernel
theorem dX10_commonMultiple_98 : decode cX10_commonMultiple 98 = .ok (.invokevirtual 207, 3) := by decide +kernel
theorem dX10_commonMultiple_101 : decode cX10_commonMultiple 101 = .ok (.aload_n 0, 1) := by decide +kernel
theorem dX10_commonMultiple_102 : decode cX10_commonMultiple 102 = .ok (.getfield 45, 3) := by decide +kernel
theorem dX10_commonMultiple_105 : decode cX10_commonMultiple 105 = .ok (.aload_n 0, 1) := by decide +kernel
theorem dX10_commonMultiple_106 : decode cX10_commonMultiple 106 = .ok (.getfield 34, 3) := by decide +kernel
theorem dX10_commonMultiple_109 : decode cX10_commonMultiple 109 = .ok (.invokevirtual 207, 3) := by decide +kernel
theorem dX10_commonMultiple_112 : decode cX10_commonMultiple 112 = .ok (.aload_n 0, 1) := by decide +kernel
theorem dX10_commonMultiple_113 : decode cX10_commonMultiple 113 = .ok (.iload_n 3, 1) := by decide +kernel
theorem dX10_commonMultiple_114 : decode cX10_commonMultiple 114 = .ok (.invokevirtual 192, 3) := by decide +kernel
theorem dX10_commonMultiple_117 : decode cX10_commonMultiple 117 = .ok (.ireturn, 1) := by decide +kernel
set_option maxRecDepth 20000 in
theorem ggX10_root_X10_isWord : GoodIn wsX10_root wsX10_isWord := goodIn_r _ [5] (by decide +kernel) (by decide +kernel)
set_option maxRecDepth 20000 in
theorem gX10_root_X10_isWord : GoodIn wsX10_root (va_wsS RX10 116 yX10_isWord wsX10_isWord) := goodIn_app (goodIn_of _ (by decide +kernel)) ggX10_root_X10_isWord
set_option maxRecDepth 20000 in
theorem ggX10_root_X10_draftRoot : GoodIn wsX10_root wsX10_draftRoot := goodIn_r _ [9, 10, 11, 12, 13, 4, 14, 15, 16, 17, 18, 19, 20, 21, 22, 23, 24, 25, 26, 27, 28, 29, 30, 31, 32, 33, 34, 35, 36, 37, 38, 39, 1, 40, 41, 42, 43, 44, 45, 46, 47, 48, 49, 50, 51, 52, 53, 54, 55, 56, 57, 58, 59, 60, 61, 62, 63, 64, 65, 66, 67, 68, 69, 70, 71, 72, 73, 74, 75, 76, 77, 78, 79, 80, 81, 82, 83, 84, 85, 86, 87, 88, 89, 90, 91, 92, 93, 94, 95, 96, 97, 98, 99, 100, 101, 102, 103, 104, 105, 106, 107, 108, 109, 110, 139, 140, 125, 126, 127, 128, 129, 130, 131, 132, 133, 134, 135, 136, 137, 138, 141, 142, 143, 144, 145, 146, 147, 148, 149] (by decide +kernel) (by decide +kernel)
set_option maxRecDepth 20000 in
theorem gX10_root_X10_draftRoot : GoodIn wsX10_root (wsV RX10 188 RX10 yX10_draftRoot wsX10_draftRoot) := goodIn_app (goodIn_of _ (by decide +kernel)) ggX10_root_X10_draftRoot
set_option maxRecDepth 20000 in
theorem ggX10_root_X10_settleDraft : GoodIn wsX10_root wsX10_settleDraft := goodIn_r _ [114, 39, 1, 10, 40, 41, 42, 43, 44, 45, 46, 47, 48, 49, 50, 51, 52, 53, 22, 23, 18, 24, 20, 25, 54, 55, 56, 57, 58, 59, 60, 61, 62, 63, 64, 65, 66, 67, 68, 69, 70, 71, 72, 73, 74, 75, 115, 116, 117, 118, 119, 16, 17, 19, 120, 121, 122, 123, 97, 98, 99, 100, 101, 102, 90, 103, 104, 105, 106, 80, 81, 82, 83, 84, 85, 86, 87, 88, 89, 91, 92, 124, 32, 33, 34, 125, 126, 127, 128, 129, 130, 131, 132, 133, 134, 135, 136, 137, 138, 139, 140, 141, 142, 143, 144, 145, 146, 147, 148, 149] (by decide +kernel) (by decide +kernel)
set_option maxRecDepth 20000 in
theorem gX10_root_X10_settleDraft : GoodIn wsX10_root (wsV RX10 192 RX10 yX10_settleDraft wsX10_settleDraft) := goodIn_app (goodIn_of _ (by decide +kernel)) ggX10_root_X10_settleDraft
theorem dX10_root_0 : decode cX10_root 0 = .ok (.iload_n 1, 1) := by decide +kernel
theorem dX10_root_1 : decode cX10_root 1 = .ok (.invokestatic 116, 3) := by decide +kernel
theorem dX10_root_4 : decode cX10_root 4 = .ok (.ifCond .eq 10, 3) := by decide +kernel
theorem dX10_root_7 : decode cX10_root 7 = .ok (.iload_n 2, 1) := by decide +kernel
theorem dX10_root_8 : decode cX10_root 8 = .ok (.invokestatic 116, 3) := by decide +kernel
theorem dX10_root_11 : decode cX10_root 11 = .ok (.ifCond .ne 5, 3) := by decide +kernel
theorem dX10_root_14 : decode cX10_root 14 = .ok (.iconst (-1), 1) := by decide +kernel
theorem dX10_root_15 : decode cX10_root 15 = .ok (.ireturn, 1) := by decide +kernel
theorem dX10_root_16 : decode cX10_root 16 = .ok (.aload_n 0, 1) := by decide +kernel
theorem dX10_root_17 : decode cX10_root 17 = .ok (.getfield 12, 3) := by decide +kernel
theorem dX10_root_20 : decode cX10_root 20 = .ok (.getfield 119, 3) := by decide +kernel
theorem dX10_root_23 : decode cX10_root 23 = .ok (.iload_n 1, 1) := by decide +kernel
theorem dX10_root_24 : decode cX10_root 24 = .ok (.aaload, 1) := by decide +kernel
theorem dX10_root_25 : decode cX10_root 25 = .ok (.getfield 123, 3) := by decide +kernel
theorem dX10_root_28 : decode cX10_root 28 = .ok (.ifCond .ne 6, 3) := by decide +kernel
theorem dX10_root_31 : decode cX10_root 31 = .ok (.bipush (-3), 2) := by decide +kernel
theorem dX10_root_33 : decode cX10_root 33 = .ok (.ireturn, 1) := by decide +kernel
theorem dX10_root_34 : decode cX10_root 34 = .ok (.aload_n 0, 1) := by decide +kernel
theorem dX10_root_35 : decode cX10_root 35 = .ok (.aload_n 0, 1) := by decide +kernel
theorem dX10_root_36 : decode cX10_root 36 = .ok (.getfield 12, 3) := by decide +kernel
theorem dX10_root_39 : decode cX10_root 39 = .ok (.getfield 119, 3) := by decide +kernel
theorem dX10_root_42 : decode cX10_root 42 = .ok (.iload_n 1, 1) := by decide +kernel
theorem dX10_root_43 : decode cX10_root 43 = .ok (.aaload, 1) := by decide +kernel
theorem dX10_root_44 : decode cX10_root 44 = .ok (.invokevirtual 188, 3) := by decide +kernel
theorem dX10_root_47 : decode cX10_root 47 = .ok (.pop, 1) := by decide +kernel
theorem dX10_root_48 : decode cX10_root 48 = .ok (.aload_n 0, 1) := by decide +kernel
theorem dX10_root_49 : decode cX10_root 49 = .ok (.iload_n 2, 1) := by decide +kernel
theorem dX10_root_50 : decode cX10_root 50 = .ok (.invokevirtual 192, 3) := by decide +kernel
theorem dX10_root_53 : decode cX10_root 53 = .ok (.ireturn, 1) := by decide +kernel
set_option maxRecDepth 20000 in
theorem ggX10_reverse_X10_isWord : GoodIn wsX10_reverse wsX10_isWord := goodIn_r _ [6] (by decide +kernel) (by decide +kernel)
set_option maxRecDepth 20000 in
theorem gX10_reverse_X10_isWord : GoodIn wsX10_reverse (va_wsS RX10 116 yX10_isWord wsX10_isWord) := goodIn_app (goodIn_of _ (by decide +kernel)) ggX10_reverse_X10_isWord
set_option maxRecDepth 20000 in
theorem ggX10_reverse_X9_empty : GoodIn wsX10_reverse wsX9_empty := goodIn_r _ [11, 12, 110, 111] (by decide +kernel) (by decide +kernel)
set_option maxRecDepth 20000 in
theorem gX10_reverse_X9_empty : GoodIn wsX10_reverse (wsV RX10 129 RX9 yX9_empty wsX9_empty) := goodIn_app (goodIn_of _ (by decide +kernel)) ggX10_reverse_X9_empty
set_option maxRecDepth 20000 in
theorem ggX10_reverse_X9_at : GoodIn wsX10_reverse wsX9_at := goodIn_r _ [16, 12, 17, 110, 111] (by decide +kernel) (by decide +kernel)
set_option maxRecDepth 20000 in
theorem gX10_reverse_X9_at : GoodIn wsX10_reverse (wsV RX10 150 RX9 yX9_at wsX9_at) := goodIn_app (goodIn_of _ (by decide +kernel)) ggX10_reverse_X9_at
set_option maxRecDepth 20000 in
theorem ggX10_reverse_X9_push : GoodIn wsX10_reverse wsX9_push := goodIn_r _ [21, 12, 17, 110, 111] (by decide +kernel) (by decide +kernel)
set_option maxRecDepth 20000 in
theorem gX10_reverse_X9_push : GoodIn wsX10_reverse (wsV RX10 126 RX9 yX9_push wsX9_push) := goodIn_app (goodIn_of _ (by decide +kernel)) ggX10_reverse_X9_push
set_option maxRecDepth 20000 in
theorem ggX10_reverse_X10_settleDraft : GoodIn wsX10_reverse wsX10_settleDraft := goodIn_r _ [25, 26, 1, 2, 27, 28, 29, 30, 31, 32, 33, 34, 35, 36, 37, 38, 39, 40, 14, 15, 10, 16, 12, 17, 41, 42, 43, 44, 45, 46, 47, 48, 49, 50, 51, 52, 53, 54, 55, 56, 57, 58, 59, 60, 61, 62, 63, 64, 65, 66, 67, 8, 9, 11, 68, 69, 70, 71, 72, 73, 74, 75, 76, 77, 78, 79, 80, 81, 82, 83, 84, 85, 86, 87, 88, 89, 90, 91, 92, 93, 94, 95, 19, 20, 21, 96, 97, 98, 99, 100, 101, 102, 103, 104, 105, 106, 107, 108, 109, 110, 111, 112, 113, 114, 115, 116, 117, 118, 119, 120] (by decide +kernel) (by decide +kernel)
set_option maxRecDepth 20000 in
theorem gX10_reverse_X10_settleDraft : GoodIn wsX10_reverse (wsV RX10 192 RX10 yX10_settleDraft wsX10_settleDraft) := goodIn_app (goodIn_of _ (by decide +kernel)) ggX10_reverse_X10_settleDraft
theorem dX10_reverse_0 : decode cX10_reverse 0 = .ok (.iload_n 1, 1) := by decide +kernel
theorem dX10_reverse_1 : decode cX10_reverse 1 = .ok (.invokestatic 116, 3) := by decide +kernel
theorem dX10_reverse_4 : decode cX10_reverse 4 = .ok (.ifCond .eq 10, 3) := by decide +kernel
theorem dX10_reverse_7 : decode cX10_reverse 7 = .ok (.iload_n 2, 1) := by decide +kernel
theorem dX10_reverse_8 : decode cX10_reverse 8 = .ok (.invokestatic 116, 3) := by decide +kernel
theorem dX10_reverse_11 : decode cX10_reverse 11 = .ok (.ifCond .ne 5, 3) := by decide +kernel
theorem dX10_reverse_14 : decode cX10_reverse 14 = .ok (.iconst (-1), 1) := by decide +kernel
theorem dX10_reverse_15 : decode cX10_reverse 15 = .ok (.ireturn, 1) := by decide +kernel
theorem dX10_reverse_16 : decode cX10_reverse 16 = .ok (.aload_n 0, 1) := by decide +kernel
theorem dX10_reverse_17 : decode cX10_reverse 17 = .ok (.getfield 12, 3) := by decide +kernel
theorem dX10_reverse_20 : decode cX10_reverse 20 = .ok (.getfield 119, 3) := by decide +kernel
theorem dX10_reverse_23 : decode cX10_reverse 23 = .ok (.iload_n 1, 1) := by decide +kernel
theorem dX10_reverse_24 : decode cX10_reverse 24 = .ok (.aaload, 1) := by decide +kernel
theorem dX10_reverse_25 : decode cX10_reverse 25 = .ok (.astore_n 3, 1) := by decide +kernel
theorem dX10_reverse_26 : decode cX10_reverse 26 = .ok (.aload_n 0, 1) := by decide +kernel
theorem dX10_reverse_27 : decode cX10_reverse 27 = .ok (.getfield 34, 3) := by decide +kernel
theorem dX10_reverse_30 : decode cX10_reverse 30 = .ok (.invokevirtual 129, 3) := by decide +kernel
theorem dX10_reverse_33 : decode cX10_reverse 33 = .ok (.aload_n 3, 1) := by decide +kernel
theorem dX10_reverse_34 : decode cX10_reverse 34 = .ok (.getfield 123, 3) := by decide +kernel
theorem dX10_reverse_37 : decode cX10_reverse 37 = .ok (.iconst 1, 1) := by decide +kernel
theorem dX10_reverse_38 : decode cX10_reverse 38 = .ok (.isub, 1) := by decide +kernel
theorem dX10_reverse_39 : decode cX10_reverse 39 = .ok (.istore 4, 2) := by decide +kernel
theorem dX10_reverse_41 : decode cX10_reverse 41 = .ok (.iload 4, 2) := by decide +kernel
theorem dX10_reverse_43 : decode cX10_reverse 43 = .ok (.ifCond .lt 22, 3) := by decide +kernel
theorem dX10_reverse_46 : decode cX10_reverse 46 = .ok (.aload_n 0, 1) := by decide +kernel
theorem dX10_reverse_47 : decode cX10_reverse 47 = .ok (.getfield 34, 3) := by decide +kernel
theorem dX10_reverse_50 : decode cX10_reverse 50 = .ok (.aload_n 3, 1) := by decide +kernel
theorem dX10_reverse_51 : decode cX10_reverse 51 = .ok (.iload 4, 2) := by decide +kernel
theorem dX10_reverse_53 : decode cX10_reverse 53 = .ok (.invokevirtual 150, 3) := by decide +kernel
theorem dX10_reverse_56 : decode cX10_reverse 56 = .ok (.invokevirtual 126, 3) := by decide +kernel
theorem dX10_reverse_59 : decode cX10_reverse 59 = .ok (.iinc 4 (-1), 3) := by decide +kernel
theorem dX10_reverse_62 : decode cX10_reverse 62 = .ok (.goto (-21), 3) := by decide +kernel
theorem dX10_reverse_65 : decode cX10_reverse 65 = .ok (.aload_n 0, 1) := by decide +kernel
theorem dX10_reverse_66 : decode cX10_reverse 66 = .ok (.iload_n 2, 1) := by decide +kernel
theorem dX10_reverse_67 : decode cX10_reverse 67 = .ok (.invokevirtual 192, 3) := by decide +kernel
theorem dX10_reverse_70 : decode cX10_reverse 70 = .ok (.ireturn, 1) := by decide +kernel
set_option maxRecDepth 20000 in
theorem ggX10_append_X7_push : GoodIn wsX10_append wsX7_push := goodIn_r _ [6, 7, 8, 20, 21] (by decide +kernel) (by decide +kernel)
set_option maxRecDepth 20000 in
theorem gX10_append_X7_push : GoodIn wsX10_append (wsV RX10 211 RX7 yX7_push wsX7_push) := goodIn_app (goodIn_of _ (by decide +kernel)) ggX10_append_X7_push
theorem dX10_append_0 : decode cX10_append 0 = .ok (.iload_n 1, 1) := by decide +kernel
theorem dX10_append_1 : decode cX10_append 1 = .ok (.ifCond .lt 9, 3) := by decide +kernel
theorem dX10_append_4 : decode cX10_append 4 = .ok (.iload_n 1, 1) := by decide +kernel
theorem dX10_append_5 : decode cX10_append 5 = .ok (.bipush 127, 2) := by decide +kernel
theorem dX10_append_7 : decode cX10_append 7 = .ok (.if_icmp .le 6, 3) := by decide +kernel
theorem dX10_append_10 : decode cX10_append 10 = .ok (.bipush (-2), 2) := by decide +kernel
theorem dX10_append_12 : decode cX10_append 12 = .ok (.ireturn, 1) := by decide +kernel
theorem dX10_append_13 : decode cX10_append 13 = .ok (.aload_n 0, 1) := by decide +kernel
theorem dX10_append_14 : decode cX10_append 14 = .ok (.getfield 27, 3) := by decide +kernel
theorem dX10_append_17 : decode cX10_append 17 = .ok (.getfield 210, 3) := by decide +kernel
theorem dX10_append_20 : decode cX10_append 20 = .ok (.bipush 80, 2) := by decide +kernel
theorem dX10_append_22 : decode cX10_append 22 = .ok (.if_icmp .lt 6, 3) := by decide +kernel
theorem dX10_append_25 : decode cX10_append 25 = .ok (.bipush (-4), 2) := by decide +kernel
theorem dX10_append_27 : decode cX10_append 27 = .ok (.ireturn, 1) := by decide +kernel
theorem dX10_append_28 : decode cX10_append 28 = .ok (.aload_n 0, 1) := by decide +kernel
theorem dX10_append_29 : decode cX10_append 29 = .ok (.getfield 27, 3) := by decide +kernel
theorem dX10_append_32 : decode cX10_append 32 = .ok (.iload_n 1, 1) := by decide +kernel
theorem dX10_append_33 : decode cX10_append 33 = .ok (.invokevirtual 211, 3) := by decide +kernel
theorem dX10_append_36 : decode cX10_append 36 = .ok (.aload_n 0, 1) := by decide +kernel
theorem dX10_append_37 : decode cX10_append 37 = .ok (.getfield 27, 3) := by decide +kernel
theorem dX10_append_40 : decode cX10_append 40 = .ok (.getfield 210, 3) := by decide +kernel
theorem dX10_append_43 : decode cX10_append 43 = .ok (.ireturn, 1) := by decide +kernel
set_option maxRecDepth 20000 in
theorem ggX10_clearText_X7_empty : GoodIn wsX10_clearText wsX7_empty := goodIn_r _ [6, 7, 19, 20] (by decide +kernel) (by decide +kernel)
set_option maxRecDepth 20000 in
theorem gX10_clearText_X7_empty : GoodIn wsX10_clearText (wsV RX10 212 RX7 yX7_empty wsX7_empty) := goodIn_app (goodIn_of _ (by decide +kernel)) ggX10_clearText_X7_empty
theorem dX10_clearText_0 : decode cX10_clearText 0 = .ok (.aload_n 0, 1) := by decide +kernel
theorem dX10_clearText_1 : decode cX10_clearText 1 = .ok (.getfield 27, 3) := by decide +kernel
theorem dX10_clearText_4 : decode cX10_clearText 4 = .ok (.getfield 210, 3) := by decide +kernel
theorem dX10_clearText_7 : decode cX10_clearText 7 = .ok (.istore_n 1, 1) := by decide +kernel
theorem dX10_clearText_8 : decode cX10_clearText 8 = .ok (.aload_n 0, 1) := by decide +kernel
theorem dX10_clearText_9 : decode cX10_clearText 9 = .ok (.getfield 27, 3) := by decide +kernel
theorem dX10_clearText_12 : decode cX10_clearText 12 = .ok (.invokevirtual 212, 3) := by decide +kernel
theorem dX10_clearText_15 : decode cX10_clearText 15 = .ok (.iload_n 1, 1) := by decide +kernel
theorem dX10_clearText_16 : decode cX10_clearText 16 = .ok (.ireturn, 1) := by decide +kernel
set_option maxRecDepth 20000 in
theorem ggX10_faultPosition_X7_faultAt : GoodIn wsX10_faultPosition wsX7_faultAt := goodIn_r _ [7, 8, 9, 10, 11, 6, 12, 13, 30, 31] (by decide +kernel) (by decide +kernel)
set_option maxRecDepth 20000 in
theorem gX10_faultPosition_X7_faultAt : GoodIn wsX10_faultPosition (wsV RX10 213 RX7 yX7_faultAt wsX7_faultAt) := goodIn_app (goodIn_of _ (by decide +kernel)) ggX10_faultPosition_X7_faultAt
theorem dX10_faultPosition_0 : decode cX10_faultPosition 0 = .ok (.aload_n 0, 1) := by decide +kernel
theorem dX10_faultPosition_1 : decode cX10_faultPosition 1 = .ok (.getfield 27, 3) := by decide +kernel
theorem dX10_faultPosition_4 : decode cX10_faultPosition 4 = .ok (.aload_n 0, 1) := by decide +kernel
theorem dX10_faultPosition_5 : decode cX10_faultPosition 5 = .ok (.getfield 12, 3) := by decide +kernel
theorem dX10_faultPosition_8 : decode cX10_faultPosition 8 = .ok (.getfield 76, 3) := by decide +kernel
theorem dX10_faultPosition_11 : decode cX10_faultPosition 11 = .ok (.getfield 80, 3) := by decide +kernel
theorem dX10_faultPosition_14 : decode cX10_faultPosition 14 = .ok (.invokevirtual 213, 3) := by decide +kernel
theorem dX10_faultPosition_17 : decode cX10_faultPosition 17 = .ok (.istore_n 1, 1) := by decide +kernel
theorem dX10_faultPosition_18 : decode cX10_faultPosition 18 = .ok (.iload_n 1, 1) := by decide +kernel
theorem dX10_faultPosition_19 : decode cX10_faultPosition 19 = .ok (.iconst (-1), 1) := by decide +kernel
theorem dX10_faultPosition_20 : decode cX10_faultPosition 20 = .ok (.if_icmp .ne 8, 3) := by decide +kernel
theorem dX10_faultPosition_23 : decode cX10_faultPosition 23 = .ok (.bipush (-5), 2) := by decide +kernel
theorem dX10_faultPosition_25 : decode cX10_faultPosition 25 = .ok (.goto 4, 3) := by decide +kernel
theorem dX10_faultPosition_28 : decode cX10_faultPosition 28 = .ok (.iload_n 1, 1) := by decide +kernel
theorem dX10_faultPosition_29 : decode cX10_faultPosition 29 = .ok (.ireturn, 1) := by decide +kernel
set_option maxRecDepth 20000 in
theorem ggX10_matches_X10_isWord : GoodIn wsX10_matches wsX10_isWord := goodIn_r _ [9] (by decide +kernel) (by decide +kernel)
set_option maxRecDepth 20000 in
theorem gX10_matches_X10_isWord : GoodIn wsX10_matches (va_wsS RX10 116 yX10_isWord wsX10_isWord) := goodIn_app (goodIn_of _ (by decide +kernel)) ggX10_matches_X10_isWord
set_option maxRecDepth 20000 in
theorem ggX10_matches_X8_plant : GoodIn wsX10_matches wsX8_plant := goodIn_r _ [14, 15, 16, 17, 18, 19, 20, 21, 22, 23, 24, 25, 26, 27, 28, 29, 30, 31, 32, 33, 34, 35, 13, 36, 37, 38, 39, 40, 41, 42, 43, 44, 45, 46, 47, 48, 49, 50, 51, 52, 53, 54, 55, 56, 57, 58, 59, 60, 61, 62, 63, 64, 65, 66, 67, 68, 69, 70, 71, 72, 73, 74, 75, 76, 77, 78, 79, 80, 81, 82, 83, 84, 85, 86, 87, 88, 245, 246, 247, 248, 249, 250, 251, 252, 253, 254, 255, 256, 257] (by decide +kernel) (by decide +kernel)
set_option maxRecDepth 20000 in
theorem gX10_matches_X8_plant : GoodIn wsX10_matches (wsV RX10 216 RX8 yX8_plant wsX8_plant) := goodIn_app (goodIn_of _ (by decide +kernel)) ggX10_matches_X8_plant
set_option maxRecDepth 20000 in
theorem ggX10_matches_X4_begin : GoodIn wsX10_matches wsX4_begin := goodIn_r _ [93, 94, 95, 96, 97, 98, 78, 79, 80, 99, 100, 101, 102, 103, 104, 105, 106, 107, 108, 109, 110, 111, 112, 113, 114, 115, 116, 117, 118, 119, 120, 121, 122, 123, 124, 125, 126, 127, 128, 129, 130, 131, 132, 133, 134, 135, 136, 137, 138, 139, 140, 141, 142, 143, 144, 145, 146, 147, 148, 149, 150, 151, 258, 259, 260, 261, 262, 243, 244, 263, 264, 265, 266, 267, 268, 269, 270, 271] (by decide +kernel) (by decide +kernel)
set_option maxRecDepth 20000 in
theorem gX10_matches_X4_begin : GoodIn wsX10_matches (wsV RX10 183 RX4 yX4_begin wsX4_begin) := goodIn_app (goodIn_of _ (by decide +kernel)) ggX10_matches_X4_begin
set_option maxRecDepth 20000 in
theorem ggX10_matches_X2_fits : GoodIn wsX10_matches wsX2_fits := goodIn_r _ [156, 157, 158, 86, 13, 87, 88, 15, 159, 160, 161, 162, 17, 81, 82, 83, 84, 18, 85, 163, 164, 165, 155, 166, 167, 168, 169, 170, 171, 172, 111, 173, 174, 175, 176, 177, 178, 179, 180, 181, 182, 183, 184, 185, 186, 187, 188, 189, 190, 191, 192, 193, 194, 195, 196, 197, 198, 199, 200, 201, 202, 203, 204, 205, 206, 207, 208, 209, 210, 211, 212, 92, 213, 97, 94, 96, 99, 214, 215, 216, 217, 218, 219, 220, 103, 221, 108, 107, 129, 222, 223, 147, 224, 225, 245, 246, 247, 248, 249, 250, 251, 252, 253, 254, 255, 258, 259, 260, 261, 262, 272, 273, 274, 275, 276, 277, 278, 263, 264, 265, 266, 267, 268, 269] (by decide +kernel) (by decide +kernel)
set_option maxRecDepth 20000 in
theorem gX10_matches_X2_fits : GoodIn wsX10_matches (wsV RX10 220 RX2 yX2_fits wsX2_fits) := goodIn_app (goodIn_of _ (by decide +kernel)) ggX10_matches_X2_fits
set_option maxRecDepth 20000 in
theorem ggX10_matches_X10_toNumber : GoodIn wsX10_matches wsX10_toNumber := goodIn_r _ [228] (by decide +kernel) (by decide +kernel)
set_option maxRecDepth 20000 in
theorem gX10_matches_X10_toNumber : GoodIn wsX10_matches (va_wsS RX10 102 yX10_toNumber wsX10_toNumber) := goodIn_app (goodIn_of _ (by decide +kernel)) ggX10_matches_X10_toNumber
theorem dX10_matches_0 : decode cX10_matches 0 = .ok (.iload_n 1, 1) := by decide +kernel
theorem dX10_matches_1 : decode cX10_matches 1 = .ok (.invokestatic 116, 3) := by decide +kernel
theorem dX10_matches_4 : decode cX10_matches 4 = .ok (.ifCond .ne 5, 3) := by decide +kernel
theorem dX10_matches_7 : decode cX10_matches 7 = .ok (.iconst (-1), 1) := by decide +kernel
theorem dX10_matches_8 : decode cX10_matches 8 = .ok (.ireturn, 1) := by decide +kernel
theorem dX10_matches_9 : decode cX10_matches 9 = .ok (.aload_n 0, 1) := by decide +kernel
theorem dX10_matches_10 : decode cX10_matches 10 = .ok (.getfield 65, 3) := by decide +kernel
theorem dX10_matches_13 : decode cX10_matches 13 = .ok (.aload_n 0, 1) := by decide +kernel
theorem dX10_matches_14 : decode cX10_matches 14 = .ok (.getfield 27, 3) := by decide +kernel
theorem dX10_matches_17 : decode cX10_matches 17 = .ok (.aload_n 0, 1) := by decide +kernel
theorem dX10_matches_18 : decode cX10_matches 18 = .ok (.getfield 12, 3) := by decide +kernel
theorem dX10_matches_21 : decode cX10_matches 21 = .ok (.getfield 76, 3) := by decide +kernel
theorem dX10_matches_24 : decode cX10_matches 24 = .ok (.getfield 80, 3) := by decide +kernel
theorem dX10_matches_27 : decode cX10_matches 27 = .ok (.invokevirtual 216, 3) := by decide +kernel
theorem dX10_matches_30 : decode cX10_matches 30 = .ok (.ifCond .ne 6, 3) := by decide +kernel
theorem dX10_matches_33 : decode cX10_matches 33 = .ok (.bipush (-3), 2) := by decide +kernel
theorem dX10_matches_35 : decode cX10_matches 35 = .ok (.ireturn, 1) := by decide +kernel
theorem dX10_matches_36 : decode cX10_matches 36 = .ok (.aload_n 0, 1) := by decide +kernel
theorem dX10_matches_37 : decode cX10_matches 37 = .ok (.getfield 51, 3) := by decide +kernel
theorem dX10_matches_40 : decode cX10_matches 40 = .ok (.aload_n 0, 1) := by decide +kernel
theorem dX10_matches_41 : decode cX10_matches 41 = .ok (.getfield 12, 3) := by decide +kernel
theorem dX10_matches_44 : decode cX10_matches 44 = .ok (.getfield 76, 3) := by decide +kernel
theorem dX10_matches_47 : decode cX10_matches 47 = .ok (.aload_n 0, 1) := by decide +kernel
theorem dX10_matches_48 : decode cX10_matches 48 = .ok (.getfield 12, 3) := by decide +kernel
theorem dX10_matches_51 : decode cX10_matches 51 = .ok (.getfield 119, 3) := by decide +kernel
theorem dX10_matches_54 : decode cX10_matches 54 = .ok (.iload_n 1, 1) := by decide +kernel
theorem dX10_matches_55 : decode cX10_matches 55 = .ok (.aaload, 1) := by decide +kernel
theorem dX10_matches_56 : decode cX10_matches 56 = .ok (.invokevirtual 183, 3) := by decide +kernel
theorem dX10_matches_59 : decode cX10_matches 59 = .ok (.aload_n 0, 1) := by decide +kernel
theorem dX10_matches_60 : decode cX10_matches 60 = .ok (.getfield 72, 3) := by decide +kernel
theorem dX10_matches_63 : decode cX10_matches 63 = .ok (.aload_n 0, 1) := by decide +kernel
theorem dX10_matches_64 : decode cX10_matches 64 = .ok (.getfield 65, 3) := by decide +kernel
theorem dX10_matches_67 : decode cX10_matches 67 = .ok (.aload_n 0, 1) := by decide +kernel
theorem dX10_matches_68 : decode cX10_matches 68 = .ok (.getfield 51, 3) := by decide +kernel
theorem dX10_matches_71 : decode cX10_matches 71 = .ok (.invokevirtual 220, 3) := by decide +kernel
theorem dX10_matches_74 : decode cX10_matches 74 = .ok (.invokestatic 102, 3) := by decide +kernel
theorem dX10_matches_77 : decode cX10_matches 77 = .ok (.ireturn, 1) := by decide +kernel
set_option maxRecDepth 20000 in
theorem ggX10_starConnected_X8_plant : GoodIn wsX10_starConnected wsX8_plant := goodIn_r _ [8, 9, 10, 11, 12, 13, 14, 15, 16, 17, 18, 19, 20, 21, 22, 23, 24, 25, 26, 27, 28, 29, 7, 30, 31, 32, 33, 34, 35, 36, 37, 38, 39, 40, 41, 42, 43, 44, 45, 46, 47, 48, 49, 50, 51, 52, 53, 54, 55, 56, 57, 58, 59, 60, 61, 62, 63, 64, 65, 66, 67, 68, 69, 70, 71, 72, 73, 74, 75, 76, 77, 78, 79, 80, 81, 82, 141, 142, 143, 144, 145, 146, 147, 148, 149, 150, 151, 152, 153] (by decide +kernel) (by decide +kernel)
set_option maxRecDepth 20000 in
theorem gX10_starConnected_X8_plant : GoodIn wsX10_starConnected (wsV RX10 216 RX8 yX8_plant wsX8_plant) := goodIn_app (goodIn_of _ (by decide +kernel)) ggX10_starConnected_X8_plant
set_option maxRecDepth 20000 in
theorem ggX10_starConnected_X8_hasConnectedStars : GoodIn wsX10_starConnected wsX8_hasConnectedStars := goodIn_r _ [86, 9, 14, 13, 87, 88, 15, 89, 90, 91, 92, 93, 94, 95, 96, 97, 98, 99, 100, 101, 102, 103, 104, 105, 106, 7, 107, 79, 80, 81, 82, 108, 109, 110, 111, 112, 113, 114, 115, 116, 117, 118, 119, 120, 141, 142, 143, 144, 145, 146, 147, 148, 149, 150, 151, 139, 140] (by decide +kernel) (by decide +kernel)
set_option maxRecDepth 20000 in
theorem gX10_starConnected_X8_hasConnectedStars : GoodIn wsX10_starConnected (wsV RX10 224 RX8 yX8_hasConnectedStars wsX8_hasConnectedStars) := goodIn_app (goodIn_of _ (by decide +kernel)) ggX10_starConnected_X8_hasConnectedStars
set_option maxRecDepth 20000 in
theorem ggX10_starConnected_X10_toNumber : GoodIn wsX10_starConnected wsX10_toNumber := goodIn_r _ [124] (by decide +kernel) (by decide +kernel)
set_option maxRecDepth 20000 in
theorem gX10_starConnected_X10_toNumber : GoodIn wsX10_starConnected (va_wsS RX10 102 yX10_toNumber wsX10_toNumber) := goodIn_app (goodIn_of _ (by decide +kernel)) ggX10_starConnected_X10_toNumber
theorem dX10_starConnected_0 : decode cX10_starConnected 0 = .ok (.aload_n 0, 1) := by decide +kernel
theorem dX10_starConnected_1 : decode cX10_starConnected 1 = .ok (.getfield 65, 3) := by decide +kernel
theorem dX10_starConnected_4 : decode cX10_starConnected 4 = .ok (.aload_n 0, 1) := by decide +kernel
theorem dX10_starConnected_5 : decode cX10_starConnected 5 = .ok (.getfield 27, 3) := by decide +kernel
theorem dX10_starConnected_8 : decode cX10_starConnected 8 = .ok (.aload_n 0, 1) := by decide +kernel
theorem dX10_starConnected_9 : decode cX10_starConnected 9 = .ok (.getfield 12, 3) := by decide +kernel
theorem dX10_starConnected_12 : decode cX10_starConnected 12 = .ok (.getfield 76, 3) := by decide +kernel
theorem dX10_starConnected_15 : decode cX10_starConnected 15 = .ok (.getfield 80, 3) := by decide +kernel
theorem dX10_starConnected_18 : decode cX10_starConnected 18 = .ok (.invokevirtual 216, 3) := by decide +kernel
theorem dX10_starConnected_21 : decode cX10_starConnected 21 = .ok (.ifCond .ne 6, 3) := by decide +kernel
theorem dX10_starConnected_24 : decode cX10_starConnected 24 = .ok (.bipush (-3), 2) := by decide +kernel
theorem dX10_starConnected_26 : decode cX10_starConnected 26 = .ok (.ireturn, 1) := by decide +kernel
theorem dX10_starConnected_27 : decode cX10_starConnected 27 = .ok (.aload_n 0, 1) := by decide +kernel
theorem dX10_starConnected_28 : decode cX10_starConnected 28 = .ok (.getfield 65, 3) := by decide +kernel
theorem dX10_starConnected_31 : decode cX10_starConnected 31 = .ok (.aload_n 0, 1) := by decide +kernel
theorem dX10_starConnected_32 : decode cX10_starConnected 32 = .ok (.getfield 12, 3) := by decide +kernel
theorem dX10_starConnected_35 : decode cX10_starConnected 35 = .ok (.getfield 76, 3) := by decide +kernel
theorem dX10_starConnected_38 : decode cX10_starConnected 38 = .ok (.invokevirtual 224, 3) := by decide +kernel
theorem dX10_starConnected_41 : decode cX10_starConnected 41 = .ok (.invokestatic 102, 3) := by decide +kernel
theorem dX10_starConnected_44 : decode cX10_starConnected 44 = .ok (.ireturn, 1) := by decide +kernel
set_option maxRecDepth 20000 in
theorem ggX10_shortest_X8_plant : GoodIn wsX10_shortest wsX8_plant := goodIn_r _ [8, 9, 10, 11, 12, 13, 14, 15, 16, 17, 18, 19, 20, 21, 22, 23, 24, 25, 26, 27, 28, 29, 7, 30, 31, 32, 33, 34, 35, 36, 37, 38, 39, 40, 41, 42, 43, 44, 45, 46, 47, 48, 49, 50, 51, 52, 53, 54, 55, 56, 57, 58, 59, 60, 61, 62, 63, 64, 65, 66, 67, 68, 69, 70, 71, 72, 73, 74, 75, 76, 77, 78, 79, 80, 81, 82, 103, 104, 105, 106, 107, 108, 109, 110, 111, 112, 113, 114, 115] (by decide +kernel) (by decide +kernel)
set_option maxRecDepth 20000 in
theorem gX10_shortest_X8_plant : GoodIn wsX10_shortest (wsV RX10 216 RX8 yX8_plant wsX8_plant) := goodIn_app (goodIn_of _ (by decide +kernel)) ggX10_shortest_X8_plant
set_option maxRecDepth 20000 in
theorem ggX10_shortest_X8_leastLength : GoodIn wsX10_shortest wsX8_leastLength := goodIn_r _ [86, 11, 75, 76, 77, 7, 78, 12, 79, 80, 81, 82, 9, 103, 104, 105, 106, 107, 108, 109, 110, 111, 112, 113] (by decide +kernel) (by decide +kernel)
set_option maxRecDepth 20000 in
theorem gX10_shortest_X8_leastLength : GoodIn wsX10_shortest (wsV RX10 228 RX8 yX8_leastLength wsX8_leastLength) := goodIn_app (goodIn_of _ (by decide +kernel)) ggX10_shortest_X8_leastLength
theorem dX10_shortest_0 : decode cX10_shortest 0 = .ok (.aload_n 0, 1) := by decide +kernel
theorem dX10_shortest_1 : decode cX10_shortest 1 = .ok (.getfield 65, 3) := by decide +kernel
theorem dX10_shortest_4 : decode cX10_shortest 4 = .ok (.aload_n 0, 1) := by decide +kernel
theorem dX10_shortest_5 : decode cX10_shortest 5 = .ok (.getfield 27, 3) := by decide +kernel
theorem dX10_shortest_8 : decode cX10_shortest 8 = .ok (.aload_n 0, 1) := by decide +kernel
theorem dX10_shortest_9 : decode cX10_shortest 9 = .ok (.getfield 12, 3) := by decide +kernel
theorem dX10_shortest_12 : decode cX10_shortest 12 = .ok (.getfield 76, 3) := by decide +kernel
theorem dX10_shortest_15 : decode cX10_shortest 15 = .ok (.getfield 80, 3) := by decide +kernel
theorem dX10_shortest_18 : decode cX10_shortest 18 = .ok (.invokevirtual 216, 3) := by decide +kernel
theorem dX10_shortest_21 : decode cX10_shortest 21 = .ok (.ifCond .ne 6, 3) := by decide +kernel
theorem dX10_shortest_24 : decode cX10_shortest 24 = .ok (.bipush (-3), 2) := by decide +kernel
theorem dX10_shortest_26 : decode cX10_shortest 26 = .ok (.ireturn, 1) := by decide +kernel
theorem dX10_shortest_27 : decode cX10_shortest 27 = .ok (.aload_n 0, 1) := by decide +kernel
theorem dX10_shortest_28 : decode cX10_shortest 28 = .ok (.getfield 65, 3) := by decide +kernel
theorem dX10_shortest_31 : decode cX10_shortest 31 = .ok (.invokevirtual 228, 3) := by decide +kernel
theorem dX10_shortest_34 : decode cX10_shortest 34 = .ok (.ireturn, 1) := by decide +kernel
set_option maxRecDepth 20000 in
theorem ggX10_setStates_X5_begin : GoodIn wsX10_setStates wsX5_begin := goodIn_r _ [6, 7, 8, 9, 24, 25, 26, 27] (by decide +kernel) (by decide +kernel)
set_option maxRecDepth 20000 in
theorem gX10_setStates_X5_begin : GoodIn wsX10_setStates (wsV RX10 240 RX5 yX5_begin wsX5_begin) := goodIn_app (goodIn_of _ (by decide +kernel)) ggX10_setStates_X5_begin
theorem dX10_setStates_0 : decode cX10_setStates 0 = .ok (.iload_n 1, 1) := by decide +kernel
theorem dX10_setStates_1 : decode cX10_setStates 1 = .ok (.iconst 1, 1) := by decide +kernel
theorem dX10_setStates_2 : decode cX10_setStates 2 = .ok (.if_icmp .lt 9, 3) := by decide +kernel
theorem dX10_setStates_5 : decode cX10_setStates 5 = .ok (.iload_n 1, 1) := by decide +kernel
theorem dX10_setStates_6 : decode cX10_setStates 6 = .ok (.bipush 6, 2) := by decide +kernel
theorem dX10_setStates_8 : decode cX10_setStates 8 = .ok (.if_icmp .le 6, 3) := by decide +kernel
theorem dX10_setStates_11 : decode cX10_setStates 11 = .ok (.bipush (-2), 2) := by decide +kernel
theorem dX10_setStates_13 : decode cX10_setStates 13 = .ok (.ireturn, 1) := by decide +kernel
theorem dX10_setStates_14 : decode cX10_setStates 14 = .ok (.aload_n 0, 1) := by decide +kernel
theorem dX10_setStates_15 : decode cX10_setStates 15 = .ok (.getfield 12, 3) := by decide +kernel
theorem dX10_setStates_18 : decode cX10_setStates 18 = .ok (.getfield 231, 3) := by decide +kernel
theorem dX10_setStates_21 : decode cX10_setStates 21 = .ok (.getfield 235, 3) := by decide +kernel
theorem dX10_setStates_24 : decode cX10_setStates 24 = .ok (.istore_n 2, 1) := by decide +kernel
theorem dX10_setStates_25 : decode cX10_setStates 25 = .ok (.aload_n 0, 1) := by decide +kernel
theorem dX10_setStates_26 : decode cX10_setStates 26 = .ok (.getfield 12, 3) := by decide +kernel
theorem dX10_setStates_29 : decode cX10_setStates 29 = .ok (.getfield 231, 3) := by decide +kernel
theorem dX10_setStates_32 : decode cX10_setStates 32 = .ok (.iload_n 1, 1) := by decide +kernel
theorem dX10_setStates_33 : decode cX10_setStates 33 = .ok (.invokevirtual 240, 3) := by decide +kernel
theorem dX10_setStates_36 : decode cX10_setStates 36 = .ok (.iload_n 2, 1) := by decide +kernel
theorem dX10_setStates_37 : decode cX10_setStates 37 = .ok (.ireturn, 1) := by decide +kernel
set_option maxRecDepth 20000 in
theorem ggX10_setArrow_X5_has : GoodIn wsX10_setArrow wsX5_has := goodIn_r _ [6, 7, 38, 39, 40, 41] (by decide +kernel) (by decide +kernel)
set_option maxRecDepth 20000 in
theorem gX10_setArrow_X5_has : GoodIn wsX10_setArrow (wsV RX10 241 RX5 yX5_has wsX5_has) := goodIn_app (goodIn_of _ (by decide +kernel)) ggX10_setArrow_X5_has
set_option maxRecDepth 20000 in
theorem ggX10_setArrow_X0_has : GoodIn wsX10_setArrow wsX0_has := goodIn_r _ [12, 13, 42, 43] (by decide +kernel) (by decide +kernel)
set_option maxRecDepth 20000 in
theorem gX10_setArrow_X0_has : GoodIn wsX10_setArrow (wsV RX10 90 RX0 yX0_has wsX0_has) := goodIn_app (goodIn_of _ (by decide +kernel)) ggX10_setArrow_X0_has
set_option maxRecDepth 20000 in
theorem ggX10_setArrow_X5_step : GoodIn wsX10_setArrow wsX5_step := goodIn_r _ [17, 18, 19, 3, 4, 5, 6, 7, 38, 39, 40, 41] (by decide +kernel) (by decide +kernel)
set_option maxRecDepth 20000 in
theorem gX10_setArrow_X5_step : GoodIn wsX10_setArrow (wsV RX10 242 RX5 yX5_step wsX5_step) := goodIn_app (goodIn_of _ (by decide +kernel)) ggX10_setArrow_X5_step
set_option maxRecDepth 20000 in
theorem ggX10_setArrow_X5_lead : GoodIn wsX10_setArrow wsX5_lead := goodIn_r _ [23, 18, 19, 3, 4, 5, 6, 7, 38, 39, 40, 41] (by decide +kernel) (by decide +kernel)
set_option maxRecDepth 20000 in
theorem gX10_setArrow_X5_lead : GoodIn wsX10_setArrow (wsV RX10 246 RX5 yX5_lead wsX5_lead) := goodIn_app (goodIn_of _ (by decide +kernel)) ggX10_setArrow_X5_lead
theorem dX10_setArrow_0 : decode cX10_setArrow 0 = .ok (.aload_n 0, 1) := by decide +kernel
theorem dX10_setArrow_1 : decode cX10_setArrow 1 = .ok (.getfield 12, 3) := by decide +kernel
theorem dX10_setArrow_4 : decode cX10_setArrow 4 = .ok (.getfield 231, 3) := by decide +kernel
theorem dX10_setArrow_7 : decode cX10_setArrow 7 = .ok (.astore 4, 2) := by decide +kernel
theorem dX10_setArrow_9 : decode cX10_setArrow 9 = .ok (.aload 4, 2) := by decide +kernel
theorem dX10_setArrow_11 : decode cX10_setArrow 11 = .ok (.iload_n 1, 1) := by decide +kernel
theorem dX10_setArrow_12 : decode cX10_setArrow 12 = .ok (.invokevirtual 241, 3) := by decide +kernel
theorem dX10_setArrow_15 : decode cX10_setArrow 15 = .ok (.ifCond .eq 26, 3) := by decide +kernel
theorem dX10_setArrow_18 : decode cX10_setArrow 18 = .ok (.aload_n 0, 1) := by decide +kernel
theorem dX10_setArrow_19 : decode cX10_setArrow 19 = .ok (.getfield 12, 3) := by decide +kernel
theorem dX10_setArrow_22 : decode cX10_setArrow 22 = .ok (.getfield 76, 3) := by decide +kernel
theorem dX10_setArrow_25 : decode cX10_setArrow 25 = .ok (.iload_n 2, 1) := by decide +kernel
theorem dX10_setArrow_26 : decode cX10_setArrow 26 = .ok (.invokevirtual 90, 3) := by decide +kernel
theorem dX10_setArrow_29 : decode cX10_setArrow 29 = .ok (.ifCond .eq 12, 3) := by decide +kernel
theorem dX10_setArrow_32 : decode cX10_setArrow 32 = .ok (.aload 4, 2) := by decide +kernel
theorem dX10_setArrow_34 : decode cX10_setArrow 34 = .ok (.iload_n 3, 1) := by decide +kernel
theorem dX10_setArrow_35 : decode cX10_setArrow 35 = .ok (.invokevirtual 241, 3) := by decide +kernel
theorem dX10_setArrow_38 : decode cX10_setArrow 38 = .ok (.ifCond .ne 5, 3) := by decide +kernel
theorem dX10_setArrow_41 : decode cX10_setArrow 41 = .ok (.iconst (-1), 1) := by decide +kernel
theorem dX10_setArrow_42 : decode cX10_setArrow 42 = .ok (.ireturn, 1) := by decide +kernel
theorem dX10_setArrow_43 : decode cX10_setArrow 43 = .ok (.aload 4, 2) := by decide +kernel
theorem dX10_setArrow_45 : decode cX10_setArrow 45 = .ok (.iload_n 1, 1) := by decide +kernel
theorem dX10_setArrow_46 : decode cX10_setArrow 46 = .ok (.iload_n 2, 1) := by decide +kernel
theorem dX10_setArrow_47 : decode cX10_setArrow 47 = .ok (.invokevirtual 242, 3) := by decide +kernel
theorem dX10_setArrow_50 : decode cX10_setArrow 50 = .ok (.istore 5, 2) := by decide +kernel
theorem dX10_setArrow_52 : decode cX10_setArrow 52 = .ok (.aload 4, 2) := by decide +kernel
theorem dX10_setArrow_54 : decode cX10_setArrow 54 = .ok (.iload_n 1, 1) := by decide +kernel
theorem dX10_setArrow_55 : decode cX10_setArrow 55 = .ok (.iload_n 2, 1) := by decide +kernel
theorem dX10_setArrow_56 : decode cX10_setArrow 56 = .ok (.iload_n 3, 1) := by decide +kernel
theorem dX10_setArrow_57 : decode cX10_setArrow 57 = .ok (.invokevirtual 246, 3) := by decide +kernel
theorem dX10_setArrow_60 : decode cX10_setArrow 60 = .ok (.iload 5, 2) := by decide +kernel
theorem dX10_setArrow_62 : decode cX10_setArrow 62 = .ok (.ireturn, 1) := by decide +kernel
set_option maxRecDepth 20000 in
theorem ggX10_setAccepting_X5_has : GoodIn wsX10_setAccepting wsX5_has := goodIn_r _ [6, 7, 36, 37, 38, 39] (by decide +kernel) (by decide +kernel)
set_option maxRecDepth 20000 in
theorem gX10_setAccepting_X5_has : GoodIn wsX10_setAccepting (wsV RX10 241 RX5 yX5_has wsX5_has) := goodIn_app (goodIn_of _ (by decide +kernel)) ggX10_setAccepting_X5_has
set_option maxRecDepth 20000 in
theorem ggX10_setAccepting_X5_accepts : GoodIn wsX10_setAccepting wsX5_accepts := goodIn_r _ [11, 12, 13, 3, 4, 5, 6, 7, 36, 37, 38, 39] (by decide +kernel) (by decide +kernel)
set_option maxRecDepth 20000 in
theorem gX10_setAccepting_X5_accepts : GoodIn wsX10_setAccepting (wsV RX10 250 RX5 yX5_accepts wsX5_accepts) := goodIn_app (goodIn_of _ (by decide +kernel)) ggX10_setAccepting_X5_accepts
set_option maxRecDepth 20000 in
theorem ggX10_setAccepting_X5_mark : GoodIn wsX10_setAccepting wsX5_mark := goodIn_r _ [17, 12, 13, 3, 4, 5, 6, 7, 36, 37, 38, 39] (by decide +kernel) (by decide +kernel)
set_option maxRecDepth 20000 in
theorem gX10_setAccepting_X5_mark : GoodIn wsX10_setAccepting (wsV RX10 253 RX5 yX5_mark wsX5_mark) := goodIn_app (goodIn_of _ (by decide +kernel)) ggX10_setAccepting_X5_mark
set_option maxRecDepth 20000 in
theorem ggX10_setAccepting_X10_toNumber : GoodIn wsX10_setAccepting wsX10_toNumber := goodIn_r _ [21] (by decide +kernel) (by decide +kernel)
set_option maxRecDepth 20000 in
theorem gX10_setAccepting_X10_toNumber : GoodIn wsX10_setAccepting (va_wsS RX10 102 yX10_toNumber wsX10_toNumber) := goodIn_app (goodIn_of _ (by decide +kernel)) ggX10_setAccepting_X10_toNumber
theorem dX10_setAccepting_0 : decode cX10_setAccepting 0 = .ok (.aload_n 0, 1) := by decide +kernel
theorem dX10_setAccepting_1 : decode cX10_setAccepting 1 = .ok (.getfield 12, 3) := by decide +kernel
theorem dX10_setAccepting_4 : decode cX10_setAccepting 4 = .ok (.getfield 231, 3) := by decide +kernel
theorem dX10_setAccepting_7 : decode cX10_setAccepting 7 = .ok (.iload_n 1, 1) := by decide +kernel
theorem dX10_setAccepting_8 : decode cX10_setAccepting 8 = .ok (.invokevirtual 241, 3) := by decide +kernel
theorem dX10_setAccepting_11 : decode cX10_setAccepting 11 = .ok (.ifCond .ne 5, 3) := by decide +kernel
theorem dX10_setAccepting_14 : decode cX10_setAccepting 14 = .ok (.iconst (-1), 1) := by decide +kernel
theorem dX10_setAccepting_15 : decode cX10_setAccepting 15 = .ok (.ireturn, 1) := by decide +kernel
theorem dX10_setAccepting_16 : decode cX10_setAccepting 16 = .ok (.aload_n 0, 1) := by decide +kernel
theorem dX10_setAccepting_17 : decode cX10_setAccepting 17 = .ok (.getfield 12, 3) := by decide +kernel
theorem dX10_setAccepting_20 : decode cX10_setAccepting 20 = .ok (.getfield 231, 3) := by decide +kernel
theorem dX10_setAccepting_23 : decode cX10_setAccepting 23 = .ok (.iload_n 1, 1) := by decide +kernel
theorem dX10_setAccepting_24 : decode cX10_setAccepting 24 = .ok (.invokevirtual 250, 3) := by decide +kernel
theorem dX10_setAccepting_27 : decode cX10_setAccepting 27 = .ok (.istore_n 3, 1) := by decide +kernel
theorem dX10_setAccepting_28 : decode cX10_setAccepting 28 = .ok (.aload_n 0, 1) := by decide +kernel
theorem dX10_setAccepting_29 : decode cX10_setAccepting 29 = .ok (.getfield 12, 3) := by decide +kernel
theorem dX10_setAccepting_32 : decode cX10_setAccepting 32 = .ok (.getfield 231, 3) := by decide +kernel
theorem dX10_setAccepting_35 : decode cX10_setAccepting 35 = .ok (.iload_n 1, 1) := by decide +kernel
theorem dX10_setAccepting_36 : decode cX10_setAccepting 36 = .ok (.iload_n 2, 1) := by decide +kernel
theorem dX10_setAccepting_37 : decode cX10_setAccepting 37 = .ok (.invokevirtual 253, 3) := by decide +kernel
theorem dX10_setAccepting_40 : decode cX10_setAccepting 40 = .ok (.iload_n 3, 1) := by decide +kernel
theorem dX10_setAccepting_41 : decode cX10_setAccepting 41 = .ok (.invokestatic 102, 3) := by decide +kernel
theorem dX10_setAccepting_44 : decode cX10_setAccepting 44 = .ok (.ireturn, 1) := by decide +kernel
set_option maxRecDepth 20000 in
theorem ggX10_acceptedAlike_X10_isWord : GoodIn wsX10_acceptedAlike wsX10_isWord := goodIn_r _ [7] (by decide +kernel) (by decide +kernel)
set_option maxRecDepth 20000 in
theorem gX10_acceptedAlike_X10_isWord : GoodIn wsX10_acceptedAlike (va_wsS RX10 116 yX10_isWord wsX10_isWord) := goodIn_app (goodIn_of _ (by decide +kernel)) ggX10_acceptedAlike_X10_isWord
set_option maxRecDepth 20000 in
theorem ggX10_acceptedAlike_X10_countAlike : GoodIn wsX10_acceptedAlike wsX10_countAlike := goodIn_r _ [11, 12, 2, 3, 13, 14, 15, 16, 17, 18, 19, 20, 21, 22, 23, 24, 25, 26, 27, 28, 29, 30, 31, 32, 33, 34, 35, 36, 37, 38, 39, 40, 41, 42, 43, 44, 45, 46, 47, 48, 49, 50, 51, 52, 53, 54, 55, 56, 57, 58, 59, 60, 61, 62, 63, 64, 65, 66, 67, 68, 69, 70, 71, 72, 73, 74, 75, 76, 77, 78, 79, 80, 81, 82, 83, 84, 85, 86, 87, 88, 89, 90, 91, 92, 93, 94, 95, 96, 97, 98, 99, 100, 101, 102, 103, 104, 105, 106, 107, 108, 109, 110, 111, 112, 113, 114, 115, 116, 117, 118, 119, 120, 130, 131, 132, 133, 134, 135, 136, 137, 138, 139, 140, 141, 142, 143, 144, 145, 146, 147, 148, 149, 150, 151, 152, 153, 154, 155, 156, 157, 158, 159, 160, 161, 162, 163, 164, 165] (by decide +kernel) (by decide +kernel)
set_option maxRecDepth 20000 in
theorem gX10_acceptedAlike_X10_countAlike : GoodIn wsX10_acceptedAlike (wsV RX10 155 RX10 yX10_countAlike wsX10_countAlike) := goodIn_app (goodIn_of _ (by decide +kernel)) ggX10_acceptedAlike_X10_countAlike
set_option maxRecDepth 20000 in
theorem ggX10_acceptedAlike_X1_countAccepted : GoodIn wsX10_acceptedAlike wsX1_countAccepted := goodIn_r _ [124, 85, 125, 126, 127, 113, 128, 129, 116, 117, 118, 119, 120, 106, 107, 108, 82, 109, 84, 160, 161, 162, 163, 164, 165] (by decide +kernel) (by decide +kernel)
set_option maxRecDepth 20000 in
theorem gX10_acceptedAlike_X1_countAccepted : GoodIn wsX10_acceptedAlike (wsV RX10 257 RX1 yX1_countAccepted wsX1_countAccepted) := goodIn_app (goodIn_of _ (by decide +kernel)) ggX10_acceptedAlike_X1_countAccepted
theorem dX10_acceptedAlike_0 : decode cX10_acceptedAlike 0 = .ok (.iload_n 1, 1) := by decide +kernel
theorem dX10_acceptedAlike_1 : decode cX10_acceptedAlike 1 = .ok (.invokestatic 116, 3) := by decide +kernel
theorem dX10_acceptedAlike_4 : decode cX10_acceptedAlike 4 = .ok (.ifCond .ne 7, 3) := by decide +kernel
theorem dX10_acceptedAlike_7 : decode cX10_acceptedAlike 7 = .ok (.ldc2_w 153, 3) := by decide +kernel
theorem dX10_acceptedAlike_10 : decode cX10_acceptedAlike 10 = .ok (.lreturn, 1) := by decide +kernel
theorem dX10_acceptedAlike_11 : decode cX10_acceptedAlike 11 = .ok (.aload_n 0, 1) := by decide +kernel
theorem dX10_acceptedAlike_12 : decode cX10_acceptedAlike 12 = .ok (.aload_n 0, 1) := by decide +kernel
theorem dX10_acceptedAlike_13 : decode cX10_acceptedAlike 13 = .ok (.getfield 12, 3) := by decide +kernel
theorem dX10_acceptedAlike_16 : decode cX10_acceptedAlike 16 = .ok (.getfield 119, 3) := by decide +kernel
theorem dX10_acceptedAlike_19 : decode cX10_acceptedAlike 19 = .ok (.iload_n 1, 1) := by decide +kernel
theorem dX10_acceptedAlike_20 : decode cX10_acceptedAlike 20 = .ok (.aaload, 1) := by decide +kernel
theorem dX10_acceptedAlike_21 : decode cX10_acceptedAlike 21 = .ok (.invokevirtual 155, 3) := by decide +kernel
theorem dX10_acceptedAlike_24 : decode cX10_acceptedAlike 24 = .ok (.aload_n 0, 1) := by decide +kernel
theorem dX10_acceptedAlike_25 : decode cX10_acceptedAlike 25 = .ok (.getfield 58, 3) := by decide +kernel
theorem dX10_acceptedAlike_28 : decode cX10_acceptedAlike 28 = .ok (.aload_n 0, 1) := by decide +kernel
theorem dX10_acceptedAlike_29 : decode cX10_acceptedAlike 29 = .ok (.getfield 12, 3) := by decide +kernel
theorem dX10_acceptedAlike_32 : decode cX10_acceptedAlike 32 = .ok (.getfield 231, 3) := by decide +kernel
theorem dX10_acceptedAlike_35 : decode cX10_acceptedAlike 35 = .ok (.invokevirtual 257, 3) := by decide +kernel
theorem dX10_acceptedAlike_38 : decode cX10_acceptedAlike 38 = .ok (.lreturn, 1) := by decide +kernel
set_option maxRecDepth 20000 in
theorem ggX10_brokenDiamond_X5_findBroken : GoodIn wsX10_brokenDiamond wsX5_findBroken := goodIn_r _ [6, 7, 8, 9, 10, 11, 12, 13, 14, 15, 16, 17, 18, 19, 20, 21, 22, 23, 24, 25, 5, 26, 27, 28, 29, 30, 31, 32, 33, 34, 35, 50, 51, 52, 53, 54, 55] (by decide +kernel) (by decide +kernel)
set_option maxRecDepth 20000 in
theorem gX10_brokenDiamond_X5_findBroken : GoodIn wsX10_brokenDiamond (wsV RX10 261 RX5 yX5_findBroken wsX5_findBroken) := goodIn_app (goodIn_of _ (by decide +kernel)) ggX10_brokenDiamond_X5_findBroken
theorem dX10_brokenDiamond_0 : decode cX10_brokenDiamond 0 = .ok (.aload_n 0, 1) := by decide +kernel
theorem dX10_brokenDiamond_1 : decode cX10_brokenDiamond 1 = .ok (.getfield 12, 3) := by decide +kernel
theorem dX10_brokenDiamond_4 : decode cX10_brokenDiamond 4 = .ok (.getfield 231, 3) := by decide +kernel
theorem dX10_brokenDiamond_7 : decode cX10_brokenDiamond 7 = .ok (.aload_n 0, 1) := by decide +kernel
theorem dX10_brokenDiamond_8 : decode cX10_brokenDiamond 8 = .ok (.getfield 12, 3) := by decide +kernel
theorem dX10_brokenDiamond_11 : decode cX10_brokenDiamond 11 = .ok (.getfield 76, 3) := by decide +kernel
theorem dX10_brokenDiamond_14 : decode cX10_brokenDiamond 14 = .ok (.invokevirtual 261, 3) := by decide +kernel
theorem dX10_brokenDiamond_17 : decode cX10_brokenDiamond 17 = .ok (.ireturn, 1) := by decide +kernel
set_option maxRecDepth 20000 in
theorem ggX10_closed_X5_isClosed : GoodIn wsX10_closed wsX5_isClosed := goodIn_r _ [6, 7, 8, 9, 10, 5, 11, 12, 13, 14, 15, 16, 17, 18, 19, 20, 21, 22, 23, 24, 25, 26, 27, 28, 29, 30, 31, 32, 33, 34, 35, 36, 37, 38, 39, 40, 41, 42, 43, 44, 45, 46, 47, 48, 49, 50, 51, 52, 53, 54, 55, 56, 57, 58, 59, 60, 61, 80, 81, 82, 83, 84, 85] (by decide +kernel) (by decide +kernel)
set_option maxRecDepth 20000 in
theorem gX10_closed_X5_isClosed : GoodIn wsX10_closed (wsV RX10 265 RX5 yX5_isClosed wsX5_isClosed) := goodIn_app (goodIn_of _ (by decide +kernel)) ggX10_closed_X5_isClosed
set_option maxRecDepth 20000 in
theorem ggX10_closed_X10_toNumber : GoodIn wsX10_closed wsX10_toNumber := goodIn_r _ [65] (by decide +kernel) (by decide +kernel)
set_option maxRecDepth 20000 in
theorem gX10_closed_X10_toNumber : GoodIn wsX10_closed (va_wsS RX10 102 yX10_toNumber wsX10_toNumber) := goodIn_app (goodIn_of _ (by decide +kernel)) ggX10_closed_X10_toNumber
theorem dX10_closed_0 : decode cX10_closed 0 = .ok (.aload_n 0, 1) := by decide +kernel
theorem dX10_closed_1 : decode cX10_closed 1 = .ok (.getfield 12, 3) := by decide +kernel
theorem dX10_closed_4 : decode cX10_closed 4 = .ok (.getfield 231, 3) := by decide +kernel
theorem dX10_closed_7 : decode cX10_closed 7 = .ok (.aload_n 0, 1) := by decide +kernel
theorem dX10_closed_8 : decode cX10_closed 8 = .ok (.getfield 12, 3) := by decide +kernel
theorem dX10_closed_11 : decode cX10_closed 11 = .ok (.getfield 76, 3) := by decide +kernel
theorem dX10_closed_14 : decode cX10_closed 14 = .ok (.invokevirtual 265, 3) := by decide +kernel
theorem dX10_closed_17 : decode cX10_closed 17 = .ok (.invokestatic 102, 3) := by decide +kernel
theorem dX10_closed_20 : decode cX10_closed 20 = .ok (.ireturn, 1) := by decide +kernel
set_option maxRecDepth 20000 in
theorem ggX10_save_X10_isSlot : GoodIn wsX10_save wsX10_isSlot := goodIn_r _ [7] (by decide +kernel) (by decide +kernel)
set_option maxRecDepth 20000 in
theorem gX10_save_X10_isSlot : GoodIn wsX10_save (va_wsS RX10 268 yX10_isSlot wsX10_isSlot) := goodIn_app (goodIn_of _ (by decide +kernel)) ggX10_save_X10_isSlot
set_option maxRecDepth 20000 in
theorem ggX10_save_X6_become : GoodIn wsX10_save wsX6_become := goodIn_r _ [12, 13, 14, 15, 16, 17, 18, 19, 20, 21, 22, 23, 24, 25, 26, 27, 28, 29, 30, 31, 32, 33, 34, 35, 36, 37, 49, 50, 51, 52, 53, 54, 55, 56, 57, 58, 59] (by decide +kernel) (by decide +kernel)
set_option maxRecDepth 20000 in
theorem gX10_save_X6_become : GoodIn wsX10_save (wsV RX10 271 RX6 yX6_become wsX6_become) := goodIn_app (goodIn_of _ (by decide +kernel)) ggX10_save_X6_become
theorem dX10_save_0 : decode cX10_save 0 = .ok (.iload_n 1, 1) := by decide +kernel
theorem dX10_save_1 : decode cX10_save 1 = .ok (.invokestatic 268, 3) := by decide +kernel
theorem dX10_save_4 : decode cX10_save 4 = .ok (.ifCond .ne 5, 3) := by decide +kernel
theorem dX10_save_7 : decode cX10_save 7 = .ok (.iconst (-1), 1) := by decide +kernel
theorem dX10_save_8 : decode cX10_save 8 = .ok (.ireturn, 1) := by decide +kernel
theorem dX10_save_9 : decode cX10_save 9 = .ok (.aload_n 0, 1) := by decide +kernel
theorem dX10_save_10 : decode cX10_save 10 = .ok (.getfield 16, 3) := by decide +kernel
theorem dX10_save_13 : decode cX10_save 13 = .ok (.iload_n 1, 1) := by decide +kernel
theorem dX10_save_14 : decode cX10_save 14 = .ok (.aaload, 1) := by decide +kernel
theorem dX10_save_15 : decode cX10_save 15 = .ok (.aload_n 0, 1) := by decide +kernel
theorem dX10_save_16 : decode cX10_save 16 = .ok (.getfield 12, 3) := by decide +kernel
theorem dX10_save_19 : decode cX10_save 19 = .ok (.invokevirtual 271, 3) := by decide +kernel
theorem dX10_save_22 : decode cX10_save 22 = .ok (.aload_n 0, 1) := by decide +kernel
theorem dX10_save_23 : decode cX10_save 23 = .ok (.getfield 20, 3) := by decide +kernel
theorem dX10_save_26 : decode cX10_save 26 = .ok (.iload_n 1, 1) := by decide +kernel
theorem dX10_save_27 : decode cX10_save 27 = .ok (.iconst 1, 1) := by decide +kernel
theorem dX10_save_28 : decode cX10_save 28 = .ok (.bastore, 1) := by decide +kernel
theorem dX10_save_29 : decode cX10_save 29 = .ok (.aload_n 0, 1) := by decide +kernel
theorem dX10_save_30 : decode cX10_save 30 = .ok (.getfield 12, 3) := by decide +kernel
theorem dX10_save_33 : decode cX10_save 33 = .ok (.getfield 76, 3) := by decide +kernel
theorem dX10_save_36 : decode cX10_save 36 = .ok (.getfield 80, 3) := by decide +kernel
theorem dX10_save_39 : decode cX10_save 39 = .ok (.ireturn, 1) := by decide +kernel
set_option maxRecDepth 20000 in
theorem ggX10_restore_X10_isSlot : GoodIn wsX10_restore wsX10_isSlot := goodIn_r _ [7] (by decide +kernel) (by decide +kernel)
set_option maxRecDepth 20000 in
theorem gX10_restore_X10_isSlot : GoodIn wsX10_restore (va_wsS RX10 268 yX10_isSlot wsX10_isSlot) := goodIn_app (goodIn_of _ (by decide +kernel)) ggX10_restore_X10_isSlot
set_option maxRecDepth 20000 in
theorem ggX10_restore_X6_become : GoodIn wsX10_restore wsX6_become := goodIn_r _ [12, 13, 14, 15, 16, 17, 18, 19, 20, 21, 22, 23, 24, 25, 26, 27, 28, 29, 30, 31, 32, 33, 34, 35, 36, 37, 49, 50, 51, 52, 53, 54, 55, 56, 57, 58, 59] (by decide +kernel) (by decide +kernel)
set_option maxRecDepth 20000 in
theorem gX10_restore_X6_become : GoodIn wsX10_restore (wsV RX10 271 RX6 yX6_become wsX6_become) := goodIn_app (goodIn_of _ (by decide +kernel)) ggX10_restore_X6_become
theorem dX10_restore_0 : decode cX10_restore 0 = .ok (.iload_n 1, 1) := by decide +kernel
theorem dX10_restore_1 : decode cX10_restore 1 = .ok (.invokestatic 268, 3) := by decide +kernel
theorem dX10_restore_4 : decode cX10_restore 4 = .ok (.ifCond .ne 5, 3) := by decide +kernel
theorem dX10_restore_7 : decode cX10_restore 7 = .ok (.iconst (-1), 1) := by decide +kernel
theorem dX10_restore_8 : decode cX10_restore 8 = .ok (.ireturn, 1) := by decide +kernel
theorem dX10_restore_9 : decode cX10_restore 9 = .ok (.aload_n 0, 1) := by decide +kernel
theorem dX10_restore_10 : decode cX10_restore 10 = .ok (.getfield 20, 3) := by decide +kernel
theorem dX10_restore_13 : decode cX10_restore 13 = .ok (.iload_n 1, 1) := by decide +kernel
theorem dX10_restore_14 : decode cX10_restore 14 = .ok (.baload, 1) := by decide +kernel
theorem dX10_restore_15 : decode cX10_restore 15 = .ok (.ifCond .ne 6, 3) := by decide +kernel
theorem dX10_restore_18 : decode cX10_restore 18 = .ok (.bipush (-3), 2) := by decide +kernel
theorem dX10_restore_20 : decode cX10_restore 20 = .ok (.ireturn, 1) := by decide +kernel
theorem dX10_restore_21 : decode cX10_restore 21 = .ok (.aload_n 0, 1) := by decide +kernel
theorem dX10_restore_22 : decode cX10_restore 22 = .ok (.getfield 12, 3) := by decide +kernel
theorem dX10_restore_25 : decode cX10_restore 25 = .ok (.aload_n 0, 1) := by decide +kernel
theorem dX10_restore_26 : decode cX10_restore 26 = .ok (.getfield 16, 3) := by decide +kernel
theorem dX10_restore_29 : decode cX10_restore 29 = .ok (.iload_n 1, 1) := by decide +kernel
theorem dX10_restore_30 : decode cX10_restore 30 = .ok (.aaload, 1) := by decide +kernel
theorem dX10_restore_31 : decode cX10_restore 31 = .ok (.invokevirtual 271, 3) := by decide +kernel
theorem dX10_restore_34 : decode cX10_restore 34 = .ok (.aload_n 0, 1) := by decide +kernel
theorem dX10_restore_35 : decode cX10_restore 35 = .ok (.getfield 12, 3) := by decide +kernel
theorem dX10_restore_38 : decode cX10_restore 38 = .ok (.getfield 76, 3) := by decide +kernel
theorem dX10_restore_41 : decode cX10_restore 41 = .ok (.getfield 80, 3) := by decide +kernel
theorem dX10_restore_44 : decode cX10_restore 44 = .ok (.ireturn, 1) := by decide +kernel
set_option maxRecDepth 20000 in
theorem ggX10_checksum_X10_mix : GoodIn wsX10_checksum wsX10_mix := goodIn_r _ [6, 7] (by decide +kernel) (by decide +kernel)
set_option maxRecDepth 20000 in
theorem gX10_checksum_X10_mix : GoodIn wsX10_checksum (va_wsS RX10 277 yX10_mix wsX10_mix) := goodIn_app (goodIn_of _ (by decide +kernel)) ggX10_checksum_X10_mix
set_option maxRecDepth 20000 in
theorem ggX10_checksum_X0_freeOf : GoodIn wsX10_checksum wsX0_freeOf := goodIn_r _ [12, 13, 244, 245] (by decide +kernel) (by decide +kernel)
set_option maxRecDepth 20000 in
theorem gX10_checksum_X0_freeOf : GoodIn wsX10_checksum (wsV RX10 106 RX0 yX0_freeOf wsX0_freeOf) := goodIn_app (goodIn_of _ (by decide +kernel)) ggX10_checksum_X0_freeOf
set_option maxRecDepth 20000 in
theorem ggX10_checksum_X10_mixWord : GoodIn wsX10_checksum wsX10_mixWord := goodIn_r _ [17, 18, 1, 19, 20, 3, 4, 5, 6, 7, 21, 22, 23, 24, 25, 26, 27, 28, 29, 30, 31, 32, 33, 34, 35, 36, 37, 38, 39, 40, 41, 42, 43, 44, 45, 46, 47, 48, 49, 50, 51, 52, 53, 54, 11, 55, 56, 57, 9, 10, 12, 13, 58, 59, 60, 61, 62, 63, 64, 65, 66, 67, 68, 69, 70, 71, 72, 73, 74, 75, 76, 77, 78, 79, 80, 81, 82, 83, 84, 85, 86, 87, 88, 89, 90, 91, 92, 93, 94, 95, 96, 97, 98, 99, 100, 101, 102, 103, 104, 105, 106, 107, 108, 109, 110, 111, 112, 113, 114, 115, 116, 117, 118, 119, 120, 121, 122, 123, 124, 125, 126, 127, 128, 129, 130, 131, 132, 133, 134, 135, 136, 137, 138, 139, 140, 141, 142, 143, 144, 145, 146, 147, 148, 149, 150, 151, 152, 153, 154, 155, 156, 157, 158, 159, 160, 161, 162, 163, 164, 165, 166, 167, 168, 169, 170, 171, 172, 173, 174, 175, 176, 177, 178, 179, 180, 181, 182, 183, 184, 185, 186, 187, 188, 189, 246, 247, 230, 231, 232, 233, 234, 235, 236, 237, 238, 239, 240, 241, 242, 243, 244, 245, 248, 249, 250, 251, 252, 253, 254, 255, 256, 257, 258, 259, 260, 261, 262, 263, 264, 265] (by decide +kernel) (by decide +kernel)
set_option maxRecDepth 20000 in
theorem gX10_checksum_X10_mixWord : GoodIn wsX10_checksum (wsV RX10 281 RX10 yX10_mixWord wsX10_mixWord) := goodIn_app (goodIn_of _ (by decide +kernel)) ggX10_checksum_X10_mixWord
set_option maxRecDepth 20000 in
theorem ggX10_checksum_X5_findBroken : GoodIn wsX10_checksum wsX5_findBroken := goodIn_r _ [193, 163, 194, 195, 196, 11, 197, 198, 53, 54, 55, 56, 177, 9, 10, 12, 13, 199, 200, 201, 156, 202, 203, 154, 155, 157, 158, 159, 160, 161, 162, 262, 263, 264, 265, 244, 245] (by decide +kernel) (by decide +kernel)
set_option maxRecDepth 20000 in
theorem gX10_checksum_X5_findBroken : GoodIn wsX10_checksum (wsV RX10 261 RX5 yX5_findBroken wsX5_findBroken) := goodIn_app (goodIn_of _ (by decide +kernel)) ggX10_checksum_X5_findBroken
set_option maxRecDepth 20000 in
theorem ggX10_checksum_X5_isClosed : GoodIn wsX10_checksum wsX5_isClosed := goodIn_r _ [207, 163, 208, 209, 210, 156, 211, 203, 154, 155, 157, 158, 159, 160, 161, 162, 212, 213, 214, 215, 216, 189, 217, 186, 187, 188, 218, 219, 220, 221, 222, 223, 224, 225, 226, 227, 228, 229, 194, 195, 196, 11, 197, 198, 53, 54, 55, 56, 177, 9, 10, 12, 13, 199, 200, 201, 202, 244, 245, 262, 263, 264, 265] (by decide +kernel) (by decide +kernel)
set_option maxRecDepth 20000 in
theorem gX10_checksum_X5_isClosed : GoodIn wsX10_checksum (wsV RX10 265 RX5 yX5_isClosed wsX5_isClosed) := goodIn_app (goodIn_of _ (by decide +kernel)) ggX10_checksum_X5_isClosed
set_option maxRecDepth 20000 in
theorem ggX10_checksum_X10_toNumber : GoodIn wsX10_checksum wsX10_toNumber := goodIn_r _ [180] (by decide +kernel) (by decide +kernel)
set_option maxRecDepth 20000 in
theorem gX10_checksum_X10_toNumber : GoodIn wsX10_checksum (va_wsS RX10 102 yX10_toNumber wsX10_toNumber) := goodIn_app (goodIn_of _ (by decide +kernel)) ggX10_checksum_X10_toNumber
theorem dX10_checksum_0 : decode cX10_checksum 0 = .ok (.aload_n 0, 1) := by decide +kernel
theorem dX10_checksum_1 : decode cX10_checksum 1 = .ok (.getfield 12, 3) := by decide +kernel
theorem dX10_checksum_4 : decode cX10_checksum 4 = .ok (.getfield 76, 3) := by decide +kernel
theorem dX10_checksum_7 : decode cX10_checksum 7 = .ok (.astore_n 1, 1) := by decide +kernel
theorem dX10_checksum_8 : decode cX10_checksum 8 = .ok (.ldc2_w 275, 3) := by decide +kernel
theorem dX10_checksum_11 : decode cX10_checksum 11 = .ok (.aload_n 1, 1) := by decide +kernel
theorem dX10_checksum_12 : decode cX10_checksum 12 = .ok (.getfield 80, 3) := by decide +kernel
theorem dX10_checksum_15 : decode cX10_checksum 15 = .ok (.i2l, 1) := by decide +kernel
theorem dX10_checksum_16 : decode cX10_checksum 16 = .ok (.invokestatic 277, 3) := by decide +kernel
theorem dX10_checksum_19 : decode cX10_checksum 19 = .ok (.lstore_n 2, 1) := by decide +kernel
theorem dX10_checksum_20 : decode cX10_checksum 20 = .ok (.iconst 0, 1) := by decide +kernel
theorem dX10_checksum_21 : decode cX10_checksum 21 = .ok (.istore 4, 2) := by decide +kernel
theorem dX10_checksum_23 : decode cX10_checksum 23 = .ok (.iload 4, 2) := by decide +kernel
theorem dX10_checksum_25 : decode cX10_checksum 25 = .ok (.aload_n 1, 1) := by decide +kernel
theorem dX10_checksum_26 : decode cX10_checksum 26 = .ok (.getfield 80, 3) := by decide +kernel
theorem dX10_checksum_29 : decode cX10_checksum 29 = .ok (.if_icmp .ge 21, 3) := by decide +kernel
theorem dX10_checksum_32 : decode cX10_checksum 32 = .ok (.lload_n 2, 1) := by decide +kernel
theorem dX10_checksum_33 : decode cX10_checksum 33 = .ok (.aload_n 1, 1) := by decide +kernel
theorem dX10_checksum_34 : decode cX10_checksum 34 = .ok (.iload 4, 2) := by decide +kernel
theorem dX10_checksum_36 : decode cX10_checksum 36 = .ok (.invokevirtual 106, 3) := by decide +kernel
theorem dX10_checksum_39 : decode cX10_checksum 39 = .ok (.i2l, 1) := by decide +kernel
theorem dX10_checksum_40 : decode cX10_checksum 40 = .ok (.invokestatic 277, 3) := by decide +kernel
theorem dX10_checksum_43 : decode cX10_checksum 43 = .ok (.lstore_n 2, 1) := by decide +kernel
theorem dX10_checksum_44 : decode cX10_checksum 44 = .ok (.iinc 4 1, 3) := by decide +kernel
theorem dX10_checksum_47 : decode cX10_checksum 47 = .ok (.goto (-24), 3) := by decide +kernel
theorem dX10_checksum_50 : decode cX10_checksum 50 = .ok (.iconst 0, 1) := by decide +kernel
theorem dX10_checksum_51 : decode cX10_checksum 51 = .ok (.istore 4, 2) := by decide +kernel
theorem dX10_checksum_53 : decode cX10_checksum 53 = .ok (.iload 4, 2) := by decide +kernel
theorem dX10_checksum_55 : decode cX10_checksum 55 = .ok (.bipush 6, 2) := by decide +kernel
theorem dX10_checksum_57 : decode cX10_checksum 57 = .ok (.if_icmp .ge 25, 3) := by decide +kernel
theorem dX10_checksum_60 : decode cX10_checksum 60 = .ok (.aload_n 0, 1) := by decide +kernel
theorem dX10_checksum_61 : decode cX10_checksum 61 = .ok (.lload_n 2, 1) := by decide +kernel
theorem dX10_checksum_62 : decode cX10_checksum 62 = .ok (.aload_n 0, 1) := by decide +kernel
theorem dX10_checksum_63 : decode cX10_checksum 63 = .ok (.getfield 12, 3) := by decide +kernel
theorem dX10_checksum_66 : decode cX10_checksum 66 = .ok (.getfield 119, 3) := by decide +kernel
theorem dX10_checksum_69 : decode cX10_checksum 69 = .ok (.iload 4, 2) := by decide +kernel
theorem dX10_checksum_71 : decode cX10_checksum 71 = .ok (.aaload, 1) := by decide +kernel
theorem dX10_checksum_72 : decode cX10_checksum 72 = .ok (.invokevirtual 281, 3) := by decide +kernel
theorem dX10_checksum_75 : decode cX10_checksum 75 = .ok (.lstore_n 2, 1) := by decide +kernel
theorem dX10_checksum_76 : decode cX10_checksum 76 = .ok (.iinc 4 1, 3) := by decide +kernel
theorem dX10_checksum_79 : decode cX10_checksum 79 = .ok (.goto (-26), 3) := by decide +kernel
theorem dX10_checksum_82 : decode cX10_checksum 82 = .ok (.lload_n 2, 1) := by decide +kernel
theorem dX10_checksum_83 : decode cX10_checksum 83 = .ok (.aload_n 0, 1) := by decide +kernel
theorem dX10_checksum_84 : decode cX10_checksum 84 = .ok (.getfield 12, 3) := by decide +kernel
theorem dX10_checksum_87 : decode cX10_checksum 87 = .ok (.getfield 231, 3) := by decide +kernel
theorem dX10_checksum_90 : decode cX10_checksum 90 = .ok (.aload_n 1, 1) := by decide +kernel
theorem dX10_checksum_91 : decode cX10_checksum 91 = .ok (.invokevirtual 261, 3) := by decide +kernel
theorem dX10_checksum_94 : decode cX10_checksum 94 = .ok (.i2l, 1) := by decide +kernel
theorem dX10_checksum_95 : decode cX10_checksum 95 = .ok (.invokestatic 277, 3) := by decide +kernel
theorem dX10_checksum_98 : decode cX10_checksum 98 = .ok (.lstore_n 2, 1) := by decide +kernel
theorem dX10_checksum_99 : decode cX10_checksum 99 = .ok (.lload_n 2, 1) := by decide +kernel
theorem dX10_checksum_100 : decode cX10_checksum 100 = .ok (.aload_n 0, 1) := by decide +kernel
theorem dX10_checksum_101 : decode cX10_checksum 101 = .ok (.getfield 12, 3) := by decide +kernel
theorem dX10_checksum_104 : decode cX10_checksum 104 = .ok (.getfield 231, 3) := by decide +kernel
theorem dX10_checksum_107 : decode cX10_checksum 107 = .ok (.aload_n 1, 1) := by decide +kernel
theorem dX10_checksum_108 : decode cX10_checksum 108 = .ok (.invokevirtual 265, 3) := by decide +kernel
theorem dX10_checksum_111 : decode cX10_checksum 111 = .ok (.invokestatic 102, 3) := by decide +kernel
theorem dX10_checksum_114 : decode cX10_checksum 114 = .ok (.i2l, 1) := by decide +kernel
theorem dX10_checksum_115 : decode cX10_checksum 115 = .ok (.invokestatic 277, 3) := by decide +kernel
theorem dX10_checksum_118 : decode cX10_checksum 118 = .ok (.lreturn, 1) := by decide +kernel
theorem dX10_isWord_0 : decode cX10_isWord 0 = .ok (.iload_n 0, 1) := by decide +kernel
theorem dX10_isWord_1 : decode cX10_isWord 1 = .ok (.ifCond .lt 13, 3) := by decide +kernel
theorem dX10_isWord_4 : decode cX10_isWord 4 = .ok (.iload_n 0, 1) := by decide +kernel
theorem dX10_isWord_5 : decode cX10_isWord 5 = .ok (.bipush 6, 2) := by decide +kernel
theorem dX10_isWord_7 : decode cX10_isWord 7 = .ok (.if_icmp .ge 7, 3) := by decide +kernel
theorem dX10_isWord_10 : decode cX10_isWord 10 = .ok (.iconst 1, 1) := by decide +kernel
theorem dX10_isWord_11 : decode cX10_isWord 11 = .ok (.goto 4, 3) := by decide +kernel
theorem dX10_isWord_14 : decode cX10_isWord 14 = .ok (.iconst 0, 1) := by decide +kernel
theorem dX10_isWord_15 : decode cX10_isWord 15 = .ok (.ireturn, 1) := by decide +kernel
theorem dX10_isSlot_0 : decode cX10_isSlot 0 = .ok (.iload_n 0, 1) := by decide +kernel
theorem dX10_isSlot_1 : decode cX10_isSlot 1 = .ok (.ifCond .lt 12, 3) := by decide +kernel
theorem dX10_isSlot_4 : decode cX10_isSlot 4 = .ok (.iload_n 0, 1) := by decide +kernel
theorem dX10_isSlot_5 : decode cX10_isSlot 5 = .ok (.iconst 2, 1) := by decide +kernel
theorem dX10_isSlot_6 : decode cX10_isSlot 6 = .ok (.if_icmp .ge 7, 3) := by decide +kernel
theorem dX10_isSlot_9 : decode cX10_isSlot 9 = .ok (.iconst 1, 1) := by decide +kernel
theorem dX10_isSlot_10 : decode cX10_isSlot 10 = .ok (.goto 4, 3) := by decide +kernel
theorem dX10_isSlot_13 : decode cX10_isSlot 13 = .ok (.iconst 0, 1) := by decide +kernel
theorem dX10_isSlot_14 : decode cX10_isSlot 14 = .ok (.ireturn, 1) := by decide +kernel
theorem dX10_toNumber_0 : decode cX10_toNumber 0 = .ok (.iload_n 0, 1) := by decide +kernel
theorem dX10_toNumber_1 : decode cX10_toNumber 1 = .ok (.ifCond .eq 7, 3) := by decide +kernel
theorem dX10_toNumber_4 : decode cX10_toNumber 4 = .ok (.iconst 1, 1) := by decide +kernel
theorem dX10_toNumber_5 : decode cX10_toNumber 5 = .ok (.goto 4, 3) := by decide +kernel
theorem dX10_toNumber_8 : decode cX10_toNumber 8 = .ok (.iconst 0, 1) := by decide +kernel
theorem dX10_toNumber_9 : decode cX10_toNumber 9 = .ok (.ireturn, 1) := by decide +kernel
set_option maxRecDepth 20000 in
theorem ggX10_letterOrNone_X9_at : GoodIn wsX10_letterOrNone wsX9_at := goodIn_r _ [5, 6, 7, 8, 9] (by decide +kernel) (by decide +kernel)
set_option maxRecDepth 20000 in
theorem gX10_letterOrNone_X9_at : GoodIn wsX10_letterOrNone (wsV RX10 150 RX9 yX9_at wsX9_at) := goodIn_app (goodIn_of _ (by decide +kernel)) ggX10_letterOrNone_X9_at
theorem dX10_letterOrNone_0 : decode cX10_letterOrNone 0 = .ok (.aload_n 0, 1) := by decide +kernel
theorem dX10_letterOrNone_1 : decode cX10_letterOrNone 1 = .ok (.iload_n 1, 1) := by decide +kernel
theorem dX10_letterOrNone_2 : decode cX10_letterOrNone 2 = .ok (.invokevirtual 150, 3) := by decide +kernel
theorem dX10_letterOrNone_5 : decode cX10_letterOrNone 5 = .ok (.istore_n 2, 1) := by decide +kernel
theorem dX10_letterOrNone_6 : decode cX10_letterOrNone 6 = .ok (.iload_n 2, 1) := by decide +kernel
theorem dX10_letterOrNone_7 : decode cX10_letterOrNone 7 = .ok (.iconst (-1), 1) := by decide +kernel
theorem dX10_letterOrNone_8 : decode cX10_letterOrNone 8 = .ok (.if_icmp .ne 8, 3) := by decide +kernel
theorem dX10_letterOrNone_11 : decode cX10_letterOrNone 11 = .ok (.bipush (-5), 2) := by decide +kernel
theorem dX10_letterOrNone_13 : decode cX10_letterOrNone 13 = .ok (.goto 4, 3) := by decide +kernel
theorem dX10_letterOrNone_16 : decode cX10_letterOrNone 16 = .ok (.iload_n 2, 1) := by decide +kernel
theorem dX10_letterOrNone_17 : decode cX10_letterOrNone 17 = .ok (.ireturn, 1) := by decide +kernel
theorem dX10_mix_0 : decode cX10_mix 0 = .ok (.ldc2_w 285, 3) := by decide +kernel
theorem dX10_mix_3 : decode cX10_mix 3 = .ok (.lload_n 0, 1) := by decide +kernel
theorem dX10_mix_4 : decode cX10_mix 4 = .ok (.lmul, 1) := by decide +kernel
theorem dX10_mix_5 : decode cX10_mix 5 = .ok (.lload_n 2, 1) := by decide +kernel
theorem dX10_mix_6 : decode cX10_mix 6 = .ok (.ladd, 1) := by decide +kernel
theorem dX10_mix_7 : decode cX10_mix 7 = .ok (.lreturn, 1) := by decide +kernel
set_option maxRecDepth 20000 in
theorem ggX10_mixWord_X10_mix : GoodIn wsX10_mixWord wsX10_mix := goodIn_r _ [8, 9] (by decide +kernel) (by decide +kernel)
set_option maxRecDepth 20000 in
theorem gX10_mixWord_X10_mix : GoodIn wsX10_mixWord (va_wsS RX10 277 yX10_mix wsX10_mix) := goodIn_app (goodIn_of _ (by decide +kernel)) ggX10_mixWord_X10_mix
set_option maxRecDepth 20000 in
theorem ggX10_mixWord_X3_lay : GoodIn wsX10_mixWord wsX3_lay := goodIn_r _ [14, 15, 16, 17, 18, 19, 20, 21, 22, 23, 24, 25, 26, 27, 28, 29, 30, 31, 32, 13, 33, 34, 35, 36, 37, 38, 39, 40, 41, 42, 43, 44, 45, 46, 47, 48, 49, 50, 51, 200, 201, 202, 203, 204, 205, 206, 207, 208, 184, 185] (by decide +kernel) (by decide +kernel)
set_option maxRecDepth 20000 in
theorem gX10_mixWord_X3_lay : GoodIn wsX10_mixWord (wsV RX10 174 RX3 yX3_lay wsX3_lay) := goodIn_app (goodIn_of _ (by decide +kernel)) ggX10_mixWord_X3_lay
set_option maxRecDepth 20000 in
theorem ggX10_mixWord_X3_writeRest : GoodIn wsX10_mixWord wsX3_writeRest := goodIn_r _ [55, 56, 57, 58, 26, 59, 28, 60, 61, 62, 13, 63, 15, 64, 65, 66, 67, 16, 17, 68, 69, 70, 71, 72, 73, 74, 75, 76, 77, 78, 79, 80, 81, 82, 18, 40, 83, 84, 85, 86, 87, 88, 89, 90, 29, 184, 185, 202, 203, 204, 205, 206, 207, 208] (by decide +kernel) (by decide +kernel)
set_option maxRecDepth 20000 in
theorem gX10_mixWord_X3_writeRest : GoodIn wsX10_mixWord (wsV RX10 139 RX3 yX3_writeRest wsX3_writeRest) := goodIn_app (goodIn_of _ (by decide +kernel)) ggX10_mixWord_X3_writeRest
set_option maxRecDepth 20000 in
theorem ggX10_mixWord_X9_at : GoodIn wsX10_mixWord wsX9_at := goodIn_r _ [27, 28, 29, 184, 185] (by decide +kernel) (by decide +kernel)
set_option maxRecDepth 20000 in
theorem gX10_mixWord_X9_at : GoodIn wsX10_mixWord (wsV RX10 150 RX9 yX9_at wsX9_at) := goodIn_app (goodIn_of _ (by decide +kernel)) ggX10_mixWord_X9_at
set_option maxRecDepth 20000 in
theorem ggX10_mixWord_X3_countLayers : GoodIn wsX10_mixWord wsX3_countLayers := goodIn_r _ [95, 16, 35, 36, 37, 38, 39, 202, 203, 204, 205, 206, 207, 208] (by decide +kernel) (by decide +kernel)
set_option maxRecDepth 20000 in
theorem gX10_mixWord_X3_countLayers : GoodIn wsX10_mixWord (wsV RX10 143 RX3 yX3_countLayers wsX3_countLayers) := goodIn_app (goodIn_of _ (by decide +kernel)) ggX10_mixWord_X3_countLayers
set_option maxRecDepth 20000 in
theorem ggX10_mixWord_X3_lettersOfLayer : GoodIn wsX10_mixWord wsX3_lettersOfLayer := goodIn_r _ [99, 16, 35, 34, 202, 203, 204, 205, 206, 207, 208] (by decide +kernel) (by decide +kernel)
set_option maxRecDepth 20000 in
theorem gX10_mixWord_X3_lettersOfLayer : GoodIn wsX10_mixWord (wsV RX10 147 RX3 yX3_lettersOfLayer wsX3_lettersOfLayer) := goodIn_app (goodIn_of _ (by decide +kernel)) ggX10_mixWord_X3_lettersOfLayer
set_option maxRecDepth 20000 in
theorem ggX10_mixWord_X10_countAlike : GoodIn wsX10_mixWord wsX10_countAlike := goodIn_r _ [103, 104, 2, 4, 105, 106, 107, 108, 109, 110, 111, 112, 113, 114, 115, 38, 116, 117, 118, 11, 12, 13, 14, 15, 16, 17, 18, 19, 20, 21, 22, 23, 24, 25, 26, 27, 28, 29, 30, 31, 32, 33, 34, 35, 36, 37, 39, 40, 41, 42, 43, 44, 45, 46, 47, 48, 49, 50, 51, 119, 120, 121, 122, 68, 69, 70, 71, 72, 73, 74, 123, 124, 125, 126, 127, 128, 129, 130, 131, 132, 133, 134, 135, 136, 137, 138, 80, 81, 82, 83, 84, 85, 86, 139, 140, 141, 142, 143, 144, 145, 146, 147, 148, 149, 150, 151, 152, 153, 154, 155, 156, 157, 186, 187, 188, 189, 190, 191, 192, 193, 194, 195, 196, 197, 198, 199, 209, 210, 211, 212, 213, 200, 201, 202, 203, 204, 205, 206, 207, 208, 184, 185, 214, 215, 216, 217, 218, 219] (by decide +kernel) (by decide +kernel)
set_option maxRecDepth 20000 in
theorem gX10_mixWord_X10_countAlike : GoodIn wsX10_mixWord (wsV RX10 155 RX10 yX10_countAlike wsX10_countAlike) := goodIn_app (goodIn_of _ (by decide +kernel)) ggX10_mixWord_X10_countAlike
set_option maxRecDepth 20000 in
theorem ggX10_mixWord_X1_countAll : GoodIn wsX10_mixWord wsX1_countAll := goodIn_r _ [161, 129, 143, 144, 145, 126, 146, 128, 214, 215] (by decide +kernel) (by decide +kernel)
set_option maxRecDepth 20000 in
theorem gX10_mixWord_X1_countAll : GoodIn wsX10_mixWord (wsV RX10 158 RX1 yX1_countAll wsX1_countAll) := goodIn_app (goodIn_of _ (by decide +kernel)) ggX10_mixWord_X1_countAll
set_option maxRecDepth 20000 in
theorem ggX10_mixWord_X9_letterSet : GoodIn wsX10_mixWord wsX9_letterSet := goodIn_r _ [165, 28, 166, 24, 25, 26, 27, 29, 184, 185] (by decide +kernel) (by decide +kernel)
set_option maxRecDepth 20000 in
theorem gX10_mixWord_X9_letterSet : GoodIn wsX10_mixWord (wsV RX10 177 RX9 yX9_letterSet wsX9_letterSet) := goodIn_app (goodIn_of _ (by decide +kernel)) ggX10_mixWord_X9_letterSet
set_option maxRecDepth 20000 in
theorem ggX10_mixWord_X0_isConnected : GoodIn wsX10_mixWord wsX0_isConnected := goodIn_r _ [170, 46, 171, 48, 49, 44, 50, 51, 200, 201] (by decide +kernel) (by decide +kernel)
set_option maxRecDepth 20000 in
theorem gX10_mixWord_X0_isConnected : GoodIn wsX10_mixWord (wsV RX10 180 RX0 yX0_isConnected wsX0_isConnected) := goodIn_app (goodIn_of _ (by decide +kernel)) ggX10_mixWord_X0_isConnected
set_option maxRecDepth 20000 in
theorem ggX10_mixWord_X10_toNumber : GoodIn wsX10_mixWord wsX10_toNumber := goodIn_r _ [174] (by decide +kernel) (by decide +kernel)
set_option maxRecDepth 20000 in
theorem gX10_mixWord_X10_toNumber : GoodIn wsX10_mixWord (va_wsS RX10 102 yX10_toNumber wsX10_toNumber) := goodIn_app (goodIn_of _ (by decide +kernel)) ggX10_mixWord_X10_toNumber
set_option maxRecDepth 20000 in
theorem ggX10_mixWord_X1_countAccepted : GoodIn wsX10_mixWord wsX1_countAccepted := goodIn_r _ [178, 129, 179, 180, 181, 150, 182, 183, 153, 154, 155, 156, 157, 143, 144, 145, 126, 146, 128, 214, 215, 216, 217, 218, 219] (by decide +kernel) (by decide +kernel)
set_option maxRecDepth 20000 in
theorem gX10_mixWord_X1_countAccepted : GoodIn wsX10_mixWord (wsV RX10 257 RX1 yX1_countAccepted wsX1_countAccepted) := goodIn_app (goodIn_of _ (by decide +kernel)) ggX10_mixWord_X1_countAccepted
theorem dX10_mixWord_0 : decode cX10_mixWord 0 = .ok (.lload_n 1, 1) := by decide +kernel
theorem dX10_mixWord_1 : decode cX10_mixWord 1 = .ok (.aload_n 3, 1) := by decide +kernel
theorem dX10_mixWord_2 : decode cX10_mixWord 2 = .ok (.getfield 123, 3) := by decide +kernel
theorem dX10_mixWord_5 : decode cX10_mixWord 5 = .ok (.i2l, 1) := by decide +kernel
theorem dX10_mixWord_6 : decode cX10_mixWord 6 = .ok (.invokestatic 277, 3) := by decide +kernel
theorem dX10_mixWord_9 : decode cX10_mixWord 9 = .ok (.lstore 4, 2) := by decide +kernel
theorem dX10_mixWord_11 : decode cX10_mixWord 11 = .ok (.aload_n 0, 1) := by decide +kernel
theorem dX10_mixWord_12 : decode cX10_mixWord 12 = .ok (.getfield 41, 3) := by decide +kernel
theorem dX10_mixWord_15 : decode cX10_mixWord 15 = .ok (.aload_n 0, 1) := by decide +kernel
theorem dX10_mixWord_16 : decode cX10_mixWord 16 = .ok (.getfield 12, 3) := by decide +kernel
theorem dX10_mixWord_19 : decode cX10_mixWord 19 = .ok (.getfield 76, 3) := by decide +kernel
theorem dX10_mixWord_22 : decode cX10_mixWord 22 = .ok (.aload_n 3, 1) := by decide +kernel
theorem dX10_mixWord_23 : decode cX10_mixWord 23 = .ok (.invokevirtual 174, 3) := by decide +kernel
theorem dX10_mixWord_26 : decode cX10_mixWord 26 = .ok (.aload_n 0, 1) := by decide +kernel
theorem dX10_mixWord_27 : decode cX10_mixWord 27 = .ok (.getfield 41, 3) := by decide +kernel
theorem dX10_mixWord_30 : decode cX10_mixWord 30 = .ok (.aload_n 0, 1) := by decide +kernel
theorem dX10_mixWord_31 : decode cX10_mixWord 31 = .ok (.getfield 34, 3) := by decide +kernel
theorem dX10_mixWord_34 : decode cX10_mixWord 34 = .ok (.invokevirtual 139, 3) := by decide +kernel
theorem dX10_mixWord_37 : decode cX10_mixWord 37 = .ok (.iconst 0, 1) := by decide +kernel
theorem dX10_mixWord_38 : decode cX10_mixWord 38 = .ok (.istore 6, 2) := by decide +kernel
theorem dX10_mixWord_40 : decode cX10_mixWord 40 = .ok (.iload 6, 2) := by decide +kernel
theorem dX10_mixWord_42 : decode cX10_mixWord 42 = .ok (.aload_n 0, 1) := by decide +kernel
theorem dX10_mixWord_43 : decode cX10_mixWord 43 = .ok (.getfield 34, 3) := by decide +kernel
theorem dX10_mixWord_46 : decode cX10_mixWord 46 = .ok (.getfield 123, 3) := by decide +kernel
theorem dX10_mixWord_49 : decode cX10_mixWord 49 = .ok (.if_icmp .ge 26, 3) := by decide +kernel
theorem dX10_mixWord_52 : decode cX10_mixWord 52 = .ok (.lload 4, 2) := by decide +kernel
theorem dX10_mixWord_54 : decode cX10_mixWord 54 = .ok (.aload_n 0, 1) := by decide +kernel
theorem dX10_mixWord_55 : decode cX10_mixWord 55 = .ok (.getfield 34, 3) := by decide +kernel
theorem dX10_mixWord_58 : decode cX10_mixWord 58 = .ok (.iload 6, 2) := by decide +kernel
theorem dX10_mixWord_60 : decode cX10_mixWord 60 = .ok (.invokevirtual 150, 3) := by decide +kernel
theorem dX10_mixWord_63 : decode cX10_mixWord 63 = .ok (.i2l, 1) := by decide +kernel
theorem dX10_mixWord_64 : decode cX10_mixWord 64 = .ok (.invokestatic 277, 3) := by decide +kernel
theorem dX10_mixWord_67 : decode cX10_mixWord 67 = .ok (.lstore 4, 2) := by decide +kernel
theorem dX10_mixWord_69 : decode cX10_mixWord 69 = .ok (.iinc 6 1, 3) := by decide +kernel
theorem dX10_mixWord_72 : decode cX10_mixWord 72 = .ok (.goto (-32), 3) := by decide +kernel
theorem dX10_mixWord_75 : decode cX10_mixWord 75 = .ok (.aload_n 0, 1) := by decide +kernel
theorem dX10_mixWord_76 : decode cX10_mixWord 76 = .ok (.getfield 41, 3) := by decide +kernel
theorem dX10_mixWord_79 : decode cX10_mixWord 79 = .ok (.invokevirtual 143, 3) := by decide +kernel
theorem dX10_mixWord_82 : decode cX10_mixWord 82 = .ok (.istore 6, 2) := by decide +kernel
theorem dX10_mixWord_84 : decode cX10_mixWord 84 = .ok (.iconst 0, 1) := by decide +kernel
theorem dX10_mixWord_85 : decode cX10_mixWord 85 = .ok (.istore 7, 2) := by decide +kernel
theorem dX10_mixWord_87 : decode cX10_mixWord 87 = .ok (.iload 7, 2) := by decide +kernel
theorem dX10_mixWord_89 : decode cX10_mixWord 89 = .ok (.iload 6, 2) := by decide +kernel
theorem dX10_mixWord_91 : decode cX10_mixWord 91 = .ok (.if_icmp .ge 26, 3) := by decide +kernel
theorem dX10_mixWord_94 : decode cX10_mixWord 94 = .ok (.lload 4, 2) := by decide +kernel
theorem dX10_mixWord_96 : decode cX10_mixWord 96 = .ok (.aload_n 0, 1) := by decide +kernel
theorem dX10_mixWord_97 : decode cX10_mixWord 97 = .ok (.getfield 41, 3) := by decide +kernel
theorem dX10_mixWord_100 : decode cX10_mixWord 100 = .ok (.iload 7, 2) := by decide +kernel
theorem dX10_mixWord_102 : decode cX10_mixWord 102 = .ok (.invokevirtual 147, 3) := by decide +kernel
theorem dX10_mixWord_105 : decode cX10_mixWord 105 = .ok (.i2l, 1) := by decide +kernel
theorem dX10_mixWord_106 : decode cX10_mixWord 106 = .ok (.invokestatic 277, 3) := by decide +kernel
theorem dX10_mixWord_109 : decode cX10_mixWord 109 = .ok (.lstore 4, 2) := by decide +kernel
theorem dX10_mixWord_111 : decode cX10_mixWord 111 = .ok (.iinc 7 1, 3) := by decide +kernel
theorem dX10_mixWord_114 : decode cX10_mixWord 114 = .ok (.goto (-27), 3) := by decide +kernel
theorem dX10_mixWord_117 : decode cX10_mixWord 117 = .ok (.aload_n 0, 1) := by decide +kernel
theorem dX10_mixWord_118 : decode cX10_mixWord 118 = .ok (.aload_n 3, 1) := by decide +kernel
theorem dX10_mixWord_119 : decode cX10_mixWord 119 = .ok (.invokevirtual 155, 3) := by decide +kernel
theorem dX10_mixWord_122 : decode cX10_mixWord 122 = .ok (.lload 4, 2) := by decide +kernel
theorem dX10_mixWord_124 : decode cX10_mixWord 124 = .ok (.aload_n 0, 1) := by decide +kernel
theorem dX10_mixWord_125 : decode cX10_mixWord 125 = .ok (.getfield 58, 3) := by decide +kernel
theorem dX10_mixWord_128 : decode cX10_mixWord 128 = .ok (.invokevirtual 158, 3) := by decide +kernel
theorem dX10_mixWord_131 : decode cX10_mixWord 131 = .ok (.invokestatic 277, 3) := by decide +kernel
theorem dX10_mixWord_134 : decode cX10_mixWord 134 = .ok (.lstore 4, 2) := by decide +kernel
theorem dX10_mixWord_136 : decode cX10_mixWord 136 = .ok (.lload 4, 2) := by decide +kernel
theorem dX10_mixWord_138 : decode cX10_mixWord 138 = .ok (.aload_n 0, 1) := by decide +kernel
theorem dX10_mixWord_139 : decode cX10_mixWord 139 = .ok (.getfield 12, 3) := by decide +kernel
theorem dX10_mixWord_142 : decode cX10_mixWord 142 = .ok (.getfield 76, 3) := by decide +kernel
theorem dX10_mixWord_145 : decode cX10_mixWord 145 = .ok (.aload_n 3, 1) := by decide +kernel
theorem dX10_mixWord_146 : decode cX10_mixWord 146 = .ok (.invokevirtual 177, 3) := by decide +kernel
theorem dX10_mixWord_149 : decode cX10_mixWord 149 = .ok (.invokevirtual 180, 3) := by decide +kernel
theorem dX10_mixWord_152 : decode cX10_mixWord 152 = .ok (.invokestatic 102, 3) := by decide +kernel
theorem dX10_mixWord_155 : decode cX10_mixWord 155 = .ok (.i2l, 1) := by decide +kernel
theorem dX10_mixWord_156 : decode cX10_mixWord 156 = .ok (.invokestatic 277, 3) := by decide +kernel
theorem dX10_mixWord_159 : decode cX10_mixWord 159 = .ok (.lstore 4, 2) := by decide +kernel
theorem dX10_mixWord_161 : decode cX10_mixWord 161 = .ok (.lload 4, 2) := by decide +kernel
theorem dX10_mixWord_163 : decode cX10_mixWord 163 = .ok (.aload_n 0, 1) := by decide +kernel
theorem dX10_mixWord_164 : decode cX10_mixWord 164 = .ok (.getfield 58, 3) := by decide +kernel
theorem dX10_mixWord_167 : decode cX10_mixWord 167 = .ok (.aload_n 0, 1) := by decide +kernel
theorem dX10_mixWord_168 : decode cX10_mixWord 168 = .ok (.getfield 12, 3) := by decide +kernel
theorem dX10_mixWord_171 : decode cX10_mixWord 171 = .ok (.getfield 231, 3) := by decide +kernel
theorem dX10_mixWord_174 : decode cX10_mixWord 174 = .ok (.invokevirtual 257, 3) := by decide +kernel
theorem dX10_mixWord_177 : decode cX10_mixWord 177 = .ok (.invokestatic 277, 3) := by decide +kernel
theorem dX10_mixWord_180 : decode cX10_mixWord 180 = .ok (.lreturn, 1) := by decide +kernel
set_option maxRecDepth 20000 in
theorem ggX10_lay_X3_lay : GoodIn wsX10_lay wsX3_lay := goodIn_r _ [7, 8, 9, 10, 11, 12, 13, 14, 15, 16, 17, 18, 19, 20, 21, 22, 23, 24, 25, 6, 26, 27, 28, 29, 30, 31, 32, 33, 34, 35, 36, 37, 38, 39, 40, 41, 42, 43, 44, 59, 60, 61, 62, 63, 64, 65, 66, 67, 68, 69] (by decide +kernel) (by decide +kernel)
set_option maxRecDepth 20000 in
theorem gX10_lay_X3_lay : GoodIn wsX10_lay (wsV RX10 174 RX3 yX3_lay wsX3_lay) := goodIn_app (goodIn_of _ (by decide +kernel)) ggX10_lay_X3_lay
theorem dX10_lay_0 : decode cX10_lay 0 = .ok (.aload_n 0, 1) := by decide +kernel
theorem dX10_lay_1 : decode cX10_lay 1 = .ok (.getfield 41, 3) := by decide +kernel
theorem dX10_lay_4 : decode cX10_lay 4 = .ok (.aload_n 0, 1) := by decide +kernel
theorem dX10_lay_5 : decode cX10_lay 5 = .ok (.getfield 12, 3) := by decide +kernel
theorem dX10_lay_8 : decode cX10_lay 8 = .ok (.getfield 76, 3) := by decide +kernel
theorem dX10_lay_11 : decode cX10_lay 11 = .ok (.aload_n 0, 1) := by decide +kernel
theorem dX10_lay_12 : decode cX10_lay 12 = .ok (.getfield 12, 3) := by decide +kernel
theorem dX10_lay_15 : decode cX10_lay 15 = .ok (.getfield 119, 3) := by decide +kernel
theorem dX10_lay_18 : decode cX10_lay 18 = .ok (.iload_n 1, 1) := by decide +kernel
theorem dX10_lay_19 : decode cX10_lay 19 = .ok (.aaload, 1) := by decide +kernel
theorem dX10_lay_20 : decode cX10_lay 20 = .ok (.invokevirtual 174, 3) := by decide +kernel
theorem dX10_lay_23 : decode cX10_lay 23 = .ok (.return_, 1) := by decide +kernel
set_option maxRecDepth 20000 in
theorem ggX10_countAlike_X4_begin : GoodIn wsX10_countAlike wsX4_begin := goodIn_r _ [8, 9, 10, 11, 12, 13, 14, 15, 16, 17, 18, 19, 20, 21, 22, 23, 24, 25, 26, 27, 28, 29, 30, 31, 32, 33, 34, 35, 36, 37, 38, 39, 40, 41, 42, 43, 44, 45, 46, 47, 48, 49, 50, 51, 52, 53, 54, 55, 56, 57, 58, 59, 60, 61, 62, 63, 64, 65, 66, 67, 68, 69, 126, 127, 128, 129, 130, 131, 132, 133, 134, 135, 136, 137, 138, 139, 140, 141] (by decide +kernel) (by decide +kernel)
set_option maxRecDepth 20000 in
theorem gX10_countAlike_X4_begin : GoodIn wsX10_countAlike (wsV RX10 183 RX4 yX4_begin wsX4_begin) := goodIn_app (goodIn_of _ (by decide +kernel)) ggX10_countAlike_X4_begin
set_option maxRecDepth 20000 in
theorem ggX10_countAlike_X1_spread : GoodIn wsX10_countAlike wsX1_spread := goodIn_r _ [74, 75, 76, 77, 78, 79, 7, 80, 12, 9, 11, 17, 81, 82, 83, 84, 85, 86, 87, 21, 88, 26, 25, 47, 89, 90, 65, 91, 92, 93, 94, 95, 73, 96, 97, 98, 99, 100, 101, 102, 103, 104, 105, 106, 107, 108, 109, 110, 111, 126, 127, 128, 129, 130, 142, 143, 133, 134, 135, 136, 137, 138, 139, 144, 145, 146, 147] (by decide +kernel) (by decide +kernel)
set_option maxRecDepth 20000 in
theorem gX10_countAlike_X1_spread : GoodIn wsX10_countAlike (wsV RX10 287 RX1 yX1_spread wsX1_spread) := goodIn_app (goodIn_of _ (by decide +kernel)) ggX10_countAlike_X1_spread
theorem dX10_countAlike_0 : decode cX10_countAlike 0 = .ok (.aload_n 0, 1) := by decide +kernel
theorem dX10_countAlike_1 : decode cX10_countAlike 1 = .ok (.getfield 51, 3) := by decide +kernel
theorem dX10_countAlike_4 : decode cX10_countAlike 4 = .ok (.aload_n 0, 1) := by decide +kernel
theorem dX10_countAlike_5 : decode cX10_countAlike 5 = .ok (.getfield 12, 3) := by decide +kernel
theorem dX10_countAlike_8 : decode cX10_countAlike 8 = .ok (.getfield 76, 3) := by decide +kernel
theorem dX10_countAlike_11 : decode cX10_countAlike 11 = .ok (.aload_n 1, 1) := by decide +kernel
theorem dX10_countAlike_12 : decode cX10_countAlike 12 = .ok (.invokevirtual 183, 3) := by decide +kernel
theorem dX10_countAlike_15 : decode cX10_countAlike 15 = .ok (.aload_n 0, 1) := by decide +kernel
theorem dX10_countAlike_16 : decode cX10_countAlike 16 = .ok (.getfield 58, 3) := by decide +kernel
theorem dX10_countAlike_19 : decode cX10_countAlike 19 = .ok (.aload_n 0, 1) := by decide +kernel
theorem dX10_countAlike_20 : decode cX10_countAlike 20 = .ok (.getfield 51, 3) := by decide +kernel
theorem dX10_countAlike_23 : decode cX10_countAlike 23 = .ok (.aload_n 0, 1) := by decide +kernel
theorem dX10_countAlike_24 : decode cX10_countAlike 24 = .ok (.getfield 12, 3) := by decide +kernel
theorem dX10_countAlike_27 : decode cX10_countAlike 27 = .ok (.getfield 231, 3) := by decide +kernel
theorem dX10_countAlike_30 : decode cX10_countAlike 30 = .ok (.invokevirtual 287, 3) := by decide +kernel
theorem dX10_countAlike_33 : decode cX10_countAlike 33 = .ok (.return_, 1) := by decide +kernel
set_option maxRecDepth 20000 in
theorem ggX10_settleDraft_X3_lay : GoodIn wsX10_settleDraft wsX3_lay := goodIn_r _ [8, 9, 10, 11, 12, 13, 14, 15, 16, 17, 18, 19, 20, 21, 22, 23, 24, 25, 26, 7, 27, 28, 29, 30, 31, 32, 33, 34, 35, 36, 37, 38, 39, 40, 41, 42, 43, 44, 45, 101, 102, 103, 104, 105, 106, 107, 108, 109, 99, 100] (by decide +kernel) (by decide +kernel)
set_option maxRecDepth 20000 in
theorem gX10_settleDraft_X3_lay : GoodIn wsX10_settleDraft (wsV RX10 174 RX3 yX3_lay wsX3_lay) := goodIn_app (goodIn_of _ (by decide +kernel)) ggX10_settleDraft_X3_lay
set_option maxRecDepth 20000 in
theorem ggX10_settleDraft_X3_writeRest : GoodIn wsX10_settleDraft wsX3_writeRest := goodIn_r _ [49, 50, 51, 52, 20, 53, 22, 54, 55, 56, 7, 57, 9, 58, 59, 60, 61, 10, 11, 62, 63, 64, 65, 66, 67, 68, 69, 70, 71, 72, 73, 74, 75, 76, 12, 34, 77, 78, 79, 80, 81, 82, 83, 84, 23, 99, 100, 103, 104, 105, 106, 107, 108, 109] (by decide +kernel) (by decide +kernel)
set_option maxRecDepth 20000 in
theorem gX10_settleDraft_X3_writeRest : GoodIn wsX10_settleDraft (wsV RX10 139 RX3 yX3_writeRest wsX3_writeRest) := goodIn_app (goodIn_of _ (by decide +kernel)) ggX10_settleDraft_X3_writeRest
theorem dX10_settleDraft_0 : decode cX10_settleDraft 0 = .ok (.aload_n 0, 1) := by decide +kernel
theorem dX10_settleDraft_1 : decode cX10_settleDraft 1 = .ok (.getfield 41, 3) := by decide +kernel
theorem dX10_settleDraft_4 : decode cX10_settleDraft 4 = .ok (.aload_n 0, 1) := by decide +kernel
theorem dX10_settleDraft_5 : decode cX10_settleDraft 5 = .ok (.getfield 12, 3) := by decide +kernel
theorem dX10_settleDraft_8 : decode cX10_settleDraft 8 = .ok (.getfield 76, 3) := by decide +kernel
theorem dX10_settleDraft_11 : decode cX10_settleDraft 11 = .ok (.aload_n 0, 1) := by decide +kernel
theorem dX10_settleDraft_12 : decode cX10_settleDraft 12 = .ok (.getfield 34, 3) := by decide +kernel
theorem dX10_settleDraft_15 : decode cX10_settleDraft 15 = .ok (.invokevirtual 174, 3) := by decide +kernel
theorem dX10_settleDraft_18 : decode cX10_settleDraft 18 = .ok (.aload_n 0, 1) := by decide +kernel
theorem dX10_settleDraft_19 : decode cX10_settleDraft 19 = .ok (.getfield 41, 3) := by decide +kernel
theorem dX10_settleDraft_22 : decode cX10_settleDraft 22 = .ok (.aload_n 0, 1) := by decide +kernel
theorem dX10_settleDraft_23 : decode cX10_settleDraft 23 = .ok (.getfield 12, 3) := by decide +kernel
theorem dX10_settleDraft_26 : decode cX10_settleDraft 26 = .ok (.getfield 119, 3) := by decide +kernel
theorem dX10_settleDraft_29 : decode cX10_settleDraft 29 = .ok (.iload_n 1, 1) := by decide +kernel
theorem dX10_settleDraft_30 : decode cX10_settleDraft 30 = .ok (.aaload, 1) := by decide +kernel
theorem dX10_settleDraft_31 : decode cX10_settleDraft 31 = .ok (.invokevirtual 139, 3) := by decide +kernel
theorem dX10_settleDraft_34 : decode cX10_settleDraft 34 = .ok (.aload_n 0, 1) := by decide +kernel
theorem dX10_settleDraft_35 : decode cX10_settleDraft 35 = .ok (.getfield 12, 3) := by decide +kernel
theorem dX10_settleDraft_38 : decode cX10_settleDraft 38 = .ok (.getfield 119, 3) := by decide +kernel
theorem dX10_settleDraft_41 : decode cX10_settleDraft 41 = .ok (.iload_n 1, 1) := by decide +kernel
theorem dX10_settleDraft_42 : decode cX10_settleDraft 42 = .ok (.aaload, 1) := by decide +kernel
theorem dX10_settleDraft_43 : decode cX10_settleDraft 43 = .ok (.getfield 123, 3) := by decide +kernel
theorem dX10_settleDraft_46 : decode cX10_settleDraft 46 = .ok (.ireturn, 1) := by decide +kernel
set_option maxRecDepth 20000 in
theorem ggX10_draftPair_X9_empty : GoodIn wsX10_draftPair wsX9_empty := goodIn_r _ [7, 8, 36, 37] (by decide +kernel) (by decide +kernel)
set_option maxRecDepth 20000 in
theorem gX10_draftPair_X9_empty : GoodIn wsX10_draftPair (wsV RX10 129 RX9 yX9_empty wsX9_empty) := goodIn_app (goodIn_of _ (by decide +kernel)) ggX10_draftPair_X9_empty
set_option maxRecDepth 20000 in
theorem ggX10_draftPair_X9_pushAll : GoodIn wsX10_draftPair wsX9_pushAll := goodIn_r _ [12, 8, 13, 14, 15, 6, 16, 17, 18, 19, 20, 21, 36, 37] (by decide +kernel) (by decide +kernel)
set_option maxRecDepth 20000 in
theorem gX10_draftPair_X9_pushAll : GoodIn wsX10_draftPair (wsV RX10 291 RX9 yX9_pushAll wsX9_pushAll) := goodIn_app (goodIn_of _ (by decide +kernel)) ggX10_draftPair_X9_pushAll
theorem dX10_draftPair_0 : decode cX10_draftPair 0 = .ok (.aload_n 0, 1) := by decide +kernel
theorem dX10_draftPair_1 : decode cX10_draftPair 1 = .ok (.getfield 34, 3) := by decide +kernel
theorem dX10_draftPair_4 : decode cX10_draftPair 4 = .ok (.invokevirtual 129, 3) := by decide +kernel
theorem dX10_draftPair_7 : decode cX10_draftPair 7 = .ok (.aload_n 0, 1) := by decide +kernel
theorem dX10_draftPair_8 : decode cX10_draftPair 8 = .ok (.getfield 34, 3) := by decide +kernel
theorem dX10_draftPair_11 : decode cX10_draftPair 11 = .ok (.aload_n 0, 1) := by decide +kernel
theorem dX10_draftPair_12 : decode cX10_draftPair 12 = .ok (.getfield 12, 3) := by decide +kernel
theorem dX10_draftPair_15 : decode cX10_draftPair 15 = .ok (.getfield 119, 3) := by decide +kernel
theorem dX10_draftPair_18 : decode cX10_draftPair 18 = .ok (.iload_n 1, 1) := by decide +kernel
theorem dX10_draftPair_19 : decode cX10_draftPair 19 = .ok (.aaload, 1) := by decide +kernel
theorem dX10_draftPair_20 : decode cX10_draftPair 20 = .ok (.invokevirtual 291, 3) := by decide +kernel
theorem dX10_draftPair_23 : decode cX10_draftPair 23 = .ok (.aload_n 0, 1) := by decide +kernel
theorem dX10_draftPair_24 : decode cX10_draftPair 24 = .ok (.getfield 34, 3) := by decide +kernel
theorem dX10_draftPair_27 : decode cX10_draftPair 27 = .ok (.aload_n 0, 1) := by decide +kernel
theorem dX10_draftPair_28 : decode cX10_draftPair 28 = .ok (.getfield 12, 3) := by decide +kernel
theorem dX10_draftPair_31 : decode cX10_draftPair 31 = .ok (.getfield 119, 3) := by decide +kernel
theorem dX10_draftPair_34 : decode cX10_draftPair 34 = .ok (.iload_n 2, 1) := by decide +kernel
theorem dX10_draftPair_35 : decode cX10_draftPair 35 = .ok (.aaload, 1) := by decide +kernel
theorem dX10_draftPair_36 : decode cX10_draftPair 36 = .ok (.invokevirtual 291, 3) := by decide +kernel
theorem dX10_draftPair_39 : decode cX10_draftPair 39 = .ok (.return_, 1) := by decide +kernel
set_option maxRecDepth 20000 in
theorem ggX10_draftCommonPrefix_X3_lay : GoodIn wsX10_draftCommonPrefix wsX3_lay := goodIn_r _ [9, 10, 11, 12, 13, 14, 15, 16, 17, 18, 19, 20, 21, 22, 23, 24, 25, 26, 27, 8, 28, 29, 30, 31, 32, 33, 34, 35, 36, 37, 38, 39, 40, 41, 42, 43, 44, 45, 46, 88, 89, 90, 91, 92, 93, 94, 95, 96, 97, 98] (by decide +kernel) (by decide +kernel)
set_option maxRecDepth 20000 in
theorem gX10_draftCommonPrefix_X3_lay : GoodIn wsX10_draftCommonPrefix (wsV RX10 174 RX3 yX3_lay wsX3_lay) := goodIn_app (goodIn_of _ (by decide +kernel)) ggX10_draftCommonPrefix_X3_lay
set_option maxRecDepth 20000 in
theorem ggX10_draftCommonPrefix_X9_empty : GoodIn wsX10_draftCommonPrefix wsX9_empty := goodIn_r _ [50, 23, 97, 98] (by decide +kernel) (by decide +kernel)
set_option maxRecDepth 20000 in
theorem gX10_draftCommonPrefix_X9_empty : GoodIn wsX10_draftCommonPrefix (wsV RX10 129 RX9 yX9_empty wsX9_empty) := goodIn_app (goodIn_of _ (by decide +kernel)) ggX10_draftCommonPrefix_X9_empty
set_option maxRecDepth 20000 in
theorem ggX10_draftCommonPrefix_X10_firstCommonLetter : GoodIn wsX10_draftCommonPrefix wsX10_firstCommonLetter := goodIn_r _ [55, 2, 1, 3, 56, 57, 58, 8, 59, 13, 12, 35, 60, 61, 62, 63, 64, 74, 75, 76, 77, 78, 79, 80, 81, 82, 83, 84, 85, 86, 87, 88, 89, 90, 91, 92, 93, 94, 95, 96] (by decide +kernel) (by decide +kernel)
set_option maxRecDepth 20000 in
theorem gX10_draftCommonPrefix_X10_firstCommonLetter : GoodIn wsX10_draftCommonPrefix (wsV RX10 294 RX10 yX10_firstCommonLetter wsX10_firstCommonLetter) := goodIn_app (goodIn_of _ (by decide +kernel)) ggX10_draftCommonPrefix_X10_firstCommonLetter
set_option maxRecDepth 20000 in
theorem ggX10_draftCommonPrefix_X3_take : GoodIn wsX10_draftCommonPrefix wsX3_take := goodIn_r _ [68, 12, 69, 57, 58, 8, 59, 13, 35, 60, 61, 62, 63, 64, 90, 91, 92, 93, 94, 95, 96] (by decide +kernel) (by decide +kernel)
set_option maxRecDepth 20000 in
theorem gX10_draftCommonPrefix_X3_take : GoodIn wsX10_draftCommonPrefix (wsV RX10 297 RX3 yX3_take wsX3_take) := goodIn_app (goodIn_of _ (by decide +kernel)) ggX10_draftCommonPrefix_X3_take
set_option maxRecDepth 20000 in
theorem ggX10_draftCommonPrefix_X9_push : GoodIn wsX10_draftCommonPrefix wsX9_push := goodIn_r _ [73, 23, 24, 97, 98] (by decide +kernel) (by decide +kernel)
set_option maxRecDepth 20000 in
theorem gX10_draftCommonPrefix_X9_push : GoodIn wsX10_draftCommonPrefix (wsV RX10 126 RX9 yX9_push wsX9_push) := goodIn_app (goodIn_of _ (by decide +kernel)) ggX10_draftCommonPrefix_X9_push
theorem dX10_draftCommonPrefix_0 : decode cX10_draftCommonPrefix 0 = .ok (.aload_n 0, 1) := by decide +kernel
theorem dX10_draftCommonPrefix_1 : decode cX10_draftCommonPrefix 1 = .ok (.getfield 41, 3) := by decide +kernel
theorem dX10_draftCommonPrefix_4 : decode cX10_draftCommonPrefix 4 = .ok (.aload_n 0, 1) := by decide +kernel
theorem dX10_draftCommonPrefix_5 : decode cX10_draftCommonPrefix 5 = .ok (.getfield 12, 3) := by decide +kernel
theorem dX10_draftCommonPrefix_8 : decode cX10_draftCommonPrefix 8 = .ok (.getfield 76, 3) := by decide +kernel
theorem dX10_draftCommonPrefix_11 : decode cX10_draftCommonPrefix 11 = .ok (.aload_n 0, 1) := by decide +kernel
theorem dX10_draftCommonPrefix_12 : decode cX10_draftCommonPrefix 12 = .ok (.getfield 12, 3) := by decide +kernel
theorem dX10_draftCommonPrefix_15 : decode cX10_draftCommonPrefix 15 = .ok (.getfield 119, 3) := by decide +kernel
theorem dX10_draftCommonPrefix_18 : decode cX10_draftCommonPrefix 18 = .ok (.iload_n 1, 1) := by decide +kernel
theorem dX10_draftCommonPrefix_19 : decode cX10_draftCommonPrefix 19 = .ok (.aaload, 1) := by decide +kernel
theorem dX10_draftCommonPrefix_20 : decode cX10_draftCommonPrefix 20 = .ok (.invokevirtual 174, 3) := by decide +kernel
theorem dX10_draftCommonPrefix_23 : decode cX10_draftCommonPrefix 23 = .ok (.aload_n 0, 1) := by decide +kernel
theorem dX10_draftCommonPrefix_24 : decode cX10_draftCommonPrefix 24 = .ok (.getfield 45, 3) := by decide +kernel
theorem dX10_draftCommonPrefix_27 : decode cX10_draftCommonPrefix 27 = .ok (.aload_n 0, 1) := by decide +kernel
theorem dX10_draftCommonPrefix_28 : decode cX10_draftCommonPrefix 28 = .ok (.getfield 12, 3) := by decide +kernel
theorem dX10_draftCommonPrefix_31 : decode cX10_draftCommonPrefix 31 = .ok (.getfield 76, 3) := by decide +kernel
theorem dX10_draftCommonPrefix_34 : decode cX10_draftCommonPrefix 34 = .ok (.aload_n 0, 1) := by decide +kernel
theorem dX10_draftCommonPrefix_35 : decode cX10_draftCommonPrefix 35 = .ok (.getfield 12, 3) := by decide +kernel
theorem dX10_draftCommonPrefix_38 : decode cX10_draftCommonPrefix 38 = .ok (.getfield 119, 3) := by decide +kernel
theorem dX10_draftCommonPrefix_41 : decode cX10_draftCommonPrefix 41 = .ok (.iload_n 2, 1) := by decide +kernel
theorem dX10_draftCommonPrefix_42 : decode cX10_draftCommonPrefix 42 = .ok (.aaload, 1) := by decide +kernel
theorem dX10_draftCommonPrefix_43 : decode cX10_draftCommonPrefix 43 = .ok (.invokevirtual 174, 3) := by decide +kernel
theorem dX10_draftCommonPrefix_46 : decode cX10_draftCommonPrefix 46 = .ok (.aload_n 0, 1) := by decide +kernel
theorem dX10_draftCommonPrefix_47 : decode cX10_draftCommonPrefix 47 = .ok (.getfield 34, 3) := by decide +kernel
theorem dX10_draftCommonPrefix_50 : decode cX10_draftCommonPrefix 50 = .ok (.invokevirtual 129, 3) := by decide +kernel
theorem dX10_draftCommonPrefix_53 : decode cX10_draftCommonPrefix 53 = .ok (.iconst 0, 1) := by decide +kernel
theorem dX10_draftCommonPrefix_54 : decode cX10_draftCommonPrefix 54 = .ok (.istore_n 3, 1) := by decide +kernel
theorem dX10_draftCommonPrefix_55 : decode cX10_draftCommonPrefix 55 = .ok (.iload_n 3, 1) := by decide +kernel
theorem dX10_draftCommonPrefix_56 : decode cX10_draftCommonPrefix 56 = .ok (.bipush 16, 2) := by decide +kernel
theorem dX10_draftCommonPrefix_58 : decode cX10_draftCommonPrefix 58 = .ok (.if_icmp .ge 51, 3) := by decide +kernel
theorem dX10_draftCommonPrefix_61 : decode cX10_draftCommonPrefix 61 = .ok (.aload_n 0, 1) := by decide +kernel
theorem dX10_draftCommonPrefix_62 : decode cX10_draftCommonPrefix 62 = .ok (.invokevirtual 294, 3) := by decide +kernel
theorem dX10_draftCommonPrefix_65 : decode cX10_draftCommonPrefix 65 = .ok (.istore 4, 2) := by decide +kernel
theorem dX10_draftCommonPrefix_67 : decode cX10_draftCommonPrefix 67 = .ok (.iload 4, 2) := by decide +kernel
theorem dX10_draftCommonPrefix_69 : decode cX10_draftCommonPrefix 69 = .ok (.iconst (-1), 1) := by decide +kernel
theorem dX10_draftCommonPrefix_70 : decode cX10_draftCommonPrefix 70 = .ok (.if_icmp .ne 4, 3) := by decide +kernel
theorem dX10_draftCommonPrefix_73 : decode cX10_draftCommonPrefix 73 = .ok (.return_, 1) := by decide +kernel
theorem dX10_draftCommonPrefix_74 : decode cX10_draftCommonPrefix 74 = .ok (.aload_n 0, 1) := by decide +kernel
theorem dX10_draftCommonPrefix_75 : decode cX10_draftCommonPrefix 75 = .ok (.getfield 41, 3) := by decide +kernel
theorem dX10_draftCommonPrefix_78 : decode cX10_draftCommonPrefix 78 = .ok (.iload 4, 2) := by decide +kernel
theorem dX10_draftCommonPrefix_80 : decode cX10_draftCommonPrefix 80 = .ok (.invokevirtual 297, 3) := by decide +kernel
theorem dX10_draftCommonPrefix_83 : decode cX10_draftCommonPrefix 83 = .ok (.pop, 1) := by decide +kernel
theorem dX10_draftCommonPrefix_84 : decode cX10_draftCommonPrefix 84 = .ok (.aload_n 0, 1) := by decide +kernel
theorem dX10_draftCommonPrefix_85 : decode cX10_draftCommonPrefix 85 = .ok (.getfield 45, 3) := by decide +kernel
theorem dX10_draftCommonPrefix_88 : decode cX10_draftCommonPrefix 88 = .ok (.iload 4, 2) := by decide +kernel
theorem dX10_draftCommonPrefix_90 : decode cX10_draftCommonPrefix 90 = .ok (.invokevirtual 297, 3) := by decide +kernel
theorem dX10_draftCommonPrefix_93 : decode cX10_draftCommonPrefix 93 = .ok (.pop, 1) := by decide +kernel
theorem dX10_draftCommonPrefix_94 : decode cX10_draftCommonPrefix 94 = .ok (.aload_n 0, 1) := by decide +kernel
theorem dX10_draftCommonPrefix_95 : decode cX10_draftCommonPrefix 95 = .ok (.getfield 34, 3) := by decide +kernel
theorem dX10_draftCommonPrefix_98 : decode cX10_draftCommonPrefix 98 = .ok (.iload 4, 2) := by decide +kernel
theorem dX10_draftCommonPrefix_100 : decode cX10_draftCommonPrefix 100 = .ok (.invokevirtual 126, 3) := by decide +kernel
theorem dX10_draftCommonPrefix_103 : decode cX10_draftCommonPrefix 103 = .ok (.iinc 3 1, 3) := by decide +kernel
theorem dX10_draftCommonPrefix_106 : decode cX10_draftCommonPrefix 106 = .ok (.goto (-51), 3) := by decide +kernel
theorem dX10_draftCommonPrefix_109 : decode cX10_draftCommonPrefix 109 = .ok (.return_, 1) := by decide +kernel
set_option maxRecDepth 20000 in
theorem ggX10_firstCommonLetter_X3_nextPlace : GoodIn wsX10_firstCommonLetter wsX3_nextPlace := goodIn_r _ [8, 9, 10, 11, 12, 13, 14, 15, 16, 33, 34, 35, 36, 37, 38, 39] (by decide +kernel) (by decide +kernel)
set_option maxRecDepth 20000 in
theorem gX10_firstCommonLetter_X3_nextPlace : GoodIn wsX10_firstCommonLetter (wsV RX10 300 RX3 yX3_nextPlace wsX3_nextPlace) := goodIn_app (goodIn_of _ (by decide +kernel)) ggX10_firstCommonLetter_X3_nextPlace
theorem dX10_firstCommonLetter_0 : decode cX10_firstCommonLetter 0 = .ok (.iconst 0, 1) := by decide +kernel
theorem dX10_firstCommonLetter_1 : decode cX10_firstCommonLetter 1 = .ok (.istore_n 1, 1) := by decide +kernel
theorem dX10_firstCommonLetter_2 : decode cX10_firstCommonLetter 2 = .ok (.iload_n 1, 1) := by decide +kernel
theorem dX10_firstCommonLetter_3 : decode cX10_firstCommonLetter 3 = .ok (.aload_n 0, 1) := by decide +kernel
theorem dX10_firstCommonLetter_4 : decode cX10_firstCommonLetter 4 = .ok (.getfield 12, 3) := by decide +kernel
theorem dX10_firstCommonLetter_7 : decode cX10_firstCommonLetter 7 = .ok (.getfield 76, 3) := by decide +kernel
theorem dX10_firstCommonLetter_10 : decode cX10_firstCommonLetter 10 = .ok (.getfield 80, 3) := by decide +kernel
theorem dX10_firstCommonLetter_13 : decode cX10_firstCommonLetter 13 = .ok (.if_icmp .ge 35, 3) := by decide +kernel
theorem dX10_firstCommonLetter_16 : decode cX10_firstCommonLetter 16 = .ok (.aload_n 0, 1) := by decide +kernel
theorem dX10_firstCommonLetter_17 : decode cX10_firstCommonLetter 17 = .ok (.getfield 41, 3) := by decide +kernel
theorem dX10_firstCommonLetter_20 : decode cX10_firstCommonLetter 20 = .ok (.iload_n 1, 1) := by decide +kernel
theorem dX10_firstCommonLetter_21 : decode cX10_firstCommonLetter 21 = .ok (.invokevirtual 300, 3) := by decide +kernel
theorem dX10_firstCommonLetter_24 : decode cX10_firstCommonLetter 24 = .ok (.iconst (-1), 1) := by decide +kernel
theorem dX10_firstCommonLetter_25 : decode cX10_firstCommonLetter 25 = .ok (.if_icmp .eq 17, 3) := by decide +kernel
theorem dX10_firstCommonLetter_28 : decode cX10_firstCommonLetter 28 = .ok (.aload_n 0, 1) := by decide +kernel
theorem dX10_firstCommonLetter_29 : decode cX10_firstCommonLetter 29 = .ok (.getfield 45, 3) := by decide +kernel
theorem dX10_firstCommonLetter_32 : decode cX10_firstCommonLetter 32 = .ok (.iload_n 1, 1) := by decide +kernel
theorem dX10_firstCommonLetter_33 : decode cX10_firstCommonLetter 33 = .ok (.invokevirtual 300, 3) := by decide +kernel
theorem dX10_firstCommonLetter_36 : decode cX10_firstCommonLetter 36 = .ok (.iconst (-1), 1) := by decide +kernel
theorem dX10_firstCommonLetter_37 : decode cX10_firstCommonLetter 37 = .ok (.if_icmp .eq 5, 3) := by decide +kernel
theorem dX10_firstCommonLetter_40 : decode cX10_firstCommonLetter 40 = .ok (.iload_n 1, 1) := by decide +kernel
theorem dX10_firstCommonLetter_41 : decode cX10_firstCommonLetter 41 = .ok (.ireturn, 1) := by decide +kernel
theorem dX10_firstCommonLetter_42 : decode cX10_firstCommonLetter 42 = .ok (.iinc 1 1, 3) := by decide +kernel
theorem dX10_firstCommonLetter_45 : decode cX10_firstCommonLetter 45 = .ok (.goto (-43), 3) := by decide +kernel
theorem dX10_firstCommonLetter_48 : decode cX10_firstCommonLetter 48 = .ok (.iconst (-1), 1) := by decide +kernel
theorem dX10_firstCommonLetter_49 : decode cX10_firstCommonLetter 49 = .ok (.ireturn, 1) := by decide +kernel
set_option maxRecDepth 20000 in
theorem ggX10_draftRoot_X10_draftPart : GoodIn wsX10_draftRoot wsX10_draftPart := goodIn_r _ [6, 1, 7, 8, 9, 10, 11, 12, 13, 14, 15, 16, 17, 18, 19, 20, 21, 22, 23, 24, 25, 26, 106, 107, 108, 109, 110, 111, 112, 113, 114, 115, 116, 104, 105] (by decide +kernel) (by decide +kernel)
set_option maxRecDepth 20000 in
theorem gX10_draftRoot_X10_draftPart : GoodIn wsX10_draftRoot (wsV RX10 303 RX10 yX10_draftPart wsX10_draftPart) := goodIn_app (goodIn_of _ (by decide +kernel)) ggX10_draftRoot_X10_draftPart
set_option maxRecDepth 20000 in
theorem ggX10_draftRoot_X10_isDraftPower : GoodIn wsX10_draftRoot wsX10_isDraftPower := goodIn_r _ [30, 31, 32, 1, 33, 34, 35, 36, 37, 38, 39, 40, 41, 42, 43, 44, 45, 46, 14, 15, 10, 16, 12, 17, 47, 48, 49, 50, 51, 52, 53, 54, 55, 56, 57, 58, 59, 60, 61, 62, 63, 64, 65, 66, 67, 68, 69, 70, 71, 72, 73, 74, 75, 76, 77, 78, 79, 80, 81, 82, 83, 84, 85, 86, 87, 88, 89, 90, 91, 92, 93, 94, 95, 96, 97, 98, 99, 106, 107, 108, 109, 110, 111, 112, 113, 114, 115, 116, 117, 118, 119, 120, 121, 122, 123, 124, 125, 126, 127, 128, 104, 105] (by decide +kernel) (by decide +kernel)
set_option maxRecDepth 20000 in
theorem gX10_draftRoot_X10_isDraftPower : GoodIn wsX10_draftRoot (wsV RX10 307 RX10 yX10_isDraftPower wsX10_isDraftPower) := goodIn_app (goodIn_of _ (by decide +kernel)) ggX10_draftRoot_X10_isDraftPower
set_option maxRecDepth 20000 in
theorem ggX10_draftRoot_X9_become : GoodIn wsX10_draftRoot wsX9_become := goodIn_r _ [103, 12, 17, 104, 105] (by decide +kernel) (by decide +kernel)
set_option maxRecDepth 20000 in
theorem gX10_draftRoot_X9_become : GoodIn wsX10_draftRoot (wsV RX10 310 RX9 yX9_become wsX9_become) := goodIn_app (goodIn_of _ (by decide +kernel)) ggX10_draftRoot_X9_become
theorem dX10_draftRoot_0 : decode cX10_draftRoot 0 = .ok (.aload_n 1, 1) := by decide +kernel
theorem dX10_draftRoot_1 : decode cX10_draftRoot 1 = .ok (.getfield 123, 3) := by decide +kernel
theorem dX10_draftRoot_4 : decode cX10_draftRoot 4 = .ok (.istore_n 2, 1) := by decide +kernel
theorem dX10_draftRoot_5 : decode cX10_draftRoot 5 = .ok (.iload_n 2, 1) := by decide +kernel
theorem dX10_draftRoot_6 : decode cX10_draftRoot 6 = .ok (.iconst 1, 1) := by decide +kernel
theorem dX10_draftRoot_7 : decode cX10_draftRoot 7 = .ok (.if_icmp .le 29, 3) := by decide +kernel
theorem dX10_draftRoot_10 : decode cX10_draftRoot 10 = .ok (.aload_n 0, 1) := by decide +kernel
theorem dX10_draftRoot_11 : decode cX10_draftRoot 11 = .ok (.aload_n 1, 1) := by decide +kernel
theorem dX10_draftRoot_12 : decode cX10_draftRoot 12 = .ok (.iload_n 2, 1) := by decide +kernel
theorem dX10_draftRoot_13 : decode cX10_draftRoot 13 = .ok (.invokevirtual 303, 3) := by decide +kernel
theorem dX10_draftRoot_16 : decode cX10_draftRoot 16 = .ok (.ifCond .eq 14, 3) := by decide +kernel
theorem dX10_draftRoot_19 : decode cX10_draftRoot 19 = .ok (.aload_n 0, 1) := by decide +kernel
theorem dX10_draftRoot_20 : decode cX10_draftRoot 20 = .ok (.aload_n 1, 1) := by decide +kernel
theorem dX10_draftRoot_21 : decode cX10_draftRoot 21 = .ok (.iload_n 2, 1) := by decide +kernel
theorem dX10_draftRoot_22 : decode cX10_draftRoot 22 = .ok (.invokevirtual 307, 3) := by decide +kernel
theorem dX10_draftRoot_25 : decode cX10_draftRoot 25 = .ok (.ifCond .eq 5, 3) := by decide +kernel
theorem dX10_draftRoot_28 : decode cX10_draftRoot 28 = .ok (.iload_n 2, 1) := by decide +kernel
theorem dX10_draftRoot_29 : decode cX10_draftRoot 29 = .ok (.ireturn, 1) := by decide +kernel
theorem dX10_draftRoot_30 : decode cX10_draftRoot 30 = .ok (.iinc 2 (-1), 3) := by decide +kernel
theorem dX10_draftRoot_33 : decode cX10_draftRoot 33 = .ok (.goto (-28), 3) := by decide +kernel
theorem dX10_draftRoot_36 : decode cX10_draftRoot 36 = .ok (.aload_n 0, 1) := by decide +kernel
theorem dX10_draftRoot_37 : decode cX10_draftRoot 37 = .ok (.getfield 34, 3) := by decide +kernel
theorem dX10_draftRoot_40 : decode cX10_draftRoot 40 = .ok (.aload_n 1, 1) := by decide +kernel
theorem dX10_draftRoot_41 : decode cX10_draftRoot 41 = .ok (.invokevirtual 310, 3) := by decide +kernel
theorem dX10_draftRoot_44 : decode cX10_draftRoot 44 = .ok (.iconst 1, 1) := by decide +kernel
theorem dX10_draftRoot_45 : decode cX10_draftRoot 45 = .ok (.ireturn, 1) := by decide +kernel
set_option maxRecDepth 20000 in
theorem ggX10_draftPart_X9_empty : GoodIn wsX10_draftPart wsX9_empty := goodIn_r _ [6, 7, 33, 34] (by decide +kernel) (by decide +kernel)
set_option maxRecDepth 20000 in
theorem gX10_draftPart_X9_empty : GoodIn wsX10_draftPart (wsV RX10 129 RX9 yX9_empty wsX9_empty) := goodIn_app (goodIn_of _ (by decide +kernel)) ggX10_draftPart_X9_empty
set_option maxRecDepth 20000 in
theorem ggX10_draftPart_X9_at : GoodIn wsX10_draftPart wsX9_at := goodIn_r _ [11, 7, 12, 33, 34] (by decide +kernel) (by decide +kernel)
set_option maxRecDepth 20000 in
theorem gX10_draftPart_X9_at : GoodIn wsX10_draftPart (wsV RX10 150 RX9 yX9_at wsX9_at) := goodIn_app (goodIn_of _ (by decide +kernel)) ggX10_draftPart_X9_at
set_option maxRecDepth 20000 in
theorem ggX10_draftPart_X9_countBefore : GoodIn wsX10_draftPart wsX9_countBefore := goodIn_r _ [16, 7, 17, 9, 10, 5, 11, 12, 33, 34] (by decide +kernel) (by decide +kernel)
set_option maxRecDepth 20000 in
theorem gX10_draftPart_X9_countBefore : GoodIn wsX10_draftPart (wsV RX10 312 RX9 yX9_countBefore wsX9_countBefore) := goodIn_app (goodIn_of _ (by decide +kernel)) ggX10_draftPart_X9_countBefore
set_option maxRecDepth 20000 in
theorem ggX10_draftPart_X9_push : GoodIn wsX10_draftPart wsX9_push := goodIn_r _ [21, 7, 12, 33, 34] (by decide +kernel) (by decide +kernel)
set_option maxRecDepth 20000 in
theorem gX10_draftPart_X9_push : GoodIn wsX10_draftPart (wsV RX10 126 RX9 yX9_push wsX9_push) := goodIn_app (goodIn_of _ (by decide +kernel)) ggX10_draftPart_X9_push
theorem dX10_draftPart_0 : decode cX10_draftPart 0 = .ok (.aload_n 0, 1) := by decide +kernel
theorem dX10_draftPart_1 : decode cX10_draftPart 1 = .ok (.getfield 34, 3) := by decide +kernel
theorem dX10_draftPart_4 : decode cX10_draftPart 4 = .ok (.invokevirtual 129, 3) := by decide +kernel
theorem dX10_draftPart_7 : decode cX10_draftPart 7 = .ok (.iload_n 2, 1) := by decide +kernel
theorem dX10_draftPart_8 : decode cX10_draftPart 8 = .ok (.iconst 1, 1) := by decide +kernel
theorem dX10_draftPart_9 : decode cX10_draftPart 9 = .ok (.if_icmp .ge 5, 3) := by decide +kernel
theorem dX10_draftPart_12 : decode cX10_draftPart 12 = .ok (.iconst 0, 1) := by decide +kernel
theorem dX10_draftPart_13 : decode cX10_draftPart 13 = .ok (.ireturn, 1) := by decide +kernel
theorem dX10_draftPart_14 : decode cX10_draftPart 14 = .ok (.iconst 0, 1) := by decide +kernel
theorem dX10_draftPart_15 : decode cX10_draftPart 15 = .ok (.istore_n 3, 1) := by decide +kernel
theorem dX10_draftPart_16 : decode cX10_draftPart 16 = .ok (.iload_n 3, 1) := by decide +kernel
theorem dX10_draftPart_17 : decode cX10_draftPart 17 = .ok (.aload_n 1, 1) := by decide +kernel
theorem dX10_draftPart_18 : decode cX10_draftPart 18 = .ok (.getfield 123, 3) := by decide +kernel
theorem dX10_draftPart_21 : decode cX10_draftPart 21 = .ok (.if_icmp .ge 60, 3) := by decide +kernel
theorem dX10_draftPart_24 : decode cX10_draftPart 24 = .ok (.aload_n 1, 1) := by decide +kernel
theorem dX10_draftPart_25 : decode cX10_draftPart 25 = .ok (.iload_n 3, 1) := by decide +kernel
theorem dX10_draftPart_26 : decode cX10_draftPart 26 = .ok (.invokevirtual 150, 3) := by decide +kernel
theorem dX10_draftPart_29 : decode cX10_draftPart 29 = .ok (.istore 4, 2) := by decide +kernel
theorem dX10_draftPart_31 : decode cX10_draftPart 31 = .ok (.aload_n 1, 1) := by decide +kernel
theorem dX10_draftPart_32 : decode cX10_draftPart 32 = .ok (.iload 4, 2) := by decide +kernel
theorem dX10_draftPart_34 : decode cX10_draftPart 34 = .ok (.aload_n 1, 1) := by decide +kernel
theorem dX10_draftPart_35 : decode cX10_draftPart 35 = .ok (.getfield 123, 3) := by decide +kernel
theorem dX10_draftPart_38 : decode cX10_draftPart 38 = .ok (.invokevirtual 312, 3) := by decide +kernel
theorem dX10_draftPart_41 : decode cX10_draftPart 41 = .ok (.istore 5, 2) := by decide +kernel
theorem dX10_draftPart_43 : decode cX10_draftPart 43 = .ok (.iload 5, 2) := by decide +kernel
theorem dX10_draftPart_45 : decode cX10_draftPart 45 = .ok (.iload_n 2, 1) := by decide +kernel
theorem dX10_draftPart_46 : decode cX10_draftPart 46 = .ok (.irem, 1) := by decide +kernel
theorem dX10_draftPart_47 : decode cX10_draftPart 47 = .ok (.ifCond .eq 5, 3) := by decide +kernel
theorem dX10_draftPart_50 : decode cX10_draftPart 50 = .ok (.iconst 0, 1) := by decide +kernel
theorem dX10_draftPart_51 : decode cX10_draftPart 51 = .ok (.ireturn, 1) := by decide +kernel
theorem dX10_draftPart_52 : decode cX10_draftPart 52 = .ok (.aload_n 1, 1) := by decide +kernel
theorem dX10_draftPart_53 : decode cX10_draftPart 53 = .ok (.iload 4, 2) := by decide +kernel
theorem dX10_draftPart_55 : decode cX10_draftPart 55 = .ok (.iload_n 3, 1) := by decide +kernel
theorem dX10_draftPart_56 : decode cX10_draftPart 56 = .ok (.invokevirtual 312, 3) := by decide +kernel
theorem dX10_draftPart_59 : decode cX10_draftPart 59 = .ok (.iload 5, 2) := by decide +kernel
theorem dX10_draftPart_61 : decode cX10_draftPart 61 = .ok (.iload_n 2, 1) := by decide +kernel
theorem dX10_draftPart_62 : decode cX10_draftPart 62 = .ok (.idiv, 1) := by decide +kernel
theorem dX10_draftPart_63 : decode cX10_draftPart 63 = .ok (.if_icmp .ge 12, 3) := by decide +kernel
theorem dX10_draftPart_66 : decode cX10_draftPart 66 = .ok (.aload_n 0, 1) := by decide +kernel
theorem dX10_draftPart_67 : decode cX10_draftPart 67 = .ok (.getfield 34, 3) := by decide +kernel
theorem dX10_draftPart_70 : decode cX10_draftPart 70 = .ok (.iload 4, 2) := by decide +kernel
theorem dX10_draftPart_72 : decode cX10_draftPart 72 = .ok (.invokevirtual 126, 3) := by decide +kernel
theorem dX10_draftPart_75 : decode cX10_draftPart 75 = .ok (.iinc 3 1, 3) := by decide +kernel
theorem dX10_draftPart_78 : decode cX10_draftPart 78 = .ok (.goto (-62), 3) := by decide +kernel
theorem dX10_draftPart_81 : decode cX10_draftPart 81 = .ok (.iconst 1, 1) := by decide +kernel
theorem dX10_draftPart_82 : decode cX10_draftPart 82 = .ok (.ireturn, 1) := by decide +kernel
set_option maxRecDepth 20000 in
theorem ggX10_isDraftPower_X3_lay : GoodIn wsX10_isDraftPower wsX3_lay := goodIn_r _ [8, 9, 10, 11, 12, 13, 14, 15, 16, 17, 18, 19, 20, 21, 22, 23, 24, 25, 26, 7, 27, 28, 29, 30, 31, 32, 33, 34, 35, 36, 37, 38, 39, 40, 41, 42, 43, 44, 45, 91, 92, 93, 94, 95, 96, 97, 98, 99, 100, 101] (by decide +kernel) (by decide +kernel)
set_option maxRecDepth 20000 in
theorem gX10_isDraftPower_X3_lay : GoodIn wsX10_isDraftPower (wsV RX10 174 RX3 yX3_lay wsX3_lay) := goodIn_app (goodIn_of _ (by decide +kernel)) ggX10_isDraftPower_X3_lay
set_option maxRecDepth 20000 in
theorem ggX10_isDraftPower_X3_takeAll : GoodIn wsX10_isDraftPower wsX3_takeAll := goodIn_r _ [49, 17, 18, 19, 20, 21, 22, 23, 50, 51, 52, 7, 53, 11, 54, 55, 56, 57, 12, 34, 58, 59, 60, 61, 62, 100, 101, 93, 94, 95, 96, 97, 98, 99] (by decide +kernel) (by decide +kernel)
set_option maxRecDepth 20000 in
theorem gX10_isDraftPower_X3_takeAll : GoodIn wsX10_isDraftPower (wsV RX10 162 RX3 yX3_takeAll wsX3_takeAll) := goodIn_app (goodIn_of _ (by decide +kernel)) ggX10_isDraftPower_X3_takeAll
set_option maxRecDepth 20000 in
theorem ggX10_isDraftPower_X3_allTaken : GoodIn wsX10_isDraftPower wsX3_allTaken := goodIn_r _ [66, 67, 68, 69, 7, 70, 10, 11, 71, 72, 60, 73, 74, 75, 76, 93, 94, 95, 96, 97, 98, 99] (by decide +kernel) (by decide +kernel)
set_option maxRecDepth 20000 in
theorem gX10_isDraftPower_X3_allTaken : GoodIn wsX10_isDraftPower (wsV RX10 166 RX3 yX3_allTaken wsX3_allTaken) := goodIn_app (goodIn_of _ (by decide +kernel)) ggX10_isDraftPower_X3_allTaken
theorem dX10_isDraftPower_0 : decode cX10_isDraftPower 0 = .ok (.aload_n 0, 1) := by decide +kernel
theorem dX10_isDraftPower_1 : decode cX10_isDraftPower 1 = .ok (.getfield 41, 3) := by decide +kernel
theorem dX10_isDraftPower_4 : decode cX10_isDraftPower 4 = .ok (.aload_n 0, 1) := by decide +kernel
theorem dX10_isDraftPower_5 : decode cX10_isDraftPower 5 = .ok (.getfield 12, 3) := by decide +kernel
theorem dX10_isDraftPower_8 : decode cX10_isDraftPower 8 = .ok (.getfield 76, 3) := by decide +kernel
theorem dX10_isDraftPower_11 : decode cX10_isDraftPower 11 = .ok (.aload_n 1, 1) := by decide +kernel
theorem dX10_isDraftPower_12 : decode cX10_isDraftPower 12 = .ok (.invokevirtual 174, 3) := by decide +kernel
theorem dX10_isDraftPower_15 : decode cX10_isDraftPower 15 = .ok (.iconst 0, 1) := by decide +kernel
theorem dX10_isDraftPower_16 : decode cX10_isDraftPower 16 = .ok (.istore_n 3, 1) := by decide +kernel
theorem dX10_isDraftPower_17 : decode cX10_isDraftPower 17 = .ok (.iload_n 3, 1) := by decide +kernel
theorem dX10_isDraftPower_18 : decode cX10_isDraftPower 18 = .ok (.iload_n 2, 1) := by decide +kernel
theorem dX10_isDraftPower_19 : decode cX10_isDraftPower 19 = .ok (.if_icmp .ge 25, 3) := by decide +kernel
theorem dX10_isDraftPower_22 : decode cX10_isDraftPower 22 = .ok (.aload_n 0, 1) := by decide +kernel
theorem dX10_isDraftPower_23 : decode cX10_isDraftPower 23 = .ok (.getfield 41, 3) := by decide +kernel
theorem dX10_isDraftPower_26 : decode cX10_isDraftPower 26 = .ok (.aload_n 0, 1) := by decide +kernel
theorem dX10_isDraftPower_27 : decode cX10_isDraftPower 27 = .ok (.getfield 34, 3) := by decide +kernel
theorem dX10_isDraftPower_30 : decode cX10_isDraftPower 30 = .ok (.invokevirtual 162, 3) := by decide +kernel
theorem dX10_isDraftPower_33 : decode cX10_isDraftPower 33 = .ok (.ifCond .ne 5, 3) := by decide +kernel
theorem dX10_isDraftPower_36 : decode cX10_isDraftPower 36 = .ok (.iconst 0, 1) := by decide +kernel
theorem dX10_isDraftPower_37 : decode cX10_isDraftPower 37 = .ok (.ireturn, 1) := by decide +kernel
theorem dX10_isDraftPower_38 : decode cX10_isDraftPower 38 = .ok (.iinc 3 1, 3) := by decide +kernel
theorem dX10_isDraftPower_41 : decode cX10_isDraftPower 41 = .ok (.goto (-24), 3) := by decide +kernel
theorem dX10_isDraftPower_44 : decode cX10_isDraftPower 44 = .ok (.aload_n 0, 1) := by decide +kernel
theorem dX10_isDraftPower_45 : decode cX10_isDraftPower 45 = .ok (.getfield 41, 3) := by decide +kernel
theorem dX10_isDraftPower_48 : decode cX10_isDraftPower 48 = .ok (.invokevirtual 166, 3) := by decide +kernel
theorem dX10_isDraftPower_51 : decode cX10_isDraftPower 51 = .ok (.ireturn, 1) := by decide +kernel
