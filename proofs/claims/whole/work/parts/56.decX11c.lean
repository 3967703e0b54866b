theorem dX11_builds_79 : decode cX11_builds 79 = .ok (.aload_n 0, 1) := by decide +kernel
theorem dX11_builds_80 : decode cX11_builds 80 = .ok (.getfield 81, 3) := by decide +kernel
theorem dX11_builds_83 : decode cX11_builds 83 = .ok (.iload_n 1, 1) := by decide +kernel
theorem dX11_builds_84 : decode cX11_builds 84 = .ok (.iaload, 1) := by decide +kernel
theorem dX11_builds_85 : decode cX11_builds 85 = .ok (.iload_n 3, 1) := by decide +kernel
theorem dX11_builds_86 : decode cX11_builds 86 = .ok (.iastore, 1) := by decide +kernel
theorem dX11_builds_87 : decode cX11_builds 87 = .ok (.aload_n 0, 1) := by decide +kernel
theorem dX11_builds_88 : decode cX11_builds 88 = .ok (.getfield 72, 3) := by decide +kernel
theorem dX11_builds_91 : decode cX11_builds 91 = .ok (.aload_n 0, 1) := by decide +kernel
theorem dX11_builds_92 : decode cX11_builds 92 = .ok (.getfield 81, 3) := by decide +kernel
theorem dX11_builds_95 : decode cX11_builds 95 = .ok (.iload_n 1, 1) := by decide +kernel
theorem dX11_builds_96 : decode cX11_builds 96 = .ok (.iaload, 1) := by decide +kernel
theorem dX11_builds_97 : decode cX11_builds 97 = .ok (.aload_n 0, 1) := by decide +kernel
theorem dX11_builds_98 : decode cX11_builds 98 = .ok (.getfield 84, 3) := by decide +kernel
theorem dX11_builds_101 : decode cX11_builds 101 = .ok (.iload_n 1, 1) := by decide +kernel
theorem dX11_builds_102 : decode cX11_builds 102 = .ok (.iaload, 1) := by decide +kernel
theorem dX11_builds_103 : decode cX11_builds 103 = .ok (.iastore, 1) := by decide +kernel
theorem dX11_builds_104 : decode cX11_builds 104 = .ok (.iinc 1 1, 3) := by decide +kernel
theorem dX11_builds_107 : decode cX11_builds 107 = .ok (.goto 71, 3) := by decide +kernel
theorem dX11_builds_110 : decode cX11_builds 110 = .ok (.iload_n 3, 1) := by decide +kernel
theorem dX11_builds_111 : decode cX11_builds 111 = .ok (.bipush 11, 2) := by decide +kernel
theorem dX11_builds_113 : decode cX11_builds 113 = .ok (.if_icmp .ne 41, 3) := by decide +kernel
theorem dX11_builds_116 : decode cX11_builds 116 = .ok (.iinc 1 (-1), 3) := by decide +kernel
theorem dX11_builds_119 : decode cX11_builds 119 = .ok (.aload_n 0, 1) := by decide +kernel
theorem dX11_builds_120 : decode cX11_builds 120 = .ok (.aload_n 0, 1) := by decide +kernel
theorem dX11_builds_121 : decode cX11_builds 121 = .ok (.getfield 84, 3) := by decide +kernel
theorem dX11_builds_124 : decode cX11_builds 124 = .ok (.iload_n 1, 1) := by decide +kernel
theorem dX11_builds_125 : decode cX11_builds 125 = .ok (.iconst 1, 1) := by decide +kernel
theorem dX11_builds_126 : decode cX11_builds 126 = .ok (.isub, 1) := by decide +kernel
theorem dX11_builds_127 : decode cX11_builds 127 = .ok (.iaload, 1) := by decide +kernel
theorem dX11_builds_128 : decode cX11_builds 128 = .ok (.aload_n 0, 1) := by decide +kernel
theorem dX11_builds_129 : decode cX11_builds 129 = .ok (.getfield 81, 3) := by decide +kernel
theorem dX11_builds_132 : decode cX11_builds 132 = .ok (.iload_n 1, 1) := by decide +kernel
theorem dX11_builds_133 : decode cX11_builds 133 = .ok (.iaload, 1) := by decide +kernel
theorem dX11_builds_134 : decode cX11_builds 134 = .ok (.invokevirtual 262, 3) := by decide +kernel
theorem dX11_builds_137 : decode cX11_builds 137 = .ok (.aload_n 0, 1) := by decide +kernel
theorem dX11_builds_138 : decode cX11_builds 138 = .ok (.getfield 84, 3) := by decide +kernel
theorem dX11_builds_141 : decode cX11_builds 141 = .ok (.iload_n 1, 1) := by decide +kernel
theorem dX11_builds_142 : decode cX11_builds 142 = .ok (.iconst 1, 1) := by decide +kernel
theorem dX11_builds_143 : decode cX11_builds 143 = .ok (.isub, 1) := by decide +kernel
theorem dX11_builds_144 : decode cX11_builds 144 = .ok (.aload_n 0, 1) := by decide +kernel
theorem dX11_builds_145 : decode cX11_builds 145 = .ok (.getfield 84, 3) := by decide +kernel
theorem dX11_builds_148 : decode cX11_builds 148 = .ok (.iload_n 1, 1) := by decide +kernel
theorem dX11_builds_149 : decode cX11_builds 149 = .ok (.iaload, 1) := by decide +kernel
theorem dX11_builds_150 : decode cX11_builds 150 = .ok (.iastore, 1) := by decide +kernel
theorem dX11_builds_151 : decode cX11_builds 151 = .ok (.goto 27, 3) := by decide +kernel
theorem dX11_builds_154 : decode cX11_builds 154 = .ok (.iload_n 3, 1) := by decide +kernel
theorem dX11_builds_155 : decode cX11_builds 155 = .ok (.bipush 12, 2) := by decide +kernel
theorem dX11_builds_157 : decode cX11_builds 157 = .ok (.if_icmp .ne 14, 3) := by decide +kernel
theorem dX11_builds_160 : decode cX11_builds 160 = .ok (.iinc 1 (-1), 3) := by decide +kernel
theorem dX11_builds_163 : decode cX11_builds 163 = .ok (.aload_n 0, 1) := by decide +kernel
theorem dX11_builds_164 : decode cX11_builds 164 = .ok (.iload_n 1, 1) := by decide +kernel
theorem dX11_builds_165 : decode cX11_builds 165 = .ok (.invokevirtual 265, 3) := by decide +kernel
theorem dX11_builds_168 : decode cX11_builds 168 = .ok (.goto 10, 3) := by decide +kernel
theorem dX11_builds_171 : decode cX11_builds 171 = .ok (.aload_n 0, 1) := by decide +kernel
theorem dX11_builds_172 : decode cX11_builds 172 = .ok (.iload_n 1, 1) := by decide +kernel
theorem dX11_builds_173 : decode cX11_builds 173 = .ok (.iconst 1, 1) := by decide +kernel
theorem dX11_builds_174 : decode cX11_builds 174 = .ok (.isub, 1) := by decide +kernel
theorem dX11_builds_175 : decode cX11_builds 175 = .ok (.invokevirtual 268, 3) := by decide +kernel
theorem dX11_builds_178 : decode cX11_builds 178 = .ok (.iinc 2 1, 3) := by decide +kernel
theorem dX11_builds_181 : decode cX11_builds 181 = .ok (.goto (-172), 3) := by decide +kernel
theorem dX11_builds_184 : decode cX11_builds 184 = .ok (.aload_n 0, 1) := by decide +kernel
theorem dX11_builds_185 : decode cX11_builds 185 = .ok (.getfield 81, 3) := by decide +kernel
theorem dX11_builds_188 : decode cX11_builds 188 = .ok (.iconst 0, 1) := by decide +kernel
theorem dX11_builds_189 : decode cX11_builds 189 = .ok (.iaload, 1) := by decide +kernel
theorem dX11_builds_190 : decode cX11_builds 190 = .ok (.ireturn, 1) := by decide +kernel
set_option maxRecDepth 20000 in
theorem ggX11_sums_X11_state : GoodIn wsX11_sums wsX11_state := goodIn_r _ [7, 8, 9, 10, 11, 16, 17, 18, 19, 20, 21, 22, 23, 24, 25, 26, 27, 28, 29, 30, 31, 32, 33, 34, 35, 36, 37, 38, 39, 40, 41, 42, 43, 44, 45, 46, 47, 48, 49, 50, 51, 52, 53, 54] (by decide +kernel) (by decide +kernel)
set_option maxRecDepth 20000 in
theorem gX11_sums_X11_state : GoodIn wsX11_sums (wsV RX11 259 RX11 yX11_state wsX11_state) := goodIn_app (goodIn_of _ (by decide +kernel)) ggX11_sums_X11_state
set_option maxRecDepth 20000 in
theorem ggX11_sums_X11_joins : GoodIn wsX11_sums wsX11_joins := goodIn_r _ [15, 10, 11, 16, 17, 18, 19, 20, 21, 22, 23, 24, 25, 26, 27, 28, 29, 30, 31, 32, 33, 34, 35, 36, 37, 38, 39, 40, 41, 42, 43, 44, 45, 46, 47, 48, 49, 50, 51, 52, 53, 54] (by decide +kernel) (by decide +kernel)
set_option maxRecDepth 20000 in
theorem gX11_sums_X11_joins : GoodIn wsX11_sums (wsV RX11 262 RX11 yX11_joins wsX11_joins) := goodIn_app (goodIn_of _ (by decide +kernel)) ggX11_sums_X11_joins
theorem dX11_sums_0 : decode cX11_sums 0 = .ok (.aload_n 0, 1) := by decide +kernel
theorem dX11_sums_1 : decode cX11_sums 1 = .ok (.invokevirtual 259, 3) := by decide +kernel
theorem dX11_sums_4 : decode cX11_sums 4 = .ok (.istore_n 2, 1) := by decide +kernel
theorem dX11_sums_5 : decode cX11_sums 5 = .ok (.aload_n 0, 1) := by decide +kernel
theorem dX11_sums_6 : decode cX11_sums 6 = .ok (.invokevirtual 259, 3) := by decide +kernel
theorem dX11_sums_9 : decode cX11_sums 9 = .ok (.istore_n 3, 1) := by decide +kernel
theorem dX11_sums_10 : decode cX11_sums 10 = .ok (.aload_n 0, 1) := by decide +kernel
theorem dX11_sums_11 : decode cX11_sums 11 = .ok (.iload_n 2, 1) := by decide +kernel
theorem dX11_sums_12 : decode cX11_sums 12 = .ok (.aload_n 0, 1) := by decide +kernel
theorem dX11_sums_13 : decode cX11_sums 13 = .ok (.getfield 81, 3) := by decide +kernel
theorem dX11_sums_16 : decode cX11_sums 16 = .ok (.iload_n 1, 1) := by decide +kernel
theorem dX11_sums_17 : decode cX11_sums 17 = .ok (.iconst 1, 1) := by decide +kernel
theorem dX11_sums_18 : decode cX11_sums 18 = .ok (.isub, 1) := by decide +kernel
theorem dX11_sums_19 : decode cX11_sums 19 = .ok (.iaload, 1) := by decide +kernel
theorem dX11_sums_20 : decode cX11_sums 20 = .ok (.invokevirtual 262, 3) := by decide +kernel
theorem dX11_sums_23 : decode cX11_sums 23 = .ok (.aload_n 0, 1) := by decide +kernel
theorem dX11_sums_24 : decode cX11_sums 24 = .ok (.iload_n 2, 1) := by decide +kernel
theorem dX11_sums_25 : decode cX11_sums 25 = .ok (.aload_n 0, 1) := by decide +kernel
theorem dX11_sums_26 : decode cX11_sums 26 = .ok (.getfield 81, 3) := by decide +kernel
theorem dX11_sums_29 : decode cX11_sums 29 = .ok (.iload_n 1, 1) := by decide +kernel
theorem dX11_sums_30 : decode cX11_sums 30 = .ok (.iaload, 1) := by decide +kernel
theorem dX11_sums_31 : decode cX11_sums 31 = .ok (.invokevirtual 262, 3) := by decide +kernel
theorem dX11_sums_34 : decode cX11_sums 34 = .ok (.aload_n 0, 1) := by decide +kernel
theorem dX11_sums_35 : decode cX11_sums 35 = .ok (.aload_n 0, 1) := by decide +kernel
theorem dX11_sums_36 : decode cX11_sums 36 = .ok (.getfield 84, 3) := by decide +kernel
theorem dX11_sums_39 : decode cX11_sums 39 = .ok (.iload_n 1, 1) := by decide +kernel
theorem dX11_sums_40 : decode cX11_sums 40 = .ok (.iconst 1, 1) := by decide +kernel
theorem dX11_sums_41 : decode cX11_sums 41 = .ok (.isub, 1) := by decide +kernel
theorem dX11_sums_42 : decode cX11_sums 42 = .ok (.iaload, 1) := by decide +kernel
theorem dX11_sums_43 : decode cX11_sums 43 = .ok (.iload_n 3, 1) := by decide +kernel
theorem dX11_sums_44 : decode cX11_sums 44 = .ok (.invokevirtual 262, 3) := by decide +kernel
theorem dX11_sums_47 : decode cX11_sums 47 = .ok (.aload_n 0, 1) := by decide +kernel
theorem dX11_sums_48 : decode cX11_sums 48 = .ok (.aload_n 0, 1) := by decide +kernel
theorem dX11_sums_49 : decode cX11_sums 49 = .ok (.getfield 84, 3) := by decide +kernel
theorem dX11_sums_52 : decode cX11_sums 52 = .ok (.iload_n 1, 1) := by decide +kernel
theorem dX11_sums_53 : decode cX11_sums 53 = .ok (.iaload, 1) := by decide +kernel
theorem dX11_sums_54 : decode cX11_sums 54 = .ok (.iload_n 3, 1) := by decide +kernel
theorem dX11_sums_55 : decode cX11_sums 55 = .ok (.invokevirtual 262, 3) := by decide +kernel
theorem dX11_sums_58 : decode cX11_sums 58 = .ok (.aload_n 0, 1) := by decide +kernel
theorem dX11_sums_59 : decode cX11_sums 59 = .ok (.getfield 81, 3) := by decide +kernel
theorem dX11_sums_62 : decode cX11_sums 62 = .ok (.iload_n 1, 1) := by decide +kernel
theorem dX11_sums_63 : decode cX11_sums 63 = .ok (.iconst 1, 1) := by decide +kernel
theorem dX11_sums_64 : decode cX11_sums 64 = .ok (.isub, 1) := by decide +kernel
theorem dX11_sums_65 : decode cX11_sums 65 = .ok (.iload_n 2, 1) := by decide +kernel
theorem dX11_sums_66 : decode cX11_sums 66 = .ok (.iastore, 1) := by decide +kernel
theorem dX11_sums_67 : decode cX11_sums 67 = .ok (.aload_n 0, 1) := by decide +kernel
theorem dX11_sums_68 : decode cX11_sums 68 = .ok (.getfield 84, 3) := by decide +kernel
theorem dX11_sums_71 : decode cX11_sums 71 = .ok (.iload_n 1, 1) := by decide +kernel
theorem dX11_sums_72 : decode cX11_sums 72 = .ok (.iconst 1, 1) := by decide +kernel
theorem dX11_sums_73 : decode cX11_sums 73 = .ok (.isub, 1) := by decide +kernel
theorem dX11_sums_74 : decode cX11_sums 74 = .ok (.iload_n 3, 1) := by decide +kernel
theorem dX11_sums_75 : decode cX11_sums 75 = .ok (.iastore, 1) := by decide +kernel
theorem dX11_sums_76 : decode cX11_sums 76 = .ok (.return_, 1) := by decide +kernel
set_option maxRecDepth 20000 in
theorem ggX11_stars_X11_state : GoodIn wsX11_stars wsX11_state := goodIn_r _ [7, 8, 9, 10, 11, 16, 17, 18, 19, 20, 21, 22, 23, 24, 25, 26, 27, 28, 29, 30, 31, 32, 33, 34, 35, 36, 37, 38, 39, 40, 41, 42, 43, 44, 45, 46, 47, 48, 49, 50, 51, 52, 53, 54] (by decide +kernel) (by decide +kernel)
set_option maxRecDepth 20000 in
theorem gX11_stars_X11_state : GoodIn wsX11_stars (wsV RX11 259 RX11 yX11_state wsX11_state) := goodIn_app (goodIn_of _ (by decide +kernel)) ggX11_stars_X11_state
set_option maxRecDepth 20000 in
theorem ggX11_stars_X11_joins : GoodIn wsX11_stars wsX11_joins := goodIn_r _ [15, 10, 11, 16, 17, 18, 19, 20, 21, 22, 23, 24, 25, 26, 27, 28, 29, 30, 31, 32, 33, 34, 35, 36, 37, 38, 39, 40, 41, 42, 43, 44, 45, 46, 47, 48, 49, 50, 51, 52, 53, 54] (by decide +kernel) (by decide +kernel)
set_option maxRecDepth 20000 in
theorem gX11_stars_X11_joins : GoodIn wsX11_stars (wsV RX11 262 RX11 yX11_joins wsX11_joins) := goodIn_app (goodIn_of _ (by decide +kernel)) ggX11_stars_X11_joins
theorem dX11_stars_0 : decode cX11_stars 0 = .ok (.aload_n 0, 1) := by decide +kernel
theorem dX11_stars_1 : decode cX11_stars 1 = .ok (.invokevirtual 259, 3) := by decide +kernel
theorem dX11_stars_4 : decode cX11_stars 4 = .ok (.istore_n 2, 1) := by decide +kernel
theorem dX11_stars_5 : decode cX11_stars 5 = .ok (.aload_n 0, 1) := by decide +kernel
theorem dX11_stars_6 : decode cX11_stars 6 = .ok (.invokevirtual 259, 3) := by decide +kernel
theorem dX11_stars_9 : decode cX11_stars 9 = .ok (.istore_n 3, 1) := by decide +kernel
theorem dX11_stars_10 : decode cX11_stars 10 = .ok (.aload_n 0, 1) := by decide +kernel
theorem dX11_stars_11 : decode cX11_stars 11 = .ok (.iload_n 2, 1) := by decide +kernel
theorem dX11_stars_12 : decode cX11_stars 12 = .ok (.aload_n 0, 1) := by decide +kernel
theorem dX11_stars_13 : decode cX11_stars 13 = .ok (.getfield 81, 3) := by decide +kernel
theorem dX11_stars_16 : decode cX11_stars 16 = .ok (.iload_n 1, 1) := by decide +kernel
theorem dX11_stars_17 : decode cX11_stars 17 = .ok (.iaload, 1) := by decide +kernel
theorem dX11_stars_18 : decode cX11_stars 18 = .ok (.invokevirtual 262, 3) := by decide +kernel
theorem dX11_stars_21 : decode cX11_stars 21 = .ok (.aload_n 0, 1) := by decide +kernel
theorem dX11_stars_22 : decode cX11_stars 22 = .ok (.iload_n 2, 1) := by decide +kernel
theorem dX11_stars_23 : decode cX11_stars 23 = .ok (.iload_n 3, 1) := by decide +kernel
theorem dX11_stars_24 : decode cX11_stars 24 = .ok (.invokevirtual 262, 3) := by decide +kernel
theorem dX11_stars_27 : decode cX11_stars 27 = .ok (.aload_n 0, 1) := by decide +kernel
theorem dX11_stars_28 : decode cX11_stars 28 = .ok (.aload_n 0, 1) := by decide +kernel
theorem dX11_stars_29 : decode cX11_stars 29 = .ok (.getfield 84, 3) := by decide +kernel
theorem dX11_stars_32 : decode cX11_stars 32 = .ok (.iload_n 1, 1) := by decide +kernel
theorem dX11_stars_33 : decode cX11_stars 33 = .ok (.iaload, 1) := by decide +kernel
theorem dX11_stars_34 : decode cX11_stars 34 = .ok (.aload_n 0, 1) := by decide +kernel
theorem dX11_stars_35 : decode cX11_stars 35 = .ok (.getfield 81, 3) := by decide +kernel
theorem dX11_stars_38 : decode cX11_stars 38 = .ok (.iload_n 1, 1) := by decide +kernel
theorem dX11_stars_39 : decode cX11_stars 39 = .ok (.iaload, 1) := by decide +kernel
theorem dX11_stars_40 : decode cX11_stars 40 = .ok (.invokevirtual 262, 3) := by decide +kernel
theorem dX11_stars_43 : decode cX11_stars 43 = .ok (.aload_n 0, 1) := by decide +kernel
theorem dX11_stars_44 : decode cX11_stars 44 = .ok (.aload_n 0, 1) := by decide +kernel
theorem dX11_stars_45 : decode cX11_stars 45 = .ok (.getfield 84, 3) := by decide +kernel
theorem dX11_stars_48 : decode cX11_stars 48 = .ok (.iload_n 1, 1) := by decide +kernel
theorem dX11_stars_49 : decode cX11_stars 49 = .ok (.iaload, 1) := by decide +kernel
theorem dX11_stars_50 : decode cX11_stars 50 = .ok (.iload_n 3, 1) := by decide +kernel
theorem dX11_stars_51 : decode cX11_stars 51 = .ok (.invokevirtual 262, 3) := by decide +kernel
theorem dX11_stars_54 : decode cX11_stars 54 = .ok (.aload_n 0, 1) := by decide +kernel
theorem dX11_stars_55 : decode cX11_stars 55 = .ok (.getfield 81, 3) := by decide +kernel
theorem dX11_stars_58 : decode cX11_stars 58 = .ok (.iload_n 1, 1) := by decide +kernel
theorem dX11_stars_59 : decode cX11_stars 59 = .ok (.iload_n 2, 1) := by decide +kernel
theorem dX11_stars_60 : decode cX11_stars 60 = .ok (.iastore, 1) := by decide +kernel
theorem dX11_stars_61 : decode cX11_stars 61 = .ok (.aload_n 0, 1) := by decide +kernel
theorem dX11_stars_62 : decode cX11_stars 62 = .ok (.getfield 84, 3) := by decide +kernel
theorem dX11_stars_65 : decode cX11_stars 65 = .ok (.iload_n 1, 1) := by decide +kernel
theorem dX11_stars_66 : decode cX11_stars 66 = .ok (.iload_n 3, 1) := by decide +kernel
theorem dX11_stars_67 : decode cX11_stars 67 = .ok (.iastore, 1) := by decide +kernel
theorem dX11_stars_68 : decode cX11_stars 68 = .ok (.return_, 1) := by decide +kernel
theorem dX11_has_0 : decode cX11_has 0 = .ok (.aload_n 0, 1) := by decide +kernel
theorem dX11_has_1 : decode cX11_has 1 = .ok (.getfield 87, 3) := by decide +kernel
theorem dX11_has_4 : decode cX11_has 4 = .ok (.iconst 4, 1) := by decide +kernel
theorem dX11_has_5 : decode cX11_has 5 = .ok (.iload_n 1, 1) := by decide +kernel
theorem dX11_has_6 : decode cX11_has 6 = .ok (.imul, 1) := by decide +kernel
theorem dX11_has_7 : decode cX11_has 7 = .ok (.iload_n 2, 1) := by decide +kernel
theorem dX11_has_8 : decode cX11_has 8 = .ok (.bipush 64, 2) := by decide +kernel
theorem dX11_has_10 : decode cX11_has 10 = .ok (.idiv, 1) := by decide +kernel
theorem dX11_has_11 : decode cX11_has 11 = .ok (.iadd, 1) := by decide +kernel
theorem dX11_has_12 : decode cX11_has 12 = .ok (.laload, 1) := by decide +kernel
theorem dX11_has_13 : decode cX11_has 13 = .ok (.iload_n 2, 1) := by decide +kernel
theorem dX11_has_14 : decode cX11_has 14 = .ok (.bipush 64, 2) := by decide +kernel
theorem dX11_has_16 : decode cX11_has 16 = .ok (.irem, 1) := by decide +kernel
theorem dX11_has_17 : decode cX11_has 17 = .ok (.lshr, 1) := by decide +kernel
theorem dX11_has_18 : decode cX11_has 18 = .ok (.lconst 1, 1) := by decide +kernel
theorem dX11_has_19 : decode cX11_has 19 = .ok (.land, 1) := by decide +kernel
theorem dX11_has_20 : decode cX11_has 20 = .ok (.lconst 1, 1) := by decide +kernel
theorem dX11_has_21 : decode cX11_has 21 = .ok (.lcmp, 1) := by decide +kernel
theorem dX11_has_22 : decode cX11_has 22 = .ok (.ifCond .ne 7, 3) := by decide +kernel
theorem dX11_has_25 : decode cX11_has 25 = .ok (.iconst 1, 1) := by decide +kernel
theorem dX11_has_26 : decode cX11_has 26 = .ok (.goto 4, 3) := by decide +kernel
theorem dX11_has_29 : decode cX11_has 29 = .ok (.iconst 0, 1) := by decide +kernel
theorem dX11_has_30 : decode cX11_has 30 = .ok (.ireturn, 1) := by decide +kernel
set_option maxRecDepth 20000 in
theorem ggX11_comes_X11_has : GoodIn wsX11_comes wsX11_has := goodIn_r _ [9, 2, 10, 11, 12, 13, 14, 15, 16, 17, 18, 19, 20, 21, 22, 23, 24, 25, 26, 27, 28, 29, 30, 31, 32, 33, 34, 35, 36, 37, 38, 39, 40, 41, 42, 43, 44, 45, 46, 47, 48] (by decide +kernel) (by decide +kernel)
set_option maxRecDepth 20000 in
theorem gX11_comes_X11_has : GoodIn wsX11_comes (wsV RX11 271 RX11 yX11_has wsX11_has) := goodIn_app (goodIn_of _ (by decide +kernel)) ggX11_comes_X11_has
theorem dX11_comes_0 : decode cX11_comes 0 = .ok (.iconst 0, 1) := by decide +kernel
theorem dX11_comes_1 : decode cX11_comes 1 = .ok (.istore_n 3, 1) := by decide +kernel
theorem dX11_comes_2 : decode cX11_comes 2 = .ok (.aload_n 0, 1) := by decide +kernel
theorem dX11_comes_3 : decode cX11_comes 3 = .ok (.iload_n 1, 1) := by decide +kernel
theorem dX11_comes_4 : decode cX11_comes 4 = .ok (.iload_n 2, 1) := by decide +kernel
theorem dX11_comes_5 : decode cX11_comes 5 = .ok (.invokevirtual 271, 3) := by decide +kernel
theorem dX11_comes_8 : decode cX11_comes 8 = .ok (.ifCond .ne 34, 3) := by decide +kernel
theorem dX11_comes_11 : decode cX11_comes 11 = .ok (.aload_n 0, 1) := by decide +kernel
theorem dX11_comes_12 : decode cX11_comes 12 = .ok (.getfield 90, 3) := by decide +kernel
theorem dX11_comes_15 : decode cX11_comes 15 = .ok (.iconst 0, 1) := by decide +kernel
theorem dX11_comes_16 : decode cX11_comes 16 = .ok (.iload_n 2, 1) := by decide +kernel
theorem dX11_comes_17 : decode cX11_comes 17 = .ok (.iastore, 1) := by decide +kernel
theorem dX11_comes_18 : decode cX11_comes 18 = .ok (.iconst 1, 1) := by decide +kernel
theorem dX11_comes_19 : decode cX11_comes 19 = .ok (.istore_n 3, 1) := by decide +kernel
theorem dX11_comes_20 : decode cX11_comes 20 = .ok (.aload_n 0, 1) := by decide +kernel
theorem dX11_comes_21 : decode cX11_comes 21 = .ok (.getfield 87, 3) := by decide +kernel
theorem dX11_comes_24 : decode cX11_comes 24 = .ok (.iconst 4, 1) := by decide +kernel
theorem dX11_comes_25 : decode cX11_comes 25 = .ok (.iload_n 1, 1) := by decide +kernel
theorem dX11_comes_26 : decode cX11_comes 26 = .ok (.imul, 1) := by decide +kernel
theorem dX11_comes_27 : decode cX11_comes 27 = .ok (.iload_n 2, 1) := by decide +kernel
theorem dX11_comes_28 : decode cX11_comes 28 = .ok (.bipush 64, 2) := by decide +kernel
theorem dX11_comes_30 : decode cX11_comes 30 = .ok (.idiv, 1) := by decide +kernel
theorem dX11_comes_31 : decode cX11_comes 31 = .ok (.iadd, 1) := by decide +kernel
theorem dX11_comes_32 : decode cX11_comes 32 = .ok (.dup2, 1) := by decide +kernel
theorem dX11_comes_33 : decode cX11_comes 33 = .ok (.laload, 1) := by decide +kernel
theorem dX11_comes_34 : decode cX11_comes 34 = .ok (.lconst 1, 1) := by decide +kernel
theorem dX11_comes_35 : decode cX11_comes 35 = .ok (.iload_n 2, 1) := by decide +kernel
theorem dX11_comes_36 : decode cX11_comes 36 = .ok (.bipush 64, 2) := by decide +kernel
theorem dX11_comes_38 : decode cX11_comes 38 = .ok (.irem, 1) := by decide +kernel
theorem dX11_comes_39 : decode cX11_comes 39 = .ok (.lshl, 1) := by decide +kernel
theorem dX11_comes_40 : decode cX11_comes 40 = .ok (.lor, 1) := by decide +kernel
theorem dX11_comes_41 : decode cX11_comes 41 = .ok (.lastore, 1) := by decide +kernel
theorem dX11_comes_42 : decode cX11_comes 42 = .ok (.iload_n 3, 1) := by decide +kernel
theorem dX11_comes_43 : decode cX11_comes 43 = .ok (.ifCond .le 106, 3) := by decide +kernel
theorem dX11_comes_46 : decode cX11_comes 46 = .ok (.iinc 3 (-1), 3) := by decide +kernel
theorem dX11_comes_49 : decode cX11_comes 49 = .ok (.aload_n 0, 1) := by decide +kernel
theorem dX11_comes_50 : decode cX11_comes 50 = .ok (.getfield 90, 3) := by decide +kernel
theorem dX11_comes_53 : decode cX11_comes 53 = .ok (.iload_n 3, 1) := by decide +kernel
theorem dX11_comes_54 : decode cX11_comes 54 = .ok (.iaload, 1) := by decide +kernel
theorem dX11_comes_55 : decode cX11_comes 55 = .ok (.istore 4, 2) := by decide +kernel
theorem dX11_comes_57 : decode cX11_comes 57 = .ok (.iconst 0, 1) := by decide +kernel
theorem dX11_comes_58 : decode cX11_comes 58 = .ok (.istore 5, 2) := by decide +kernel
theorem dX11_comes_60 : decode cX11_comes 60 = .ok (.iload 5, 2) := by decide +kernel
theorem dX11_comes_62 : decode cX11_comes 62 = .ok (.iconst 2, 1) := by decide +kernel
theorem dX11_comes_63 : decode cX11_comes 63 = .ok (.if_icmp .ge 83, 3) := by decide +kernel
theorem dX11_comes_66 : decode cX11_comes 66 = .ok (.iload 5, 2) := by decide +kernel
theorem dX11_comes_68 : decode cX11_comes 68 = .ok (.ifCond .ne 13, 3) := by decide +kernel
theorem dX11_comes_71 : decode cX11_comes 71 = .ok (.aload_n 0, 1) := by decide +kernel
theorem dX11_comes_72 : decode cX11_comes 72 = .ok (.getfield 75, 3) := by decide +kernel
theorem dX11_comes_75 : decode cX11_comes 75 = .ok (.iload 4, 2) := by decide +kernel
theorem dX11_comes_77 : decode cX11_comes 77 = .ok (.iaload, 1) := by decide +kernel
theorem dX11_comes_78 : decode cX11_comes 78 = .ok (.goto 10, 3) := by decide +kernel
theorem dX11_comes_81 : decode cX11_comes 81 = .ok (.aload_n 0, 1) := by decide +kernel
theorem dX11_comes_82 : decode cX11_comes 82 = .ok (.getfield 78, 3) := by decide +kernel
theorem dX11_comes_85 : decode cX11_comes 85 = .ok (.iload 4, 2) := by decide +kernel
theorem dX11_comes_87 : decode cX11_comes 87 = .ok (.iaload, 1) := by decide +kernel
theorem dX11_comes_88 : decode cX11_comes 88 = .ok (.istore 6, 2) := by decide +kernel
theorem dX11_comes_90 : decode cX11_comes 90 = .ok (.iload 6, 2) := by decide +kernel
theorem dX11_comes_92 : decode cX11_comes 92 = .ok (.ifCond .lt 48, 3) := by decide +kernel
theorem dX11_comes_95 : decode cX11_comes 95 = .ok (.aload_n 0, 1) := by decide +kernel
theorem dX11_comes_96 : decode cX11_comes 96 = .ok (.iload_n 1, 1) := by decide +kernel
theorem dX11_comes_97 : decode cX11_comes 97 = .ok (.iload 6, 2) := by decide +kernel
theorem dX11_comes_99 : decode cX11_comes 99 = .ok (.invokevirtual 271, 3) := by decide +kernel
theorem dX11_comes_102 : decode cX11_comes 102 = .ok (.ifCond .ne 38, 3) := by decide +kernel
theorem dX11_comes_105 : decode cX11_comes 105 = .ok (.aload_n 0, 1) := by decide +kernel
theorem dX11_comes_106 : decode cX11_comes 106 = .ok (.getfield 87, 3) := by decide +kernel
theorem dX11_comes_109 : decode cX11_comes 109 = .ok (.iconst 4, 1) := by decide +kernel
theorem dX11_comes_110 : decode cX11_comes 110 = .ok (.iload_n 1, 1) := by decide +kernel
theorem dX11_comes_111 : decode cX11_comes 111 = .ok (.imul, 1) := by decide +kernel
theorem dX11_comes_112 : decode cX11_comes 112 = .ok (.iload 6, 2) := by decide +kernel
theorem dX11_comes_114 : decode cX11_comes 114 = .ok (.bipush 64, 2) := by decide +kernel
theorem dX11_comes_116 : decode cX11_comes 116 = .ok (.idiv, 1) := by decide +kernel
theorem dX11_comes_117 : decode cX11_comes 117 = .ok (.iadd, 1) := by decide +kernel
theorem dX11_comes_118 : decode cX11_comes 118 = .ok (.dup2, 1) := by decide +kernel
theorem dX11_comes_119 : decode cX11_comes 119 = .ok (.laload, 1) := by decide +kernel
theorem dX11_comes_120 : decode cX11_comes 120 = .ok (.lconst 1, 1) := by decide +kernel
theorem dX11_comes_121 : decode cX11_comes 121 = .ok (.iload 6, 2) := by decide +kernel
theorem dX11_comes_123 : decode cX11_comes 123 = .ok (.bipush 64, 2) := by decide +kernel
theorem dX11_comes_125 : decode cX11_comes 125 = .ok (.irem, 1) := by decide +kernel
theorem dX11_comes_126 : decode cX11_comes 126 = .ok (.lshl, 1) := by decide +kernel
theorem dX11_comes_127 : decode cX11_comes 127 = .ok (.lor, 1) := by decide +kernel
theorem dX11_comes_128 : decode cX11_comes 128 = .ok (.lastore, 1) := by decide +kernel
theorem dX11_comes_129 : decode cX11_comes 129 = .ok (.aload_n 0, 1) := by decide +kernel
theorem dX11_comes_130 : decode cX11_comes 130 = .ok (.getfield 90, 3) := by decide +kernel
theorem dX11_comes_133 : decode cX11_comes 133 = .ok (.iload_n 3, 1) := by decide +kernel
theorem dX11_comes_134 : decode cX11_comes 134 = .ok (.iload 6, 2) := by decide +kernel
theorem dX11_comes_136 : decode cX11_comes 136 = .ok (.iastore, 1) := by decide +kernel
theorem dX11_comes_137 : decode cX11_comes 137 = .ok (.iinc 3 1, 3) := by decide +kernel
theorem dX11_comes_140 : decode cX11_comes 140 = .ok (.iinc 5 1, 3) := by decide +kernel
theorem dX11_comes_143 : decode cX11_comes 143 = .ok (.goto (-83), 3) := by decide +kernel
theorem dX11_comes_146 : decode cX11_comes 146 = .ok (.goto (-104), 3) := by decide +kernel
theorem dX11_comes_149 : decode cX11_comes 149 = .ok (.return_, 1) := by decide +kernel
set_option maxRecDepth 20000 in
theorem ggX11_goesOn_X11_has : GoodIn wsX11_goesOn wsX11_has := goodIn_r _ [9, 10, 18, 19, 20, 21, 22, 23, 24, 25, 26, 27, 28, 29, 30, 31, 32, 33, 34, 35, 36, 37, 38, 39, 40, 41, 42, 43, 44, 45, 46, 47, 48, 49, 50, 51, 52, 53, 54, 55, 56] (by decide +kernel) (by decide +kernel)
set_option maxRecDepth 20000 in
theorem gX11_goesOn_X11_has : GoodIn wsX11_goesOn (wsV RX11 271 RX11 yX11_has wsX11_has) := goodIn_app (goodIn_of _ (by decide +kernel)) ggX11_goesOn_X11_has
set_option maxRecDepth 20000 in
theorem ggX11_goesOn_X11_comes : GoodIn wsX11_goesOn wsX11_comes := goodIn_r _ [14, 15, 10, 16, 17, 5, 6, 7, 8, 9, 18, 19, 20, 21, 22, 23, 24, 25, 26, 27, 28, 29, 30, 31, 32, 33, 34, 35, 36, 37, 38, 39, 40, 41, 42, 43, 44, 45, 46, 47, 48, 49, 50, 51, 52, 53, 54, 55, 56] (by decide +kernel) (by decide +kernel)
set_option maxRecDepth 20000 in
theorem gX11_goesOn_X11_comes : GoodIn wsX11_goesOn (wsV RX11 274 RX11 yX11_comes wsX11_comes) := goodIn_app (goodIn_of _ (by decide +kernel)) ggX11_goesOn_X11_comes
theorem dX11_goesOn_0 : decode cX11_goesOn 0 = .ok (.iconst 0, 1) := by decide +kernel
theorem dX11_goesOn_1 : decode cX11_goesOn 1 = .ok (.istore_n 3, 1) := by decide +kernel
theorem dX11_goesOn_2 : decode cX11_goesOn 2 = .ok (.iload_n 3, 1) := by decide +kernel
theorem dX11_goesOn_3 : decode cX11_goesOn 3 = .ok (.aload_n 0, 1) := by decide +kernel
theorem dX11_goesOn_4 : decode cX11_goesOn 4 = .ok (.getfield 256, 3) := by decide +kernel
theorem dX11_goesOn_7 : decode cX11_goesOn 7 = .ok (.if_icmp .ge 46, 3) := by decide +kernel
theorem dX11_goesOn_10 : decode cX11_goesOn 10 = .ok (.aload_n 0, 1) := by decide +kernel
theorem dX11_goesOn_11 : decode cX11_goesOn 11 = .ok (.getfield 69, 3) := by decide +kernel
theorem dX11_goesOn_14 : decode cX11_goesOn 14 = .ok (.iload_n 3, 1) := by decide +kernel
theorem dX11_goesOn_15 : decode cX11_goesOn 15 = .ok (.iaload, 1) := by decide +kernel
theorem dX11_goesOn_16 : decode cX11_goesOn 16 = .ok (.iload_n 2, 1) := by decide +kernel
theorem dX11_goesOn_17 : decode cX11_goesOn 17 = .ok (.if_icmp .ne 30, 3) := by decide +kernel
theorem dX11_goesOn_20 : decode cX11_goesOn 20 = .ok (.aload_n 0, 1) := by decide +kernel
theorem dX11_goesOn_21 : decode cX11_goesOn 21 = .ok (.iload_n 1, 1) := by decide +kernel
theorem dX11_goesOn_22 : decode cX11_goesOn 22 = .ok (.iload_n 3, 1) := by decide +kernel
theorem dX11_goesOn_23 : decode cX11_goesOn 23 = .ok (.invokevirtual 271, 3) := by decide +kernel
theorem dX11_goesOn_26 : decode cX11_goesOn 26 = .ok (.ifCond .eq 21, 3) := by decide +kernel
theorem dX11_goesOn_29 : decode cX11_goesOn 29 = .ok (.aload_n 0, 1) := by decide +kernel
theorem dX11_goesOn_30 : decode cX11_goesOn 30 = .ok (.iload_n 1, 1) := by decide +kernel
theorem dX11_goesOn_31 : decode cX11_goesOn 31 = .ok (.aload_n 0, 1) := by decide +kernel
theorem dX11_goesOn_32 : decode cX11_goesOn 32 = .ok (.getfield 45, 3) := by decide +kernel
theorem dX11_goesOn_35 : decode cX11_goesOn 35 = .ok (.iload_n 2, 1) := by decide +kernel
theorem dX11_goesOn_36 : decode cX11_goesOn 36 = .ok (.iaload, 1) := by decide +kernel
theorem dX11_goesOn_37 : decode cX11_goesOn 37 = .ok (.iadd, 1) := by decide +kernel
theorem dX11_goesOn_38 : decode cX11_goesOn 38 = .ok (.aload_n 0, 1) := by decide +kernel
theorem dX11_goesOn_39 : decode cX11_goesOn 39 = .ok (.getfield 72, 3) := by decide +kernel
theorem dX11_goesOn_42 : decode cX11_goesOn 42 = .ok (.iload_n 3, 1) := by decide +kernel
theorem dX11_goesOn_43 : decode cX11_goesOn 43 = .ok (.iaload, 1) := by decide +kernel
theorem dX11_goesOn_44 : decode cX11_goesOn 44 = .ok (.invokevirtual 274, 3) := by decide +kernel
theorem dX11_goesOn_47 : decode cX11_goesOn 47 = .ok (.iinc 3 1, 3) := by decide +kernel
theorem dX11_goesOn_50 : decode cX11_goesOn 50 = .ok (.goto (-48), 3) := by decide +kernel
theorem dX11_goesOn_53 : decode cX11_goesOn 53 = .ok (.return_, 1) := by decide +kernel
set_option maxRecDepth 20000 in
theorem ggX11_matches_X11_isWord : GoodIn wsX11_matches wsX11_isWord := goodIn_r _ [8, 9, 10, 7, 11] (by decide +kernel) (by decide +kernel)
set_option maxRecDepth 20000 in
theorem gX11_matches_X11_isWord : GoodIn wsX11_matches (va_wsS RX11 156 yX11_isWord wsX11_isWord) := goodIn_app (goodIn_of _ (by decide +kernel)) ggX11_matches_X11_isWord
set_option maxRecDepth 20000 in
theorem ggX11_matches_X11_fault : GoodIn wsX11_matches wsX11_fault := goodIn_r _ [15, 16, 17, 18, 19, 20, 7, 21, 22, 23, 24, 25, 3, 9, 10, 11, 110, 111, 112, 113, 114, 115, 116, 117, 118, 119, 120, 121, 122, 123, 124, 125, 126, 127, 128, 129, 130, 131, 132, 133, 134, 135, 136, 137, 138, 139, 140, 141, 142, 143, 144, 145, 146, 147, 148] (by decide +kernel) (by decide +kernel)
set_option maxRecDepth 20000 in
theorem gX11_matches_X11_fault : GoodIn wsX11_matches (wsV RX11 238 RX11 yX11_fault wsX11_fault) := goodIn_app (goodIn_of _ (by decide +kernel)) ggX11_matches_X11_fault
set_option maxRecDepth 20000 in
theorem ggX11_matches_X11_takesOne : GoodIn wsX11_matches wsX11_takesOne := goodIn_r _ [29, 3, 30, 31, 110, 111, 112, 113, 114, 115, 116, 117, 118, 119, 120, 121, 122, 123, 124, 125, 126, 127, 128, 129, 130, 131, 132, 133, 134, 135, 136, 137, 138, 139, 140, 141, 142, 143, 144, 145, 146, 147, 148] (by decide +kernel) (by decide +kernel)
set_option maxRecDepth 20000 in
theorem gX11_matches_X11_takesOne : GoodIn wsX11_matches (wsV RX11 159 RX11 yX11_takesOne wsX11_takesOne) := goodIn_app (goodIn_of _ (by decide +kernel)) ggX11_matches_X11_takesOne
set_option maxRecDepth 20000 in
theorem ggX11_matches_X11_findBeginnings : GoodIn wsX11_matches wsX11_findBeginnings := goodIn_r _ [35, 36, 30, 31, 37, 1, 38, 110, 111, 112, 113, 114, 115, 116, 117, 118, 119, 120, 121, 122, 123, 124, 125, 126, 127, 128, 129, 130, 131, 132, 133, 134, 135, 136, 137, 138, 139, 140, 141, 142, 143, 144, 145, 146, 147, 148] (by decide +kernel) (by decide +kernel)
set_option maxRecDepth 20000 in
theorem gX11_matches_X11_findBeginnings : GoodIn wsX11_matches (wsV RX11 180 RX11 yX11_findBeginnings wsX11_findBeginnings) := goodIn_app (goodIn_of _ (by decide +kernel)) ggX11_matches_X11_findBeginnings
set_option maxRecDepth 20000 in
theorem ggX11_matches_X11_findForm : GoodIn wsX11_matches wsX11_findForm := goodIn_r _ [42, 43, 44, 16, 17, 18, 19, 20, 7, 21, 22, 23, 24, 25, 3, 9, 10, 11, 45, 46, 47, 48, 49, 50, 51, 52, 53, 54, 55, 56, 57, 58, 110, 111, 112, 113, 114, 115, 116, 117, 118, 119, 120, 121, 122, 123, 124, 125, 126, 127, 128, 129, 130, 131, 132, 133, 134, 135, 136, 137, 138, 139, 140, 141, 142, 143, 144, 145, 146, 147, 148] (by decide +kernel) (by decide +kernel)
set_option maxRecDepth 20000 in
theorem gX11_matches_X11_findForm : GoodIn wsX11_matches (wsV RX11 277 RX11 yX11_findForm wsX11_findForm) := goodIn_app (goodIn_of _ (by decide +kernel)) ggX11_matches_X11_findForm
set_option maxRecDepth 20000 in
theorem ggX11_matches_X11_builds : GoodIn wsX11_matches wsX11_builds := goodIn_r _ [62, 63, 43, 54, 64, 4, 65, 66, 67, 68, 69, 7, 70, 71, 72, 73, 74, 75, 76, 77, 78, 79, 80, 81, 82, 83, 84, 110, 111, 112, 113, 114, 115, 116, 117, 118, 119, 120, 121, 122, 123, 124, 125, 126, 127, 128, 129, 130, 131, 132, 133, 134, 135, 136, 137, 138, 139, 140, 141, 142, 143, 144, 145, 146, 147, 148] (by decide +kernel) (by decide +kernel)
set_option maxRecDepth 20000 in
theorem gX11_matches_X11_builds : GoodIn wsX11_matches (wsV RX11 280 RX11 yX11_builds wsX11_builds) := goodIn_app (goodIn_of _ (by decide +kernel)) ggX11_matches_X11_builds
set_option maxRecDepth 20000 in
theorem ggX11_matches_X11_comes : GoodIn wsX11_matches wsX11_comes := goodIn_r _ [88, 89, 2, 71, 72, 90, 91, 92, 7, 93, 110, 111, 112, 113, 114, 115, 116, 117, 118, 119, 120, 121, 122, 123, 124, 125, 126, 127, 128, 129, 130, 131, 132, 133, 134, 135, 136, 137, 138, 139, 140, 141, 142, 143, 144, 145, 146, 147, 148] (by decide +kernel) (by decide +kernel)
set_option maxRecDepth 20000 in
theorem gX11_matches_X11_comes : GoodIn wsX11_matches (wsV RX11 274 RX11 yX11_comes wsX11_comes) := goodIn_app (goodIn_of _ (by decide +kernel)) ggX11_matches_X11_comes
set_option maxRecDepth 20000 in
theorem ggX11_matches_X11_canCome : GoodIn wsX11_matches wsX11_canCome := goodIn_r _ [97, 36, 3, 37, 98, 99, 100, 7, 101, 38, 102, 103, 104, 105, 110, 111, 112, 113, 114, 115, 116, 117, 118, 119, 120, 121, 122, 123, 124, 125, 126, 127, 128, 129, 130, 131, 132, 133, 134, 135, 136, 137, 138, 139, 140, 141, 142, 143, 144, 145, 146, 147, 148] (by decide +kernel) (by decide +kernel)
set_option maxRecDepth 20000 in
theorem gX11_matches_X11_canCome : GoodIn wsX11_matches (wsV RX11 183 RX11 yX11_canCome wsX11_canCome) := goodIn_app (goodIn_of _ (by decide +kernel)) ggX11_matches_X11_canCome
set_option maxRecDepth 20000 in
theorem ggX11_matches_X11_goesOn : GoodIn wsX11_matches wsX11_goesOn := goodIn_r _ [109, 63, 65, 38, 66, 90, 91, 92, 7, 93, 2, 85, 86, 87, 88, 89, 71, 72, 110, 111, 112, 113, 114, 115, 116, 117, 118, 119, 120, 121, 122, 123, 124, 125, 126, 127, 128, 129, 130, 131, 132, 133, 134, 135, 136, 137, 138, 139, 140, 141, 142, 143, 144, 145, 146, 147, 148] (by decide +kernel) (by decide +kernel)
set_option maxRecDepth 20000 in
theorem gX11_matches_X11_goesOn : GoodIn wsX11_matches (wsV RX11 283 RX11 yX11_goesOn wsX11_goesOn) := goodIn_app (goodIn_of _ (by decide +kernel)) ggX11_matches_X11_goesOn
set_option maxRecDepth 20000 in
theorem ggX11_matches_X11_has : GoodIn wsX11_matches wsX11_has := goodIn_r _ [93, 2, 110, 111, 112, 113, 114, 115, 116, 117, 118, 119, 120, 121, 122, 123, 124, 125, 126, 127, 128, 129, 130, 131, 132, 133, 134, 135, 136, 137, 138, 139, 140, 141, 142, 143, 144, 145, 146, 147, 148] (by decide +kernel) (by decide +kernel)
set_option maxRecDepth 20000 in
theorem gX11_matches_X11_has : GoodIn wsX11_matches (wsV RX11 271 RX11 yX11_has wsX11_has) := goodIn_app (goodIn_of _ (by decide +kernel)) ggX11_matches_X11_has
theorem dX11_matches_0 : decode cX11_matches 0 = .ok (.iload_n 1, 1) := by decide +kernel
theorem dX11_matches_1 : decode cX11_matches 1 = .ok (.invokestatic 156, 3) := by decide +kernel
theorem dX11_matches_4 : decode cX11_matches 4 = .ok (.ifCond .ne 5, 3) := by decide +kernel
theorem dX11_matches_7 : decode cX11_matches 7 = .ok (.iconst (-1), 1) := by decide +kernel
theorem dX11_matches_8 : decode cX11_matches 8 = .ok (.ireturn, 1) := by decide +kernel
theorem dX11_matches_9 : decode cX11_matches 9 = .ok (.aload_n 0, 1) := by decide +kernel
theorem dX11_matches_10 : decode cX11_matches 10 = .ok (.invokevirtual 238, 3) := by decide +kernel
theorem dX11_matches_13 : decode cX11_matches 13 = .ok (.ifCond .lt 6, 3) := by decide +kernel
theorem dX11_matches_16 : decode cX11_matches 16 = .ok (.bipush (-3), 2) := by decide +kernel
theorem dX11_matches_18 : decode cX11_matches 18 = .ok (.ireturn, 1) := by decide +kernel
theorem dX11_matches_19 : decode cX11_matches 19 = .ok (.aload_n 0, 1) := by decide +kernel
theorem dX11_matches_20 : decode cX11_matches 20 = .ok (.iload_n 1, 1) := by decide +kernel
theorem dX11_matches_21 : decode cX11_matches 21 = .ok (.invokevirtual 159, 3) := by decide +kernel
theorem dX11_matches_24 : decode cX11_matches 24 = .ok (.aload_n 0, 1) := by decide +kernel
theorem dX11_matches_25 : decode cX11_matches 25 = .ok (.invokevirtual 180, 3) := by decide +kernel
theorem dX11_matches_28 : decode cX11_matches 28 = .ok (.aload_n 0, 1) := by decide +kernel
theorem dX11_matches_29 : decode cX11_matches 29 = .ok (.invokevirtual 277, 3) := by decide +kernel
theorem dX11_matches_32 : decode cX11_matches 32 = .ok (.aload_n 0, 1) := by decide +kernel
theorem dX11_matches_33 : decode cX11_matches 33 = .ok (.invokevirtual 280, 3) := by decide +kernel
theorem dX11_matches_36 : decode cX11_matches 36 = .ok (.istore_n 2, 1) := by decide +kernel
theorem dX11_matches_37 : decode cX11_matches 37 = .ok (.iconst 0, 1) := by decide +kernel
theorem dX11_matches_38 : decode cX11_matches 38 = .ok (.istore_n 3, 1) := by decide +kernel
theorem dX11_matches_39 : decode cX11_matches 39 = .ok (.iload_n 3, 1) := by decide +kernel
theorem dX11_matches_40 : decode cX11_matches 40 = .ok (.iconst 4, 1) := by decide +kernel
theorem dX11_matches_41 : decode cX11_matches 41 = .ok (.aload_n 0, 1) := by decide +kernel
theorem dX11_matches_42 : decode cX11_matches 42 = .ok (.getfield 173, 3) := by decide +kernel
theorem dX11_matches_45 : decode cX11_matches 45 = .ok (.imul, 1) := by decide +kernel
theorem dX11_matches_46 : decode cX11_matches 46 = .ok (.if_icmp .ge 16, 3) := by decide +kernel
theorem dX11_matches_49 : decode cX11_matches 49 = .ok (.aload_n 0, 1) := by decide +kernel
theorem dX11_matches_50 : decode cX11_matches 50 = .ok (.getfield 87, 3) := by decide +kernel
theorem dX11_matches_53 : decode cX11_matches 53 = .ok (.iload_n 3, 1) := by decide +kernel
theorem dX11_matches_54 : decode cX11_matches 54 = .ok (.lconst 0, 1) := by decide +kernel
theorem dX11_matches_55 : decode cX11_matches 55 = .ok (.lastore, 1) := by decide +kernel
theorem dX11_matches_56 : decode cX11_matches 56 = .ok (.iinc 3 1, 3) := by decide +kernel
theorem dX11_matches_59 : decode cX11_matches 59 = .ok (.goto (-20), 3) := by decide +kernel
theorem dX11_matches_62 : decode cX11_matches 62 = .ok (.aload_n 0, 1) := by decide +kernel
theorem dX11_matches_63 : decode cX11_matches 63 = .ok (.iconst 0, 1) := by decide +kernel
theorem dX11_matches_64 : decode cX11_matches 64 = .ok (.iload_n 2, 1) := by decide +kernel
theorem dX11_matches_65 : decode cX11_matches 65 = .ok (.invokevirtual 274, 3) := by decide +kernel
theorem dX11_matches_68 : decode cX11_matches 68 = .ok (.iconst 0, 1) := by decide +kernel
theorem dX11_matches_69 : decode cX11_matches 69 = .ok (.istore_n 3, 1) := by decide +kernel
theorem dX11_matches_70 : decode cX11_matches 70 = .ok (.iload_n 3, 1) := by decide +kernel
theorem dX11_matches_71 : decode cX11_matches 71 = .ok (.aload_n 0, 1) := by decide +kernel
theorem dX11_matches_72 : decode cX11_matches 72 = .ok (.getfield 173, 3) := by decide +kernel
theorem dX11_matches_75 : decode cX11_matches 75 = .ok (.if_icmp .ge 46, 3) := by decide +kernel
theorem dX11_matches_78 : decode cX11_matches 78 = .ok (.iconst 0, 1) := by decide +kernel
theorem dX11_matches_79 : decode cX11_matches 79 = .ok (.istore 4, 2) := by decide +kernel
theorem dX11_matches_81 : decode cX11_matches 81 = .ok (.iload 4, 2) := by decide +kernel
theorem dX11_matches_83 : decode cX11_matches 83 = .ok (.aload_n 0, 1) := by decide +kernel
theorem dX11_matches_84 : decode cX11_matches 84 = .ok (.getfield 7, 3) := by decide +kernel
theorem dX11_matches_87 : decode cX11_matches 87 = .ok (.iconst 0, 1) := by decide +kernel
theorem dX11_matches_88 : decode cX11_matches 88 = .ok (.iaload, 1) := by decide +kernel
theorem dX11_matches_89 : decode cX11_matches 89 = .ok (.if_icmp .ge 26, 3) := by decide +kernel
theorem dX11_matches_92 : decode cX11_matches 92 = .ok (.aload_n 0, 1) := by decide +kernel
theorem dX11_matches_93 : decode cX11_matches 93 = .ok (.iload_n 3, 1) := by decide +kernel
theorem dX11_matches_94 : decode cX11_matches 94 = .ok (.iload 4, 2) := by decide +kernel
theorem dX11_matches_96 : decode cX11_matches 96 = .ok (.invokevirtual 183, 3) := by decide +kernel
theorem dX11_matches_99 : decode cX11_matches 99 = .ok (.ifCond .eq 10, 3) := by decide +kernel
theorem dX11_matches_102 : decode cX11_matches 102 = .ok (.aload_n 0, 1) := by decide +kernel
theorem dX11_matches_103 : decode cX11_matches 103 = .ok (.iload_n 3, 1) := by decide +kernel
theorem dX11_matches_104 : decode cX11_matches 104 = .ok (.iload 4, 2) := by decide +kernel
theorem dX11_matches_106 : decode cX11_matches 106 = .ok (.invokevirtual 283, 3) := by decide +kernel
theorem dX11_matches_109 : decode cX11_matches 109 = .ok (.iinc 4 1, 3) := by decide +kernel
theorem dX11_matches_112 : decode cX11_matches 112 = .ok (.goto (-31), 3) := by decide +kernel
theorem dX11_matches_115 : decode cX11_matches 115 = .ok (.iinc 3 1, 3) := by decide +kernel
theorem dX11_matches_118 : decode cX11_matches 118 = .ok (.goto (-48), 3) := by decide +kernel
theorem dX11_matches_121 : decode cX11_matches 121 = .ok (.aload_n 0, 1) := by decide +kernel
theorem dX11_matches_122 : decode cX11_matches 122 = .ok (.aload_n 0, 1) := by decide +kernel
theorem dX11_matches_123 : decode cX11_matches 123 = .ok (.getfield 173, 3) := by decide +kernel
theorem dX11_matches_126 : decode cX11_matches 126 = .ok (.iconst 1, 1) := by decide +kernel
theorem dX11_matches_127 : decode cX11_matches 127 = .ok (.isub, 1) := by decide +kernel
theorem dX11_matches_128 : decode cX11_matches 128 = .ok (.aload_n 0, 1) := by decide +kernel
theorem dX11_matches_129 : decode cX11_matches 129 = .ok (.getfield 84, 3) := by decide +kernel
theorem dX11_matches_132 : decode cX11_matches 132 = .ok (.iconst 0, 1) := by decide +kernel
theorem dX11_matches_133 : decode cX11_matches 133 = .ok (.iaload, 1) := by decide +kernel
theorem dX11_matches_134 : decode cX11_matches 134 = .ok (.invokevirtual 271, 3) := by decide +kernel
theorem dX11_matches_137 : decode cX11_matches 137 = .ok (.ifCond .eq 7, 3) := by decide +kernel
theorem dX11_matches_140 : decode cX11_matches 140 = .ok (.iconst 1, 1) := by decide +kernel
theorem dX11_matches_141 : decode cX11_matches 141 = .ok (.goto 4, 3) := by decide +kernel
theorem dX11_matches_144 : decode cX11_matches 144 = .ok (.iconst 0, 1) := by decide +kernel
theorem dX11_matches_145 : decode cX11_matches 145 = .ok (.ireturn, 1) := by decide +kernel
theorem dX11_unions_0 : decode cX11_unions 0 = .ok (.lconst 0, 1) := by decide +kernel
theorem dX11_unions_1 : decode cX11_unions 1 = .ok (.lstore 4, 2) := by decide +kernel
theorem dX11_unions_3 : decode cX11_unions 3 = .ok (.iconst 0, 1) := by decide +kernel
theorem dX11_unions_4 : decode cX11_unions 4 = .ok (.istore 6, 2) := by decide +kernel
theorem dX11_unions_6 : decode cX11_unions 6 = .ok (.iload 6, 2) := by decide +kernel
theorem dX11_unions_8 : decode cX11_unions 8 = .ok (.bipush 64, 2) := by decide +kernel
theorem dX11_unions_10 : decode cX11_unions 10 = .ok (.if_icmp .ge 63, 3) := by decide +kernel
theorem dX11_unions_13 : decode cX11_unions 13 = .ok (.iconst 0, 1) := by decide +kernel
theorem dX11_unions_14 : decode cX11_unions 14 = .ok (.istore 7, 2) := by decide +kernel
theorem dX11_unions_16 : decode cX11_unions 16 = .ok (.iload 7, 2) := by decide +kernel
theorem dX11_unions_18 : decode cX11_unions 18 = .ok (.bipush 64, 2) := by decide +kernel
theorem dX11_unions_20 : decode cX11_unions 20 = .ok (.if_icmp .ge 47, 3) := by decide +kernel
theorem dX11_unions_23 : decode cX11_unions 23 = .ok (.lload_n 0, 1) := by decide +kernel
theorem dX11_unions_24 : decode cX11_unions 24 = .ok (.iload 6, 2) := by decide +kernel
theorem dX11_unions_26 : decode cX11_unions 26 = .ok (.lshr, 1) := by decide +kernel
theorem dX11_unions_27 : decode cX11_unions 27 = .ok (.lconst 1, 1) := by decide +kernel
theorem dX11_unions_28 : decode cX11_unions 28 = .ok (.land, 1) := by decide +kernel
theorem dX11_unions_29 : decode cX11_unions 29 = .ok (.lconst 1, 1) := by decide +kernel
theorem dX11_unions_30 : decode cX11_unions 30 = .ok (.lcmp, 1) := by decide +kernel
theorem dX11_unions_31 : decode cX11_unions 31 = .ok (.ifCond .ne 36, 3) := by decide +kernel
theorem dX11_unions_34 : decode cX11_unions 34 = .ok (.lload 4, 2) := by decide +kernel
theorem dX11_unions_36 : decode cX11_unions 36 = .ok (.lload_n 2, 1) := by decide +kernel
theorem dX11_unions_37 : decode cX11_unions 37 = .ok (.iload 7, 2) := by decide +kernel
theorem dX11_unions_39 : decode cX11_unions 39 = .ok (.lshr, 1) := by decide +kernel
theorem dX11_unions_40 : decode cX11_unions 40 = .ok (.lconst 1, 1) := by decide +kernel
theorem dX11_unions_41 : decode cX11_unions 41 = .ok (.land, 1) := by decide +kernel
theorem dX11_unions_42 : decode cX11_unions 42 = .ok (.lconst 1, 1) := by decide +kernel
theorem dX11_unions_43 : decode cX11_unions 43 = .ok (.lcmp, 1) := by decide +kernel
theorem dX11_unions_44 : decode cX11_unions 44 = .ok (.ifCond .ne 13, 3) := by decide +kernel
theorem dX11_unions_47 : decode cX11_unions 47 = .ok (.lconst 1, 1) := by decide +kernel
theorem dX11_unions_48 : decode cX11_unions 48 = .ok (.iload 6, 2) := by decide +kernel
theorem dX11_unions_50 : decode cX11_unions 50 = .ok (.iload 7, 2) := by decide +kernel
theorem dX11_unions_52 : decode cX11_unions 52 = .ok (.ior, 1) := by decide +kernel
theorem dX11_unions_53 : decode cX11_unions 53 = .ok (.lshl, 1) := by decide +kernel
theorem dX11_unions_54 : decode cX11_unions 54 = .ok (.goto 4, 3) := by decide +kernel
theorem dX11_unions_57 : decode cX11_unions 57 = .ok (.lconst 0, 1) := by decide +kernel
theorem dX11_unions_58 : decode cX11_unions 58 = .ok (.lor, 1) := by decide +kernel
theorem dX11_unions_59 : decode cX11_unions 59 = .ok (.lstore 4, 2) := by decide +kernel
theorem dX11_unions_61 : decode cX11_unions 61 = .ok (.iinc 7 1, 3) := by decide +kernel
theorem dX11_unions_64 : decode cX11_unions 64 = .ok (.goto (-48), 3) := by decide +kernel
theorem dX11_unions_67 : decode cX11_unions 67 = .ok (.iinc 6 1, 3) := by decide +kernel
theorem dX11_unions_70 : decode cX11_unions 70 = .ok (.goto (-64), 3) := by decide +kernel
theorem dX11_unions_73 : decode cX11_unions 73 = .ok (.lload 4, 2) := by decide +kernel
theorem dX11_unions_75 : decode cX11_unions 75 = .ok (.lreturn, 1) := by decide +kernel
set_option maxRecDepth 20000 in
theorem ggX11_areConnected_X11_isConnected : GoodIn wsX11_areConnected wsX11_isConnected := goodIn_r _ [5, 6, 7, 8, 9, 10, 11, 12, 13, 14, 15, 16, 17, 18, 19, 20, 21, 22, 23, 24, 25, 26, 27, 28, 29, 30, 31, 32, 33, 34, 35, 36, 37, 38, 39, 40, 41, 42, 43, 44, 45] (by decide +kernel) (by decide +kernel)
set_option maxRecDepth 20000 in
theorem gX11_areConnected_X11_isConnected : GoodIn wsX11_areConnected (wsV RX11 204 RX11 yX11_isConnected wsX11_isConnected) := goodIn_app (goodIn_of _ (by decide +kernel)) ggX11_areConnected_X11_isConnected
theorem dX11_areConnected_0 : decode cX11_areConnected 0 = .ok (.iconst 1, 1) := by decide +kernel
theorem dX11_areConnected_1 : decode cX11_areConnected 1 = .ok (.istore_n 3, 1) := by decide +kernel
theorem dX11_areConnected_2 : decode cX11_areConnected 2 = .ok (.iconst 0, 1) := by decide +kernel
theorem dX11_areConnected_3 : decode cX11_areConnected 3 = .ok (.istore 4, 2) := by decide +kernel
theorem dX11_areConnected_5 : decode cX11_areConnected 5 = .ok (.iload 4, 2) := by decide +kernel
theorem dX11_areConnected_7 : decode cX11_areConnected 7 = .ok (.bipush 64, 2) := by decide +kernel
theorem dX11_areConnected_9 : decode cX11_areConnected 9 = .ok (.if_icmp .ge 39, 3) := by decide +kernel
theorem dX11_areConnected_12 : decode cX11_areConnected 12 = .ok (.iload_n 3, 1) := by decide +kernel
theorem dX11_areConnected_13 : decode cX11_areConnected 13 = .ok (.ifCond .eq 27, 3) := by decide +kernel
theorem dX11_areConnected_16 : decode cX11_areConnected 16 = .ok (.lload_n 1, 1) := by decide +kernel
theorem dX11_areConnected_17 : decode cX11_areConnected 17 = .ok (.iload 4, 2) := by decide +kernel
theorem dX11_areConnected_19 : decode cX11_areConnected 19 = .ok (.lshr, 1) := by decide +kernel
theorem dX11_areConnected_20 : decode cX11_areConnected 20 = .ok (.lconst 1, 1) := by decide +kernel
theorem dX11_areConnected_21 : decode cX11_areConnected 21 = .ok (.land, 1) := by decide +kernel
theorem dX11_areConnected_22 : decode cX11_areConnected 22 = .ok (.lconst 0, 1) := by decide +kernel
theorem dX11_areConnected_23 : decode cX11_areConnected 23 = .ok (.lcmp, 1) := by decide +kernel
theorem dX11_areConnected_24 : decode cX11_areConnected 24 = .ok (.ifCond .eq 12, 3) := by decide +kernel
theorem dX11_areConnected_27 : decode cX11_areConnected 27 = .ok (.aload_n 0, 1) := by decide +kernel
theorem dX11_areConnected_28 : decode cX11_areConnected 28 = .ok (.iload 4, 2) := by decide +kernel
theorem dX11_areConnected_30 : decode cX11_areConnected 30 = .ok (.invokevirtual 204, 3) := by decide +kernel
theorem dX11_areConnected_33 : decode cX11_areConnected 33 = .ok (.ifCond .eq 7, 3) := by decide +kernel
theorem dX11_areConnected_36 : decode cX11_areConnected 36 = .ok (.iconst 1, 1) := by decide +kernel
theorem dX11_areConnected_37 : decode cX11_areConnected 37 = .ok (.goto 4, 3) := by decide +kernel
theorem dX11_areConnected_40 : decode cX11_areConnected 40 = .ok (.iconst 0, 1) := by decide +kernel
theorem dX11_areConnected_41 : decode cX11_areConnected 41 = .ok (.istore_n 3, 1) := by decide +kernel
theorem dX11_areConnected_42 : decode cX11_areConnected 42 = .ok (.iinc 4 1, 3) := by decide +kernel
theorem dX11_areConnected_45 : decode cX11_areConnected 45 = .ok (.goto (-40), 3) := by decide +kernel
theorem dX11_areConnected_48 : decode cX11_areConnected 48 = .ok (.iload_n 3, 1) := by decide +kernel
theorem dX11_areConnected_49 : decode cX11_areConnected 49 = .ok (.ireturn, 1) := by decide +kernel
set_option maxRecDepth 20000 in
theorem ggX11_closure_X11_unions : GoodIn wsX11_closure wsX11_unions := goodIn_r _ [4] (by decide +kernel) (by decide +kernel)
set_option maxRecDepth 20000 in
theorem gX11_closure_X11_unions : GoodIn wsX11_closure (va_wsS RX11 286 yX11_unions wsX11_unions) := goodIn_app (goodIn_of _ (by decide +kernel)) ggX11_closure_X11_unions
theorem dX11_closure_0 : decode cX11_closure 0 = .ok (.lload_n 0, 1) := by decide +kernel
theorem dX11_closure_1 : decode cX11_closure 1 = .ok (.lconst 1, 1) := by decide +kernel
theorem dX11_closure_2 : decode cX11_closure 2 = .ok (.lor, 1) := by decide +kernel
theorem dX11_closure_3 : decode cX11_closure 3 = .ok (.lstore_n 2, 1) := by decide +kernel
theorem dX11_closure_4 : decode cX11_closure 4 = .ok (.lconst 0, 1) := by decide +kernel
theorem dX11_closure_5 : decode cX11_closure 5 = .ok (.lstore 4, 2) := by decide +kernel
theorem dX11_closure_7 : decode cX11_closure 7 = .ok (.lload 4, 2) := by decide +kernel
theorem dX11_closure_9 : decode cX11_closure 9 = .ok (.lload_n 2, 1) := by decide +kernel
theorem dX11_closure_10 : decode cX11_closure 10 = .ok (.lcmp, 1) := by decide +kernel
theorem dX11_closure_11 : decode cX11_closure 11 = .ok (.ifCond .eq 15, 3) := by decide +kernel
theorem dX11_closure_14 : decode cX11_closure 14 = .ok (.lload_n 2, 1) := by decide +kernel
theorem dX11_closure_15 : decode cX11_closure 15 = .ok (.lstore 4, 2) := by decide +kernel
theorem dX11_closure_17 : decode cX11_closure 17 = .ok (.lload_n 2, 1) := by decide +kernel
theorem dX11_closure_18 : decode cX11_closure 18 = .ok (.lload_n 2, 1) := by decide +kernel
theorem dX11_closure_19 : decode cX11_closure 19 = .ok (.invokestatic 286, 3) := by decide +kernel
theorem dX11_closure_22 : decode cX11_closure 22 = .ok (.lstore_n 2, 1) := by decide +kernel
theorem dX11_closure_23 : decode cX11_closure 23 = .ok (.goto (-16), 3) := by decide +kernel
theorem dX11_closure_26 : decode cX11_closure 26 = .ok (.lload_n 2, 1) := by decide +kernel
theorem dX11_closure_27 : decode cX11_closure 27 = .ok (.lreturn, 1) := by decide +kernel
set_option maxRecDepth 20000 in
theorem ggX11_weighs_X11_findForm : GoodIn wsX11_weighs wsX11_findForm := goodIn_r _ [9, 1, 10, 11, 12, 13, 14, 15, 8, 16, 17, 18, 19, 20, 21, 22, 23, 24, 25, 26, 27, 28, 29, 30, 31, 32, 33, 2, 34, 35, 36, 37, 52, 53, 54, 55, 56, 57, 58, 59, 60, 61, 62, 63, 64, 65, 66, 67, 68, 69, 70, 71, 72, 73, 74, 75, 76, 77, 78, 79, 80, 81, 82, 83, 84, 85, 86, 87, 88, 89, 90] (by decide +kernel) (by decide +kernel)
set_option maxRecDepth 20000 in
theorem gX11_weighs_X11_findForm : GoodIn wsX11_weighs (wsV RX11 277 RX11 yX11_findForm wsX11_findForm) := goodIn_app (goodIn_of _ (by decide +kernel)) ggX11_weighs_X11_findForm
set_option maxRecDepth 20000 in
theorem ggX11_weighs_X11_areConnected : GoodIn wsX11_weighs wsX11_areConnected := goodIn_r _ [41, 42, 43, 44, 8, 45, 21, 52, 53, 54, 55, 56, 57, 58, 59, 60, 61, 62, 63, 64, 65, 66, 67, 68, 69, 70, 71, 72, 73, 74, 75, 76, 77, 78, 79, 80, 81, 82, 83, 84, 85, 86, 87, 88, 89, 90] (by decide +kernel) (by decide +kernel)
set_option maxRecDepth 20000 in
theorem gX11_weighs_X11_areConnected : GoodIn wsX11_weighs (wsV RX11 290 RX11 yX11_areConnected wsX11_areConnected) := goodIn_app (goodIn_of _ (by decide +kernel)) ggX11_weighs_X11_areConnected
set_option maxRecDepth 20000 in
theorem ggX11_weighs_X11_closure : GoodIn wsX11_weighs wsX11_closure := goodIn_r _ [48, 49, 50, 8, 51] (by decide +kernel) (by decide +kernel)
set_option maxRecDepth 20000 in
theorem gX11_weighs_X11_closure : GoodIn wsX11_weighs (va_wsS RX11 294 yX11_closure wsX11_closure) := goodIn_app (goodIn_of _ (by decide +kernel)) ggX11_weighs_X11_closure
set_option maxRecDepth 20000 in
theorem ggX11_weighs_X11_unions : GoodIn wsX11_weighs wsX11_unions := goodIn_r _ [51] (by decide +kernel) (by decide +kernel)
set_option maxRecDepth 20000 in
theorem gX11_weighs_X11_unions : GoodIn wsX11_weighs (va_wsS RX11 286 yX11_unions wsX11_unions) := goodIn_app (goodIn_of _ (by decide +kernel)) ggX11_weighs_X11_unions
theorem dX11_weighs_0 : decode cX11_weighs 0 = .ok (.aload_n 0, 1) := by decide +kernel
theorem dX11_weighs_1 : decode cX11_weighs 1 = .ok (.invokevirtual 277, 3) := by decide +kernel
theorem dX11_weighs_4 : decode cX11_weighs 4 = .ok (.iconst 1, 1) := by decide +kernel
theorem dX11_weighs_5 : decode cX11_weighs 5 = .ok (.istore_n 1, 1) := by decide +kernel
theorem dX11_weighs_6 : decode cX11_weighs 6 = .ok (.iconst 0, 1) := by decide +kernel
theorem dX11_weighs_7 : decode cX11_weighs 7 = .ok (.istore_n 2, 1) := by decide +kernel
theorem dX11_weighs_8 : decode cX11_weighs 8 = .ok (.iconst 0, 1) := by decide +kernel
theorem dX11_weighs_9 : decode cX11_weighs 9 = .ok (.istore_n 3, 1) := by decide +kernel
theorem dX11_weighs_10 : decode cX11_weighs 10 = .ok (.iload_n 3, 1) := by decide +kernel
theorem dX11_weighs_11 : decode cX11_weighs 11 = .ok (.aload_n 0, 1) := by decide +kernel
theorem dX11_weighs_12 : decode cX11_weighs 12 = .ok (.getfield 241, 3) := by decide +kernel
theorem dX11_weighs_15 : decode cX11_weighs 15 = .ok (.if_icmp .ge 264, 3) := by decide +kernel
theorem dX11_weighs_18 : decode cX11_weighs 18 = .ok (.aload_n 0, 1) := by decide +kernel
theorem dX11_weighs_19 : decode cX11_weighs 19 = .ok (.getfield 63, 3) := by decide +kernel
theorem dX11_weighs_22 : decode cX11_weighs 22 = .ok (.iload_n 3, 1) := by decide +kernel
theorem dX11_weighs_23 : decode cX11_weighs 23 = .ok (.iaload, 1) := by decide +kernel
theorem dX11_weighs_24 : decode cX11_weighs 24 = .ok (.istore 4, 2) := by decide +kernel
theorem dX11_weighs_26 : decode cX11_weighs 26 = .ok (.iload 4, 2) := by decide +kernel
theorem dX11_weighs_28 : decode cX11_weighs 28 = .ok (.bipush 11, 2) := by decide +kernel
theorem dX11_weighs_30 : decode cX11_weighs 30 = .ok (.if_icmp .ge 50, 3) := by decide +kernel
theorem dX11_weighs_33 : decode cX11_weighs 33 = .ok (.aload_n 0, 1) := by decide +kernel
theorem dX11_weighs_34 : decode cX11_weighs 34 = .ok (.getfield 93, 3) := by decide +kernel
theorem dX11_weighs_37 : decode cX11_weighs 37 = .ok (.iload_n 2, 1) := by decide +kernel
theorem dX11_weighs_38 : decode cX11_weighs 38 = .ok (.iload 4, 2) := by decide +kernel
theorem dX11_weighs_40 : decode cX11_weighs 40 = .ok (.bipush 10, 2) := by decide +kernel
theorem dX11_weighs_42 : decode cX11_weighs 42 = .ok (.if_icmp .ne 7, 3) := by decide +kernel
theorem dX11_weighs_45 : decode cX11_weighs 45 = .ok (.lconst 1, 1) := by decide +kernel
theorem dX11_weighs_46 : decode cX11_weighs 46 = .ok (.goto 9, 3) := by decide +kernel
theorem dX11_weighs_49 : decode cX11_weighs 49 = .ok (.lconst 1, 1) := by decide +kernel
theorem dX11_weighs_50 : decode cX11_weighs 50 = .ok (.iconst 1, 1) := by decide +kernel
theorem dX11_weighs_51 : decode cX11_weighs 51 = .ok (.iload 4, 2) := by decide +kernel
theorem dX11_weighs_53 : decode cX11_weighs 53 = .ok (.ishl, 1) := by decide +kernel
theorem dX11_weighs_54 : decode cX11_weighs 54 = .ok (.lshl, 1) := by decide +kernel
theorem dX11_weighs_55 : decode cX11_weighs 55 = .ok (.lastore, 1) := by decide +kernel
theorem dX11_weighs_56 : decode cX11_weighs 56 = .ok (.aload_n 0, 1) := by decide +kernel
theorem dX11_weighs_57 : decode cX11_weighs 57 = .ok (.getfield 96, 3) := by decide +kernel
theorem dX11_weighs_60 : decode cX11_weighs 60 = .ok (.iload_n 2, 1) := by decide +kernel
theorem dX11_weighs_61 : decode cX11_weighs 61 = .ok (.iload 4, 2) := by decide +kernel
theorem dX11_weighs_63 : decode cX11_weighs 63 = .ok (.bipush 10, 2) := by decide +kernel
theorem dX11_weighs_65 : decode cX11_weighs 65 = .ok (.if_icmp .ne 7, 3) := by decide +kernel
theorem dX11_weighs_68 : decode cX11_weighs 68 = .ok (.iconst 0, 1) := by decide +kernel
theorem dX11_weighs_69 : decode cX11_weighs 69 = .ok (.goto 4, 3) := by decide +kernel
theorem dX11_weighs_72 : decode cX11_weighs 72 = .ok (.iconst 1, 1) := by decide +kernel
theorem dX11_weighs_73 : decode cX11_weighs 73 = .ok (.iastore, 1) := by decide +kernel
theorem dX11_weighs_74 : decode cX11_weighs 74 = .ok (.iinc 2 1, 3) := by decide +kernel
theorem dX11_weighs_77 : decode cX11_weighs 77 = .ok (.goto 196, 3) := by decide +kernel
theorem dX11_weighs_80 : decode cX11_weighs 80 = .ok (.iload 4, 2) := by decide +kernel
theorem dX11_weighs_82 : decode cX11_weighs 82 = .ok (.bipush 13, 2) := by decide +kernel
theorem dX11_weighs_84 : decode cX11_weighs 84 = .ok (.if_icmp .ne 59, 3) := by decide +kernel
theorem dX11_weighs_87 : decode cX11_weighs 87 = .ok (.iload_n 1, 1) := by decide +kernel
theorem dX11_weighs_88 : decode cX11_weighs 88 = .ok (.ifCond .eq 22, 3) := by decide +kernel
theorem dX11_weighs_91 : decode cX11_weighs 91 = .ok (.aload_n 0, 1) := by decide +kernel
theorem dX11_weighs_92 : decode cX11_weighs 92 = .ok (.aload_n 0, 1) := by decide +kernel
theorem dX11_weighs_93 : decode cX11_weighs 93 = .ok (.getfield 93, 3) := by decide +kernel
theorem dX11_weighs_96 : decode cX11_weighs 96 = .ok (.iload_n 2, 1) := by decide +kernel
theorem dX11_weighs_97 : decode cX11_weighs 97 = .ok (.iconst 1, 1) := by decide +kernel
theorem dX11_weighs_98 : decode cX11_weighs 98 = .ok (.isub, 1) := by decide +kernel
theorem dX11_weighs_99 : decode cX11_weighs 99 = .ok (.laload, 1) := by decide +kernel
theorem dX11_weighs_100 : decode cX11_weighs 100 = .ok (.invokevirtual 290, 3) := by decide +kernel
theorem dX11_weighs_103 : decode cX11_weighs 103 = .ok (.ifCond .eq 7, 3) := by decide +kernel
theorem dX11_weighs_106 : decode cX11_weighs 106 = .ok (.iconst 1, 1) := by decide +kernel
theorem dX11_weighs_107 : decode cX11_weighs 107 = .ok (.goto 4, 3) := by decide +kernel
theorem dX11_weighs_110 : decode cX11_weighs 110 = .ok (.iconst 0, 1) := by decide +kernel
theorem dX11_weighs_111 : decode cX11_weighs 111 = .ok (.istore_n 1, 1) := by decide +kernel
theorem dX11_weighs_112 : decode cX11_weighs 112 = .ok (.aload_n 0, 1) := by decide +kernel
theorem dX11_weighs_113 : decode cX11_weighs 113 = .ok (.getfield 93, 3) := by decide +kernel
theorem dX11_weighs_116 : decode cX11_weighs 116 = .ok (.iload_n 2, 1) := by decide +kernel
theorem dX11_weighs_117 : decode cX11_weighs 117 = .ok (.iconst 1, 1) := by decide +kernel
theorem dX11_weighs_118 : decode cX11_weighs 118 = .ok (.isub, 1) := by decide +kernel
theorem dX11_weighs_119 : decode cX11_weighs 119 = .ok (.aload_n 0, 1) := by decide +kernel
theorem dX11_weighs_120 : decode cX11_weighs 120 = .ok (.getfield 93, 3) := by decide +kernel
theorem dX11_weighs_123 : decode cX11_weighs 123 = .ok (.iload_n 2, 1) := by decide +kernel
theorem dX11_weighs_124 : decode cX11_weighs 124 = .ok (.iconst 1, 1) := by decide +kernel
theorem dX11_weighs_125 : decode cX11_weighs 125 = .ok (.isub, 1) := by decide +kernel
theorem dX11_weighs_126 : decode cX11_weighs 126 = .ok (.laload, 1) := by decide +kernel
theorem dX11_weighs_127 : decode cX11_weighs 127 = .ok (.invokestatic 294, 3) := by decide +kernel
theorem dX11_weighs_130 : decode cX11_weighs 130 = .ok (.lastore, 1) := by decide +kernel
theorem dX11_weighs_131 : decode cX11_weighs 131 = .ok (.aload_n 0, 1) := by decide +kernel
theorem dX11_weighs_132 : decode cX11_weighs 132 = .ok (.getfield 96, 3) := by decide +kernel
theorem dX11_weighs_135 : decode cX11_weighs 135 = .ok (.iload_n 2, 1) := by decide +kernel
theorem dX11_weighs_136 : decode cX11_weighs 136 = .ok (.iconst 1, 1) := by decide +kernel
theorem dX11_weighs_137 : decode cX11_weighs 137 = .ok (.isub, 1) := by decide +kernel
theorem dX11_weighs_138 : decode cX11_weighs 138 = .ok (.iconst 0, 1) := by decide +kernel
theorem dX11_weighs_139 : decode cX11_weighs 139 = .ok (.iastore, 1) := by decide +kernel
theorem dX11_weighs_140 : decode cX11_weighs 140 = .ok (.goto 133, 3) := by decide +kernel
theorem dX11_weighs_143 : decode cX11_weighs 143 = .ok (.iinc 2 (-1), 3) := by decide +kernel
theorem dX11_weighs_146 : decode cX11_weighs 146 = .ok (.iload 4, 2) := by decide +kernel
theorem dX11_weighs_148 : decode cX11_weighs 148 = .ok (.bipush 11, 2) := by decide +kernel
theorem dX11_weighs_150 : decode cX11_weighs 150 = .ok (.if_icmp .ne 7, 3) := by decide +kernel
theorem dX11_weighs_153 : decode cX11_weighs 153 = .ok (.iconst 1, 1) := by decide +kernel
theorem dX11_weighs_154 : decode cX11_weighs 154 = .ok (.goto 4, 3) := by decide +kernel
theorem dX11_weighs_157 : decode cX11_weighs 157 = .ok (.iconst 0, 1) := by decide +kernel
theorem dX11_weighs_158 : decode cX11_weighs 158 = .ok (.istore 5, 2) := by decide +kernel
theorem dX11_weighs_160 : decode cX11_weighs 160 = .ok (.aload_n 0, 1) := by decide +kernel
theorem dX11_weighs_161 : decode cX11_weighs 161 = .ok (.getfield 93, 3) := by decide +kernel
theorem dX11_weighs_164 : decode cX11_weighs 164 = .ok (.iload_n 2, 1) := by decide +kernel
theorem dX11_weighs_165 : decode cX11_weighs 165 = .ok (.iconst 1, 1) := by decide +kernel
theorem dX11_weighs_166 : decode cX11_weighs 166 = .ok (.isub, 1) := by decide +kernel
theorem dX11_weighs_167 : decode cX11_weighs 167 = .ok (.iload 5, 2) := by decide +kernel
theorem dX11_weighs_169 : decode cX11_weighs 169 = .ok (.ifCond .eq 23, 3) := by decide +kernel
theorem dX11_weighs_172 : decode cX11_weighs 172 = .ok (.aload_n 0, 1) := by decide +kernel
theorem dX11_weighs_173 : decode cX11_weighs 173 = .ok (.getfield 93, 3) := by decide +kernel
theorem dX11_weighs_176 : decode cX11_weighs 176 = .ok (.iload_n 2, 1) := by decide +kernel
theorem dX11_weighs_177 : decode cX11_weighs 177 = .ok (.iconst 1, 1) := by decide +kernel
theorem dX11_weighs_178 : decode cX11_weighs 178 = .ok (.isub, 1) := by decide +kernel
theorem dX11_weighs_179 : decode cX11_weighs 179 = .ok (.laload, 1) := by decide +kernel
theorem dX11_weighs_180 : decode cX11_weighs 180 = .ok (.aload_n 0, 1) := by decide +kernel
theorem dX11_weighs_181 : decode cX11_weighs 181 = .ok (.getfield 93, 3) := by decide +kernel
theorem dX11_weighs_184 : decode cX11_weighs 184 = .ok (.iload_n 2, 1) := by decide +kernel
theorem dX11_weighs_185 : decode cX11_weighs 185 = .ok (.laload, 1) := by decide +kernel
theorem dX11_weighs_186 : decode cX11_weighs 186 = .ok (.invokestatic 286, 3) := by decide +kernel
theorem dX11_weighs_189 : decode cX11_weighs 189 = .ok (.goto 18, 3) := by decide +kernel
theorem dX11_weighs_192 : decode cX11_weighs 192 = .ok (.aload_n 0, 1) := by decide +kernel
theorem dX11_weighs_193 : decode cX11_weighs 193 = .ok (.getfield 93, 3) := by decide +kernel
theorem dX11_weighs_196 : decode cX11_weighs 196 = .ok (.iload_n 2, 1) := by decide +kernel
theorem dX11_weighs_197 : decode cX11_weighs 197 = .ok (.iconst 1, 1) := by decide +kernel
theorem dX11_weighs_198 : decode cX11_weighs 198 = .ok (.isub, 1) := by decide +kernel
theorem dX11_weighs_199 : decode cX11_weighs 199 = .ok (.laload, 1) := by decide +kernel
theorem dX11_weighs_200 : decode cX11_weighs 200 = .ok (.aload_n 0, 1) := by decide +kernel
theorem dX11_weighs_201 : decode cX11_weighs 201 = .ok (.getfield 93, 3) := by decide +kernel
theorem dX11_weighs_204 : decode cX11_weighs 204 = .ok (.iload_n 2, 1) := by decide +kernel
theorem dX11_weighs_205 : decode cX11_weighs 205 = .ok (.laload, 1) := by decide +kernel
theorem dX11_weighs_206 : decode cX11_weighs 206 = .ok (.lor, 1) := by decide +kernel
theorem dX11_weighs_207 : decode cX11_weighs 207 = .ok (.lastore, 1) := by decide +kernel
theorem dX11_weighs_208 : decode cX11_weighs 208 = .ok (.aload_n 0, 1) := by decide +kernel
theorem dX11_weighs_209 : decode cX11_weighs 209 = .ok (.getfield 96, 3) := by decide +kernel
theorem dX11_weighs_212 : decode cX11_weighs 212 = .ok (.iload_n 2, 1) := by decide +kernel
theorem dX11_weighs_213 : decode cX11_weighs 213 = .ok (.iconst 1, 1) := by decide +kernel
theorem dX11_weighs_214 : decode cX11_weighs 214 = .ok (.isub, 1) := by decide +kernel
theorem dX11_weighs_215 : decode cX11_weighs 215 = .ok (.iload 5, 2) := by decide +kernel
theorem dX11_weighs_217 : decode cX11_weighs 217 = .ok (.ifCond .eq 21, 3) := by decide +kernel
theorem dX11_weighs_220 : decode cX11_weighs 220 = .ok (.aload_n 0, 1) := by decide +kernel
theorem dX11_weighs_221 : decode cX11_weighs 221 = .ok (.getfield 96, 3) := by decide +kernel
theorem dX11_weighs_224 : decode cX11_weighs 224 = .ok (.iload_n 2, 1) := by decide +kernel
theorem dX11_weighs_225 : decode cX11_weighs 225 = .ok (.iconst 1, 1) := by decide +kernel
theorem dX11_weighs_226 : decode cX11_weighs 226 = .ok (.isub, 1) := by decide +kernel
theorem dX11_weighs_227 : decode cX11_weighs 227 = .ok (.iaload, 1) := by decide +kernel
theorem dX11_weighs_228 : decode cX11_weighs 228 = .ok (.aload_n 0, 1) := by decide +kernel
theorem dX11_weighs_229 : decode cX11_weighs 229 = .ok (.getfield 96, 3) := by decide +kernel
theorem dX11_weighs_232 : decode cX11_weighs 232 = .ok (.iload_n 2, 1) := by decide +kernel
theorem dX11_weighs_233 : decode cX11_weighs 233 = .ok (.iaload, 1) := by decide +kernel
theorem dX11_weighs_234 : decode cX11_weighs 234 = .ok (.iadd, 1) := by decide +kernel
theorem dX11_weighs_235 : decode cX11_weighs 235 = .ok (.goto 37, 3) := by decide +kernel
theorem dX11_weighs_238 : decode cX11_weighs 238 = .ok (.aload_n 0, 1) := by decide +kernel
theorem dX11_weighs_239 : decode cX11_weighs 239 = .ok (.getfield 96, 3) := by decide +kernel
theorem dX11_weighs_242 : decode cX11_weighs 242 = .ok (.iload_n 2, 1) := by decide +kernel
theorem dX11_weighs_243 : decode cX11_weighs 243 = .ok (.iaload, 1) := by decide +kernel
theorem dX11_weighs_244 : decode cX11_weighs 244 = .ok (.aload_n 0, 1) := by decide +kernel
theorem dX11_weighs_245 : decode cX11_weighs 245 = .ok (.getfield 96, 3) := by decide +kernel
theorem dX11_weighs_248 : decode cX11_weighs 248 = .ok (.iload_n 2, 1) := by decide +kernel
theorem dX11_weighs_249 : decode cX11_weighs 249 = .ok (.iconst 1, 1) := by decide +kernel
theorem dX11_weighs_250 : decode cX11_weighs 250 = .ok (.isub, 1) := by decide +kernel
theorem dX11_weighs_251 : decode cX11_weighs 251 = .ok (.iaload, 1) := by decide +kernel
theorem dX11_weighs_252 : decode cX11_weighs 252 = .ok (.if_icmp .ge 12, 3) := by decide +kernel
theorem dX11_weighs_255 : decode cX11_weighs 255 = .ok (.aload_n 0, 1) := by decide +kernel
theorem dX11_weighs_256 : decode cX11_weighs 256 = .ok (.getfield 96, 3) := by decide +kernel
theorem dX11_weighs_259 : decode cX11_weighs 259 = .ok (.iload_n 2, 1) := by decide +kernel
theorem dX11_weighs_260 : decode cX11_weighs 260 = .ok (.iaload, 1) := by decide +kernel
theorem dX11_weighs_261 : decode cX11_weighs 261 = .ok (.goto 11, 3) := by decide +kernel
theorem dX11_weighs_264 : decode cX11_weighs 264 = .ok (.aload_n 0, 1) := by decide +kernel
theorem dX11_weighs_265 : decode cX11_weighs 265 = .ok (.getfield 96, 3) := by decide +kernel
theorem dX11_weighs_268 : decode cX11_weighs 268 = .ok (.iload_n 2, 1) := by decide +kernel
theorem dX11_weighs_269 : decode cX11_weighs 269 = .ok (.iconst 1, 1) := by decide +kernel
theorem dX11_weighs_270 : decode cX11_weighs 270 = .ok (.isub, 1) := by decide +kernel
theorem dX11_weighs_271 : decode cX11_weighs 271 = .ok (.iaload, 1) := by decide +kernel
theorem dX11_weighs_272 : decode cX11_weighs 272 = .ok (.iastore, 1) := by decide +kernel
theorem dX11_weighs_273 : decode cX11_weighs 273 = .ok (.iinc 3 1, 3) := by decide +kernel
theorem dX11_weighs_276 : decode cX11_weighs 276 = .ok (.goto (-266), 3) := by decide +kernel
theorem dX11_weighs_279 : decode cX11_weighs 279 = .ok (.iload_n 1, 1) := by decide +kernel
theorem dX11_weighs_280 : decode cX11_weighs 280 = .ok (.ireturn, 1) := by decide +kernel
set_option maxRecDepth 20000 in
theorem ggX11_starConnected_X11_fault : GoodIn wsX11_starConnected wsX11_fault := goodIn_r _ [5, 6, 7, 8, 9, 10, 4, 11, 12, 13, 14, 15, 16, 17, 18, 19, 60, 61, 62, 63, 64, 65, 66, 67, 68, 69, 70, 71, 72, 73, 74, 75, 76, 77, 78, 79, 80, 81, 82, 83, 84, 85, 86, 87, 88, 89, 90, 91, 92, 93, 94, 95, 96, 97, 98] (by decide +kernel) (by decide +kernel)
set_option maxRecDepth 20000 in
theorem gX11_starConnected_X11_fault : GoodIn wsX11_starConnected (wsV RX11 238 RX11 yX11_fault wsX11_fault) := goodIn_app (goodIn_of _ (by decide +kernel)) ggX11_starConnected_X11_fault
set_option maxRecDepth 20000 in
theorem ggX11_starConnected_X11_weighs : GoodIn wsX11_starConnected wsX11_weighs := goodIn_r _ [23, 24, 25, 26, 27, 28, 29, 30, 4, 31, 32, 6, 7, 8, 9, 10, 11, 12, 13, 14, 15, 16, 17, 18, 19, 33, 34, 35, 36, 37, 38, 39, 40, 41, 42, 43, 44, 45, 46, 47, 48, 49, 50, 51, 52, 53, 54, 55, 56, 57, 58, 59, 60, 61, 62, 63, 64, 65, 66, 67, 68, 69, 70, 71, 72, 73, 74, 75, 76, 77, 78, 79, 80, 81, 82, 83, 84, 85, 86, 87, 88, 89, 90, 91, 92, 93, 94, 95, 96, 97, 98] (by decide +kernel) (by decide +kernel)
set_option maxRecDepth 20000 in
theorem gX11_starConnected_X11_weighs : GoodIn wsX11_starConnected (wsV RX11 298 RX11 yX11_weighs wsX11_weighs) := goodIn_app (goodIn_of _ (by decide +kernel)) ggX11_starConnected_X11_weighs
theorem dX11_starConnected_0 : decode cX11_starConnected 0 = .ok (.aload_n 0, 1) := by decide +kernel
theorem dX11_starConnected_1 : decode cX11_starConnected 1 = .ok (.invokevirtual 238, 3) := by decide +kernel
theorem dX11_starConnected_4 : decode cX11_starConnected 4 = .ok (.ifCond .lt 6, 3) := by decide +kernel
theorem dX11_starConnected_7 : decode cX11_starConnected 7 = .ok (.bipush (-3), 2) := by decide +kernel
theorem dX11_starConnected_9 : decode cX11_starConnected 9 = .ok (.ireturn, 1) := by decide +kernel
theorem dX11_starConnected_10 : decode cX11_starConnected 10 = .ok (.aload_n 0, 1) := by decide +kernel
theorem dX11_starConnected_11 : decode cX11_starConnected 11 = .ok (.invokevirtual 298, 3) := by decide +kernel
theorem dX11_starConnected_14 : decode cX11_starConnected 14 = .ok (.ifCond .eq 7, 3) := by decide +kernel
theorem dX11_starConnected_17 : decode cX11_starConnected 17 = .ok (.iconst 1, 1) := by decide +kernel
theorem dX11_starConnected_18 : decode cX11_starConnected 18 = .ok (.goto 4, 3) := by decide +kernel
theorem dX11_starConnected_21 : decode cX11_starConnected 21 = .ok (.iconst 0, 1) := by decide +kernel
theorem dX11_starConnected_22 : decode cX11_starConnected 22 = .ok (.ireturn, 1) := by decide +kernel
set_option maxRecDepth 20000 in
theorem ggX11_shortest_X11_fault : GoodIn wsX11_shortest wsX11_fault := goodIn_r _ [6, 7, 8, 9, 10, 11, 5, 12, 13, 14, 15, 16, 17, 18, 19, 20, 60, 61, 62, 63, 64, 65, 66, 67, 68, 69, 70, 71, 72, 73, 74, 75, 76, 77, 78, 79, 80, 81, 82, 83, 84, 85, 86, 87, 88, 89, 90, 91, 92, 93, 94, 95, 96, 97, 98] (by decide +kernel) (by decide +kernel)
set_option maxRecDepth 20000 in
theorem gX11_shortest_X11_fault : GoodIn wsX11_shortest (wsV RX11 238 RX11 yX11_fault wsX11_fault) := goodIn_app (goodIn_of _ (by decide +kernel)) ggX11_shortest_X11_fault
set_option maxRecDepth 20000 in
theorem ggX11_shortest_X11_weighs : GoodIn wsX11_shortest wsX11_weighs := goodIn_r _ [24, 25, 26, 27, 1, 28, 29, 30, 5, 31, 32, 7, 8, 9, 10, 11, 12, 13, 14, 15, 16, 17, 18, 19, 20, 33, 34, 35, 36, 37, 38, 39, 40, 41, 42, 43, 44, 45, 46, 47, 48, 49, 50, 51, 52, 53, 54, 55, 56, 57, 58, 59, 60, 61, 62, 63, 64, 65, 66, 67, 68, 69, 70, 71, 72, 73, 74, 75, 76, 77, 78, 79, 80, 81, 82, 83, 84, 85, 86, 87, 88, 89, 90, 91, 92, 93, 94, 95, 96, 97, 98] (by decide +kernel) (by decide +kernel)
set_option maxRecDepth 20000 in
theorem gX11_shortest_X11_weighs : GoodIn wsX11_shortest (wsV RX11 298 RX11 yX11_weighs wsX11_weighs) := goodIn_app (goodIn_of _ (by decide +kernel)) ggX11_shortest_X11_weighs
theorem dX11_shortest_0 : decode cX11_shortest 0 = .ok (.aload_n 0, 1) := by decide +kernel
theorem dX11_shortest_1 : decode cX11_shortest 1 = .ok (.invokevirtual 238, 3) := by decide +kernel
theorem dX11_shortest_4 : decode cX11_shortest 4 = .ok (.ifCond .lt 6, 3) := by decide +kernel
theorem dX11_shortest_7 : decode cX11_shortest 7 = .ok (.bipush (-3), 2) := by decide +kernel
theorem dX11_shortest_9 : decode cX11_shortest 9 = .ok (.ireturn, 1) := by decide +kernel
theorem dX11_shortest_10 : decode cX11_shortest 10 = .ok (.aload_n 0, 1) := by decide +kernel
theorem dX11_shortest_11 : decode cX11_shortest 11 = .ok (.invokevirtual 298, 3) := by decide +kernel
theorem dX11_shortest_14 : decode cX11_shortest 14 = .ok (.istore_n 1, 1) := by decide +kernel
theorem dX11_shortest_15 : decode cX11_shortest 15 = .ok (.aload_n 0, 1) := by decide +kernel
theorem dX11_shortest_16 : decode cX11_shortest 16 = .ok (.getfield 96, 3) := by decide +kernel
theorem dX11_shortest_19 : decode cX11_shortest 19 = .ok (.iconst 0, 1) := by decide +kernel
theorem dX11_shortest_20 : decode cX11_shortest 20 = .ok (.iaload, 1) := by decide +kernel
theorem dX11_shortest_21 : decode cX11_shortest 21 = .ok (.ireturn, 1) := by decide +kernel
set_option maxRecDepth 20000 in
theorem ggX11_setStates_X11_in : GoodIn wsX11_setStates wsX11_in := goodIn_r _ [5] (by decide +kernel) (by decide +kernel)
set_option maxRecDepth 20000 in
theorem gX11_setStates_X11_in : GoodIn wsX11_setStates (va_wsS RX11 102 yX11_in wsX11_in) := goodIn_app (goodIn_of _ (by decide +kernel)) ggX11_setStates_X11_in
set_option maxRecDepth 20000 in
theorem ggX11_setStates_X11_beginsStates : GoodIn wsX11_setStates wsX11_beginsStates := goodIn_r _ [9, 1, 10, 11, 12, 13, 14, 15, 16, 17, 18, 19, 20, 21, 22, 23, 24, 25, 26, 27, 28, 29, 30, 31, 32, 33, 34, 35, 36, 37, 38, 39, 40, 41, 42, 43, 44, 45, 46, 47, 48] (by decide +kernel) (by decide +kernel)
set_option maxRecDepth 20000 in
theorem gX11_setStates_X11_beginsStates : GoodIn wsX11_setStates (wsV RX11 106 RX11 yX11_beginsStates wsX11_beginsStates) := goodIn_app (goodIn_of _ (by decide +kernel)) ggX11_setStates_X11_beginsStates
theorem dX11_setStates_0 : decode cX11_setStates 0 = .ok (.iload_n 1, 1) := by decide +kernel
theorem dX11_setStates_1 : decode cX11_setStates 1 = .ok (.iconst 1, 1) := by decide +kernel
theorem dX11_setStates_2 : decode cX11_setStates 2 = .ok (.bipush 6, 2) := by decide +kernel
theorem dX11_setStates_4 : decode cX11_setStates 4 = .ok (.invokestatic 102, 3) := by decide +kernel
theorem dX11_setStates_7 : decode cX11_setStates 7 = .ok (.ifCond .ne 6, 3) := by decide +kernel
theorem dX11_setStates_10 : decode cX11_setStates 10 = .ok (.bipush (-2), 2) := by decide +kernel
theorem dX11_setStates_12 : decode cX11_setStates 12 = .ok (.ireturn, 1) := by decide +kernel
theorem dX11_setStates_13 : decode cX11_setStates 13 = .ok (.aload_n 0, 1) := by decide +kernel
theorem dX11_setStates_14 : decode cX11_setStates 14 = .ok (.getfield 7, 3) := by decide +kernel
theorem dX11_setStates_17 : decode cX11_setStates 17 = .ok (.bipush 109, 2) := by decide +kernel
theorem dX11_setStates_19 : decode cX11_setStates 19 = .ok (.iaload, 1) := by decide +kernel
theorem dX11_setStates_20 : decode cX11_setStates 20 = .ok (.istore_n 2, 1) := by decide +kernel
theorem dX11_setStates_21 : decode cX11_setStates 21 = .ok (.aload_n 0, 1) := by decide +kernel
theorem dX11_setStates_22 : decode cX11_setStates 22 = .ok (.iload_n 1, 1) := by decide +kernel
theorem dX11_setStates_23 : decode cX11_setStates 23 = .ok (.invokevirtual 106, 3) := by decide +kernel
theorem dX11_setStates_26 : decode cX11_setStates 26 = .ok (.iload_n 2, 1) := by decide +kernel
theorem dX11_setStates_27 : decode cX11_setStates 27 = .ok (.ireturn, 1) := by decide +kernel
set_option maxRecDepth 20000 in
theorem ggX11_setArrow_X11_isState : GoodIn wsX11_setArrow wsX11_isState := goodIn_r _ [6, 1, 7, 8, 5, 9, 14, 15, 16, 17, 18, 19, 20, 21, 22, 23, 24, 25, 26, 27, 28, 29, 30, 31, 32, 33, 34, 35, 36, 37, 38, 39, 40, 41, 42, 43, 44, 45, 46, 47, 48, 49, 50, 51, 52] (by decide +kernel) (by decide +kernel)
set_option maxRecDepth 20000 in
theorem gX11_setArrow_X11_isState : GoodIn wsX11_setArrow (wsV RX11 301 RX11 yX11_isState wsX11_isState) := goodIn_app (goodIn_of _ (by decide +kernel)) ggX11_setArrow_X11_isState
set_option maxRecDepth 20000 in
theorem ggX11_setArrow_X11_isLetter : GoodIn wsX11_setArrow wsX11_isLetter := goodIn_r _ [13, 1, 7, 8, 5, 9, 14, 15, 16, 17, 18, 19, 20, 21, 22, 23, 24, 25, 26, 27, 28, 29, 30, 31, 32, 33, 34, 35, 36, 37, 38, 39, 40, 41, 42, 43, 44, 45, 46, 47, 48, 49, 50, 51, 52] (by decide +kernel) (by decide +kernel)
set_option maxRecDepth 20000 in
theorem gX11_setArrow_X11_isLetter : GoodIn wsX11_setArrow (wsV RX11 110 RX11 yX11_isLetter wsX11_isLetter) := goodIn_app (goodIn_of _ (by decide +kernel)) ggX11_setArrow_X11_isLetter
theorem dX11_setArrow_0 : decode cX11_setArrow 0 = .ok (.aload_n 0, 1) := by decide +kernel
theorem dX11_setArrow_1 : decode cX11_setArrow 1 = .ok (.iload_n 1, 1) := by decide +kernel
theorem dX11_setArrow_2 : decode cX11_setArrow 2 = .ok (.invokevirtual 301, 3) := by decide +kernel
theorem dX11_setArrow_5 : decode cX11_setArrow 5 = .ok (.ifCond .eq 19, 3) := by decide +kernel
theorem dX11_setArrow_8 : decode cX11_setArrow 8 = .ok (.aload_n 0, 1) := by decide +kernel
theorem dX11_setArrow_9 : decode cX11_setArrow 9 = .ok (.iload_n 2, 1) := by decide +kernel
theorem dX11_setArrow_10 : decode cX11_setArrow 10 = .ok (.invokevirtual 110, 3) := by decide +kernel
theorem dX11_setArrow_13 : decode cX11_setArrow 13 = .ok (.ifCond .eq 11, 3) := by decide +kernel
theorem dX11_setArrow_16 : decode cX11_setArrow 16 = .ok (.aload_n 0, 1) := by decide +kernel
theorem dX11_setArrow_17 : decode cX11_setArrow 17 = .ok (.iload_n 3, 1) := by decide +kernel
theorem dX11_setArrow_18 : decode cX11_setArrow 18 = .ok (.invokevirtual 301, 3) := by decide +kernel
theorem dX11_setArrow_21 : decode cX11_setArrow 21 = .ok (.ifCond .ne 5, 3) := by decide +kernel
theorem dX11_setArrow_24 : decode cX11_setArrow 24 = .ok (.iconst (-1), 1) := by decide +kernel
theorem dX11_setArrow_25 : decode cX11_setArrow 25 = .ok (.ireturn, 1) := by decide +kernel
theorem dX11_setArrow_26 : decode cX11_setArrow 26 = .ok (.aload_n 0, 1) := by decide +kernel
theorem dX11_setArrow_27 : decode cX11_setArrow 27 = .ok (.getfield 7, 3) := by decide +kernel
theorem dX11_setArrow_30 : decode cX11_setArrow 30 = .ok (.bipush 110, 2) := by decide +kernel
theorem dX11_setArrow_32 : decode cX11_setArrow 32 = .ok (.bipush 6, 2) := by decide +kernel
theorem dX11_setArrow_34 : decode cX11_setArrow 34 = .ok (.iload_n 1, 1) := by decide +kernel
theorem dX11_setArrow_35 : decode cX11_setArrow 35 = .ok (.imul, 1) := by decide +kernel
theorem dX11_setArrow_36 : decode cX11_setArrow 36 = .ok (.iadd, 1) := by decide +kernel
theorem dX11_setArrow_37 : decode cX11_setArrow 37 = .ok (.iload_n 2, 1) := by decide +kernel
theorem dX11_setArrow_38 : decode cX11_setArrow 38 = .ok (.iadd, 1) := by decide +kernel
theorem dX11_setArrow_39 : decode cX11_setArrow 39 = .ok (.iaload, 1) := by decide +kernel
theorem dX11_setArrow_40 : decode cX11_setArrow 40 = .ok (.istore 4, 2) := by decide +kernel
theorem dX11_setArrow_42 : decode cX11_setArrow 42 = .ok (.aload_n 0, 1) := by decide +kernel
theorem dX11_setArrow_43 : decode cX11_setArrow 43 = .ok (.getfield 7, 3) := by decide +kernel
theorem dX11_setArrow_46 : decode cX11_setArrow 46 = .ok (.bipush 110, 2) := by decide +kernel
theorem dX11_setArrow_48 : decode cX11_setArrow 48 = .ok (.bipush 6, 2) := by decide +kernel
theorem dX11_setArrow_50 : decode cX11_setArrow 50 = .ok (.iload_n 1, 1) := by decide +kernel
theorem dX11_setArrow_51 : decode cX11_setArrow 51 = .ok (.imul, 1) := by decide +kernel
theorem dX11_setArrow_52 : decode cX11_setArrow 52 = .ok (.iadd, 1) := by decide +kernel
theorem dX11_setArrow_53 : decode cX11_setArrow 53 = .ok (.iload_n 2, 1) := by decide +kernel
theorem dX11_setArrow_54 : decode cX11_setArrow 54 = .ok (.iadd, 1) := by decide +kernel
theorem dX11_setArrow_55 : decode cX11_setArrow 55 = .ok (.iload_n 3, 1) := by decide +kernel
theorem dX11_setArrow_56 : decode cX11_setArrow 56 = .ok (.iastore, 1) := by decide +kernel
theorem dX11_setArrow_57 : decode cX11_setArrow 57 = .ok (.iload 4, 2) := by decide +kernel
theorem dX11_setArrow_59 : decode cX11_setArrow 59 = .ok (.ireturn, 1) := by decide +kernel
set_option maxRecDepth 20000 in
theorem ggX11_setAccepting_X11_isState : GoodIn wsX11_setAccepting wsX11_isState := goodIn_r _ [6, 1, 7, 8, 5, 9, 10, 11, 12, 13, 14, 15, 16, 17, 18, 19, 20, 21, 22, 23, 24, 25, 26, 27, 28, 29, 30, 31, 32, 33, 34, 35, 36, 37, 38, 39, 40, 41, 42, 43, 44, 45, 46, 47, 48] (by decide +kernel) (by decide +kernel)
set_option maxRecDepth 20000 in
theorem gX11_setAccepting_X11_isState : GoodIn wsX11_setAccepting (wsV RX11 301 RX11 yX11_isState wsX11_isState) := goodIn_app (goodIn_of _ (by decide +kernel)) ggX11_setAccepting_X11_isState
theorem dX11_setAccepting_0 : decode cX11_setAccepting 0 = .ok (.aload_n 0, 1) := by decide +kernel
theorem dX11_setAccepting_1 : decode cX11_setAccepting 1 = .ok (.iload_n 1, 1) := by decide +kernel
theorem dX11_setAccepting_2 : decode cX11_setAccepting 2 = .ok (.invokevirtual 301, 3) := by decide +kernel
theorem dX11_setAccepting_5 : decode cX11_setAccepting 5 = .ok (.ifCond .ne 5, 3) := by decide +kernel
theorem dX11_setAccepting_8 : decode cX11_setAccepting 8 = .ok (.iconst (-1), 1) := by decide +kernel
theorem dX11_setAccepting_9 : decode cX11_setAccepting 9 = .ok (.ireturn, 1) := by decide +kernel
theorem dX11_setAccepting_10 : decode cX11_setAccepting 10 = .ok (.aload_n 0, 1) := by decide +kernel
theorem dX11_setAccepting_11 : decode cX11_setAccepting 11 = .ok (.getfield 7, 3) := by decide +kernel
theorem dX11_setAccepting_14 : decode cX11_setAccepting 14 = .ok (.sipush 146, 3) := by decide +kernel
theorem dX11_setAccepting_17 : decode cX11_setAccepting 17 = .ok (.iaload, 1) := by decide +kernel
theorem dX11_setAccepting_18 : decode cX11_setAccepting 18 = .ok (.iload_n 1, 1) := by decide +kernel
theorem dX11_setAccepting_19 : decode cX11_setAccepting 19 = .ok (.ishr, 1) := by decide +kernel
theorem dX11_setAccepting_20 : decode cX11_setAccepting 20 = .ok (.iconst 1, 1) := by decide +kernel
theorem dX11_setAccepting_21 : decode cX11_setAccepting 21 = .ok (.iand, 1) := by decide +kernel
theorem dX11_setAccepting_22 : decode cX11_setAccepting 22 = .ok (.istore_n 3, 1) := by decide +kernel
theorem dX11_setAccepting_23 : decode cX11_setAccepting 23 = .ok (.aload_n 0, 1) := by decide +kernel
theorem dX11_setAccepting_24 : decode cX11_setAccepting 24 = .ok (.getfield 7, 3) := by decide +kernel
theorem dX11_setAccepting_27 : decode cX11_setAccepting 27 = .ok (.sipush 146, 3) := by decide +kernel
theorem dX11_setAccepting_30 : decode cX11_setAccepting 30 = .ok (.iload_n 2, 1) := by decide +kernel
theorem dX11_setAccepting_31 : decode cX11_setAccepting 31 = .ok (.ifCond .eq 18, 3) := by decide +kernel
theorem dX11_setAccepting_34 : decode cX11_setAccepting 34 = .ok (.aload_n 0, 1) := by decide +kernel
theorem dX11_setAccepting_35 : decode cX11_setAccepting 35 = .ok (.getfield 7, 3) := by decide +kernel
theorem dX11_setAccepting_38 : decode cX11_setAccepting 38 = .ok (.sipush 146, 3) := by decide +kernel
theorem dX11_setAccepting_41 : decode cX11_setAccepting 41 = .ok (.iaload, 1) := by decide +kernel
theorem dX11_setAccepting_42 : decode cX11_setAccepting 42 = .ok (.iconst 1, 1) := by decide +kernel
theorem dX11_setAccepting_43 : decode cX11_setAccepting 43 = .ok (.iload_n 1, 1) := by decide +kernel
theorem dX11_setAccepting_44 : decode cX11_setAccepting 44 = .ok (.ishl, 1) := by decide +kernel
theorem dX11_setAccepting_45 : decode cX11_setAccepting 45 = .ok (.ior, 1) := by decide +kernel
theorem dX11_setAccepting_46 : decode cX11_setAccepting 46 = .ok (.goto 17, 3) := by decide +kernel
theorem dX11_setAccepting_49 : decode cX11_setAccepting 49 = .ok (.aload_n 0, 1) := by decide +kernel
theorem dX11_setAccepting_50 : decode cX11_setAccepting 50 = .ok (.getfield 7, 3) := by decide +kernel
theorem dX11_setAccepting_53 : decode cX11_setAccepting 53 = .ok (.sipush 146, 3) := by decide +kernel
theorem dX11_setAccepting_56 : decode cX11_setAccepting 56 = .ok (.iaload, 1) := by decide +kernel
theorem dX11_setAccepting_57 : decode cX11_setAccepting 57 = .ok (.iconst 1, 1) := by decide +kernel
theorem dX11_setAccepting_58 : decode cX11_setAccepting 58 = .ok (.iload_n 1, 1) := by decide +kernel
theorem dX11_setAccepting_59 : decode cX11_setAccepting 59 = .ok (.ishl, 1) := by decide +kernel
theorem dX11_setAccepting_60 : decode cX11_setAccepting 60 = .ok (.iconst (-1), 1) := by decide +kernel
theorem dX11_setAccepting_61 : decode cX11_setAccepting 61 = .ok (.ixor, 1) := by decide +kernel
theorem dX11_setAccepting_62 : decode cX11_setAccepting 62 = .ok (.iand, 1) := by decide +kernel
theorem dX11_setAccepting_63 : decode cX11_setAccepting 63 = .ok (.iastore, 1) := by decide +kernel
theorem dX11_setAccepting_64 : decode cX11_setAccepting 64 = .ok (.iload_n 3, 1) := by decide +kernel
theorem dX11_setAccepting_65 : decode cX11_setAccepting 65 = .ok (.ireturn, 1) := by decide +kernel
set_option maxRecDepth 20000 in
theorem ggX11_acceptedAlike_X11_isWord : GoodIn wsX11_acceptedAlike wsX11_isWord := goodIn_r _ [6, 7, 8, 5, 9] (by decide +kernel) (by decide +kernel)
set_option maxRecDepth 20000 in
theorem gX11_acceptedAlike_X11_isWord : GoodIn wsX11_acceptedAlike (va_wsS RX11 156 yX11_isWord wsX11_isWord) := goodIn_app (goodIn_of _ (by decide +kernel)) ggX11_acceptedAlike_X11_isWord
set_option maxRecDepth 20000 in
theorem ggX11_acceptedAlike_X11_takesOne : GoodIn wsX11_acceptedAlike wsX11_takesOne := goodIn_r _ [13, 2, 14, 15, 45, 46, 47, 48, 49, 50, 51, 52, 53, 54, 55, 56, 57, 58, 59, 60, 61, 62, 63, 64, 65, 66, 67, 68, 69, 70, 71, 72, 73, 74, 75, 76, 77, 78, 79, 80, 81, 82, 83] (by decide +kernel) (by decide +kernel)
set_option maxRecDepth 20000 in
theorem gX11_acceptedAlike_X11_takesOne : GoodIn wsX11_acceptedAlike (wsV RX11 159 RX11 yX11_takesOne wsX11_takesOne) := goodIn_app (goodIn_of _ (by decide +kernel)) ggX11_acceptedAlike_X11_takesOne
set_option maxRecDepth 20000 in
theorem ggX11_acceptedAlike_X11_findWords : GoodIn wsX11_acceptedAlike wsX11_findWords := goodIn_r _ [19, 20, 21, 2, 22, 23, 24, 25, 5, 26, 27, 14, 15, 28, 29, 30, 31, 32, 33, 34, 35, 36, 37, 38, 39, 40, 45, 46, 47, 48, 49, 50, 51, 52, 53, 54, 55, 56, 57, 58, 59, 60, 61, 62, 63, 64, 65, 66, 67, 68, 69, 70, 71, 72, 73, 74, 75, 76, 77, 78, 79, 80, 81, 82, 83] (by decide +kernel) (by decide +kernel)
set_option maxRecDepth 20000 in
theorem gX11_acceptedAlike_X11_findWords : GoodIn wsX11_acceptedAlike (wsV RX11 188 RX11 yX11_findWords wsX11_findWords) := goodIn_app (goodIn_of _ (by decide +kernel)) ggX11_acceptedAlike_X11_findWords
set_option maxRecDepth 20000 in
theorem ggX11_acceptedAlike_X11_wordsTo : GoodIn wsX11_acceptedAlike wsX11_wordsTo := goodIn_r _ [44, 2, 21, 20, 45, 46, 47, 48, 49, 50, 51, 52, 53, 54, 55, 56, 57, 58, 59, 60, 61, 62, 63, 64, 65, 66, 67, 68, 69, 70, 71, 72, 73, 74, 75, 76, 77, 78, 79, 80, 81, 82, 83] (by decide +kernel) (by decide +kernel)
set_option maxRecDepth 20000 in
theorem gX11_acceptedAlike_X11_wordsTo : GoodIn wsX11_acceptedAlike (wsV RX11 191 RX11 yX11_wordsTo wsX11_wordsTo) := goodIn_app (goodIn_of _ (by decide +kernel)) ggX11_acceptedAlike_X11_wordsTo
theorem dX11_acceptedAlike_0 : decode cX11_acceptedAlike 0 = .ok (.iload_n 1, 1) := by decide +kernel
theorem dX11_acceptedAlike_1 : decode cX11_acceptedAlike 1 = .ok (.invokestatic 156, 3) := by decide +kernel
theorem dX11_acceptedAlike_4 : decode cX11_acceptedAlike 4 = .ok (.ifCond .ne 7, 3) := by decide +kernel
theorem dX11_acceptedAlike_7 : decode cX11_acceptedAlike 7 = .ok (.ldc2_w 186, 3) := by decide +kernel
theorem dX11_acceptedAlike_10 : decode cX11_acceptedAlike 10 = .ok (.lreturn, 1) := by decide +kernel
theorem dX11_acceptedAlike_11 : decode cX11_acceptedAlike 11 = .ok (.aload_n 0, 1) := by decide +kernel
theorem dX11_acceptedAlike_12 : decode cX11_acceptedAlike 12 = .ok (.iload_n 1, 1) := by decide +kernel
theorem dX11_acceptedAlike_13 : decode cX11_acceptedAlike 13 = .ok (.invokevirtual 159, 3) := by decide +kernel
theorem dX11_acceptedAlike_16 : decode cX11_acceptedAlike 16 = .ok (.aload_n 0, 1) := by decide +kernel
theorem dX11_acceptedAlike_17 : decode cX11_acceptedAlike 17 = .ok (.invokevirtual 188, 3) := by decide +kernel
theorem dX11_acceptedAlike_20 : decode cX11_acceptedAlike 20 = .ok (.aload_n 0, 1) := by decide +kernel
theorem dX11_acceptedAlike_21 : decode cX11_acceptedAlike 21 = .ok (.aload_n 0, 1) := by decide +kernel
theorem dX11_acceptedAlike_22 : decode cX11_acceptedAlike 22 = .ok (.getfield 7, 3) := by decide +kernel
theorem dX11_acceptedAlike_25 : decode cX11_acceptedAlike 25 = .ok (.sipush 146, 3) := by decide +kernel
theorem dX11_acceptedAlike_28 : decode cX11_acceptedAlike 28 = .ok (.iaload, 1) := by decide +kernel
theorem dX11_acceptedAlike_29 : decode cX11_acceptedAlike 29 = .ok (.invokevirtual 191, 3) := by decide +kernel
theorem dX11_acceptedAlike_32 : decode cX11_acceptedAlike 32 = .ok (.lreturn, 1) := by decide +kernel
theorem dX11_arrow_0 : decode cX11_arrow 0 = .ok (.aload_n 0, 1) := by decide +kernel
theorem dX11_arrow_1 : decode cX11_arrow 1 = .ok (.getfield 7, 3) := by decide +kernel
theorem dX11_arrow_4 : decode cX11_arrow 4 = .ok (.bipush 110, 2) := by decide +kernel
theorem dX11_arrow_6 : decode cX11_arrow 6 = .ok (.bipush 6, 2) := by decide +kernel
theorem dX11_arrow_8 : decode cX11_arrow 8 = .ok (.iload_n 1, 1) := by decide +kernel
theorem dX11_arrow_9 : decode cX11_arrow 9 = .ok (.imul, 1) := by decide +kernel
theorem dX11_arrow_10 : decode cX11_arrow 10 = .ok (.iadd, 1) := by decide +kernel
theorem dX11_arrow_11 : decode cX11_arrow 11 = .ok (.iload_n 2, 1) := by decide +kernel
theorem dX11_arrow_12 : decode cX11_arrow 12 = .ok (.iadd, 1) := by decide +kernel
theorem dX11_arrow_13 : decode cX11_arrow 13 = .ok (.iaload, 1) := by decide +kernel
theorem dX11_arrow_14 : decode cX11_arrow 14 = .ok (.ireturn, 1) := by decide +kernel
set_option maxRecDepth 20000 in
theorem ggX11_brokenDiamond_X11_areFree : GoodIn wsX11_brokenDiamond wsX11_areFree := goodIn_r _ [6, 1, 11, 12, 13, 14, 15, 16, 17, 18, 19, 20, 21, 22, 23, 24, 25, 26, 27, 28, 29, 30, 31, 32, 33, 34, 35, 36, 37, 38, 39, 40, 41, 42, 43, 44, 45, 46, 47, 48, 49] (by decide +kernel) (by decide +kernel)
set_option maxRecDepth 20000 in
theorem gX11_brokenDiamond_X11_areFree : GoodIn wsX11_brokenDiamond (wsV RX11 114 RX11 yX11_areFree wsX11_areFree) := goodIn_app (goodIn_of _ (by decide +kernel)) ggX11_brokenDiamond_X11_areFree
set_option maxRecDepth 20000 in
theorem ggX11_brokenDiamond_X11_arrow : GoodIn wsX11_brokenDiamond wsX11_arrow := goodIn_r _ [10, 1, 11, 12, 13, 14, 15, 16, 17, 18, 19, 20, 21, 22, 23, 24, 25, 26, 27, 28, 29, 30, 31, 32, 33, 34, 35, 36, 37, 38, 39, 40, 41, 42, 43, 44, 45, 46, 47, 48, 49] (by decide +kernel) (by decide +kernel)
set_option maxRecDepth 20000 in
theorem gX11_brokenDiamond_X11_arrow : GoodIn wsX11_brokenDiamond (wsV RX11 304 RX11 yX11_arrow wsX11_arrow) := goodIn_app (goodIn_of _ (by decide +kernel)) ggX11_brokenDiamond_X11_arrow
theorem dX11_brokenDiamond_0 : decode cX11_brokenDiamond 0 = .ok (.iconst 0, 1) := by decide +kernel
theorem dX11_brokenDiamond_1 : decode cX11_brokenDiamond 1 = .ok (.istore_n 1, 1) := by decide +kernel
theorem dX11_brokenDiamond_2 : decode cX11_brokenDiamond 2 = .ok (.iload_n 1, 1) := by decide +kernel
theorem dX11_brokenDiamond_3 : decode cX11_brokenDiamond 3 = .ok (.aload_n 0, 1) := by decide +kernel
theorem dX11_brokenDiamond_4 : decode cX11_brokenDiamond 4 = .ok (.getfield 7, 3) := by decide +kernel
theorem dX11_brokenDiamond_7 : decode cX11_brokenDiamond 7 = .ok (.bipush 109, 2) := by decide +kernel
theorem dX11_brokenDiamond_9 : decode cX11_brokenDiamond 9 = .ok (.iaload, 1) := by decide +kernel
theorem dX11_brokenDiamond_10 : decode cX11_brokenDiamond 10 = .ok (.if_icmp .ge 93, 3) := by decide +kernel
theorem dX11_brokenDiamond_13 : decode cX11_brokenDiamond 13 = .ok (.iconst 0, 1) := by decide +kernel
theorem dX11_brokenDiamond_14 : decode cX11_brokenDiamond 14 = .ok (.istore_n 2, 1) := by decide +kernel
theorem dX11_brokenDiamond_15 : decode cX11_brokenDiamond 15 = .ok (.iload_n 2, 1) := by decide +kernel
theorem dX11_brokenDiamond_16 : decode cX11_brokenDiamond 16 = .ok (.aload_n 0, 1) := by decide +kernel
theorem dX11_brokenDiamond_17 : decode cX11_brokenDiamond 17 = .ok (.getfield 7, 3) := by decide +kernel
theorem dX11_brokenDiamond_20 : decode cX11_brokenDiamond 20 = .ok (.iconst 0, 1) := by decide +kernel
theorem dX11_brokenDiamond_21 : decode cX11_brokenDiamond 21 = .ok (.iaload, 1) := by decide +kernel
theorem dX11_brokenDiamond_22 : decode cX11_brokenDiamond 22 = .ok (.if_icmp .ge 75, 3) := by decide +kernel
theorem dX11_brokenDiamond_25 : decode cX11_brokenDiamond 25 = .ok (.iload_n 2, 1) := by decide +kernel
theorem dX11_brokenDiamond_26 : decode cX11_brokenDiamond 26 = .ok (.iconst 1, 1) := by decide +kernel
theorem dX11_brokenDiamond_27 : decode cX11_brokenDiamond 27 = .ok (.iadd, 1) := by decide +kernel
theorem dX11_brokenDiamond_28 : decode cX11_brokenDiamond 28 = .ok (.istore_n 3, 1) := by decide +kernel
theorem dX11_brokenDiamond_29 : decode cX11_brokenDiamond 29 = .ok (.iload_n 3, 1) := by decide +kernel
theorem dX11_brokenDiamond_30 : decode cX11_brokenDiamond 30 = .ok (.aload_n 0, 1) := by decide +kernel
theorem dX11_brokenDiamond_31 : decode cX11_brokenDiamond 31 = .ok (.getfield 7, 3) := by decide +kernel
theorem dX11_brokenDiamond_34 : decode cX11_brokenDiamond 34 = .ok (.iconst 0, 1) := by decide +kernel
theorem dX11_brokenDiamond_35 : decode cX11_brokenDiamond 35 = .ok (.iaload, 1) := by decide +kernel
theorem dX11_brokenDiamond_36 : decode cX11_brokenDiamond 36 = .ok (.if_icmp .ge 55, 3) := by decide +kernel
theorem dX11_brokenDiamond_39 : decode cX11_brokenDiamond 39 = .ok (.aload_n 0, 1) := by decide +kernel
theorem dX11_brokenDiamond_40 : decode cX11_brokenDiamond 40 = .ok (.iload_n 2, 1) := by decide +kernel
theorem dX11_brokenDiamond_41 : decode cX11_brokenDiamond 41 = .ok (.iload_n 3, 1) := by decide +kernel
theorem dX11_brokenDiamond_42 : decode cX11_brokenDiamond 42 = .ok (.invokevirtual 114, 3) := by decide +kernel
theorem dX11_brokenDiamond_45 : decode cX11_brokenDiamond 45 = .ok (.ifCond .eq 40, 3) := by decide +kernel
theorem dX11_brokenDiamond_48 : decode cX11_brokenDiamond 48 = .ok (.aload_n 0, 1) := by decide +kernel
theorem dX11_brokenDiamond_49 : decode cX11_brokenDiamond 49 = .ok (.aload_n 0, 1) := by decide +kernel
theorem dX11_brokenDiamond_50 : decode cX11_brokenDiamond 50 = .ok (.iload_n 1, 1) := by decide +kernel
theorem dX11_brokenDiamond_51 : decode cX11_brokenDiamond 51 = .ok (.iload_n 2, 1) := by decide +kernel
theorem dX11_brokenDiamond_52 : decode cX11_brokenDiamond 52 = .ok (.invokevirtual 304, 3) := by decide +kernel
theorem dX11_brokenDiamond_55 : decode cX11_brokenDiamond 55 = .ok (.iload_n 3, 1) := by decide +kernel
theorem dX11_brokenDiamond_56 : decode cX11_brokenDiamond 56 = .ok (.invokevirtual 304, 3) := by decide +kernel
theorem dX11_brokenDiamond_59 : decode cX11_brokenDiamond 59 = .ok (.aload_n 0, 1) := by decide +kernel
theorem dX11_brokenDiamond_60 : decode cX11_brokenDiamond 60 = .ok (.aload_n 0, 1) := by decide +kernel
theorem dX11_brokenDiamond_61 : decode cX11_brokenDiamond 61 = .ok (.iload_n 1, 1) := by decide +kernel
theorem dX11_brokenDiamond_62 : decode cX11_brokenDiamond 62 = .ok (.iload_n 3, 1) := by decide +kernel
theorem dX11_brokenDiamond_63 : decode cX11_brokenDiamond 63 = .ok (.invokevirtual 304, 3) := by decide +kernel
theorem dX11_brokenDiamond_66 : decode cX11_brokenDiamond 66 = .ok (.iload_n 2, 1) := by decide +kernel
theorem dX11_brokenDiamond_67 : decode cX11_brokenDiamond 67 = .ok (.invokevirtual 304, 3) := by decide +kernel
theorem dX11_brokenDiamond_70 : decode cX11_brokenDiamond 70 = .ok (.if_icmp .eq 15, 3) := by decide +kernel
theorem dX11_brokenDiamond_73 : decode cX11_brokenDiamond 73 = .ok (.bipush 100, 2) := by decide +kernel
theorem dX11_brokenDiamond_75 : decode cX11_brokenDiamond 75 = .ok (.iload_n 1, 1) := by decide +kernel
theorem dX11_brokenDiamond_76 : decode cX11_brokenDiamond 76 = .ok (.imul, 1) := by decide +kernel
theorem dX11_brokenDiamond_77 : decode cX11_brokenDiamond 77 = .ok (.bipush 10, 2) := by decide +kernel
theorem dX11_brokenDiamond_79 : decode cX11_brokenDiamond 79 = .ok (.iload_n 2, 1) := by decide +kernel
theorem dX11_brokenDiamond_80 : decode cX11_brokenDiamond 80 = .ok (.imul, 1) := by decide +kernel
theorem dX11_brokenDiamond_81 : decode cX11_brokenDiamond 81 = .ok (.iadd, 1) := by decide +kernel
theorem dX11_brokenDiamond_82 : decode cX11_brokenDiamond 82 = .ok (.iload_n 3, 1) := by decide +kernel
theorem dX11_brokenDiamond_83 : decode cX11_brokenDiamond 83 = .ok (.iadd, 1) := by decide +kernel
theorem dX11_brokenDiamond_84 : decode cX11_brokenDiamond 84 = .ok (.ireturn, 1) := by decide +kernel
theorem dX11_brokenDiamond_85 : decode cX11_brokenDiamond 85 = .ok (.iinc 3 1, 3) := by decide +kernel
theorem dX11_brokenDiamond_88 : decode cX11_brokenDiamond 88 = .ok (.goto (-59), 3) := by decide +kernel
theorem dX11_brokenDiamond_91 : decode cX11_brokenDiamond 91 = .ok (.iinc 2 1, 3) := by decide +kernel
theorem dX11_brokenDiamond_94 : decode cX11_brokenDiamond 94 = .ok (.goto (-79), 3) := by decide +kernel
theorem dX11_brokenDiamond_97 : decode cX11_brokenDiamond 97 = .ok (.iinc 1 1, 3) := by decide +kernel
theorem dX11_brokenDiamond_100 : decode cX11_brokenDiamond 100 = .ok (.goto (-98), 3) := by decide +kernel
theorem dX11_brokenDiamond_103 : decode cX11_brokenDiamond 103 = .ok (.bipush (-5), 2) := by decide +kernel
theorem dX11_brokenDiamond_105 : decode cX11_brokenDiamond 105 = .ok (.ireturn, 1) := by decide +kernel
set_option maxRecDepth 20000 in
theorem ggX11_findApart_X11_arrow : GoodIn wsX11_findApart wsX11_arrow := goodIn_r _ [7, 2, 8, 9, 10, 11, 12, 13, 14, 15, 16, 17, 18, 19, 20, 21, 22, 23, 24, 25, 26, 27, 28, 29, 30, 31, 32, 33, 34, 35, 36, 37, 38, 39, 40, 41, 42, 43, 44, 45, 46] (by decide +kernel) (by decide +kernel)
set_option maxRecDepth 20000 in
theorem gX11_findApart_X11_arrow : GoodIn wsX11_findApart (wsV RX11 304 RX11 yX11_arrow wsX11_arrow) := goodIn_app (goodIn_of _ (by decide +kernel)) ggX11_findApart_X11_arrow
theorem dX11_findApart_0 : decode cX11_findApart 0 = .ok (.iconst 0, 1) := by decide +kernel
theorem dX11_findApart_1 : decode cX11_findApart 1 = .ok (.istore_n 1, 1) := by decide +kernel
theorem dX11_findApart_2 : decode cX11_findApart 2 = .ok (.iload_n 1, 1) := by decide +kernel
theorem dX11_findApart_3 : decode cX11_findApart 3 = .ok (.bipush 36, 2) := by decide +kernel
theorem dX11_findApart_5 : decode cX11_findApart 5 = .ok (.if_icmp .ge 53, 3) := by decide +kernel
theorem dX11_findApart_8 : decode cX11_findApart 8 = .ok (.aload_n 0, 1) := by decide +kernel
theorem dX11_findApart_9 : decode cX11_findApart 9 = .ok (.getfield 99, 3) := by decide +kernel
theorem dX11_findApart_12 : decode cX11_findApart 12 = .ok (.iload_n 1, 1) := by decide +kernel
theorem dX11_findApart_13 : decode cX11_findApart 13 = .ok (.aload_n 0, 1) := by decide +kernel
theorem dX11_findApart_14 : decode cX11_findApart 14 = .ok (.getfield 7, 3) := by decide +kernel
theorem dX11_findApart_17 : decode cX11_findApart 17 = .ok (.sipush 146, 3) := by decide +kernel
theorem dX11_findApart_20 : decode cX11_findApart 20 = .ok (.iaload, 1) := by decide +kernel
theorem dX11_findApart_21 : decode cX11_findApart 21 = .ok (.iload_n 1, 1) := by decide +kernel
theorem dX11_findApart_22 : decode cX11_findApart 22 = .ok (.bipush 6, 2) := by decide +kernel
theorem dX11_findApart_24 : decode cX11_findApart 24 = .ok (.idiv, 1) := by decide +kernel
theorem dX11_findApart_25 : decode cX11_findApart 25 = .ok (.ishr, 1) := by decide +kernel
theorem dX11_findApart_26 : decode cX11_findApart 26 = .ok (.iconst 1, 1) := by decide +kernel
theorem dX11_findApart_27 : decode cX11_findApart 27 = .ok (.iand, 1) := by decide +kernel
theorem dX11_findApart_28 : decode cX11_findApart 28 = .ok (.aload_n 0, 1) := by decide +kernel
theorem dX11_findApart_29 : decode cX11_findApart 29 = .ok (.getfield 7, 3) := by decide +kernel
theorem dX11_findApart_32 : decode cX11_findApart 32 = .ok (.sipush 146, 3) := by decide +kernel
theorem dX11_findApart_35 : decode cX11_findApart 35 = .ok (.iaload, 1) := by decide +kernel
theorem dX11_findApart_36 : decode cX11_findApart 36 = .ok (.iload_n 1, 1) := by decide +kernel
theorem dX11_findApart_37 : decode cX11_findApart 37 = .ok (.bipush 6, 2) := by decide +kernel
theorem dX11_findApart_39 : decode cX11_findApart 39 = .ok (.irem, 1) := by decide +kernel
theorem dX11_findApart_40 : decode cX11_findApart 40 = .ok (.ishr, 1) := by decide +kernel
theorem dX11_findApart_41 : decode cX11_findApart 41 = .ok (.iconst 1, 1) := by decide +kernel
theorem dX11_findApart_42 : decode cX11_findApart 42 = .ok (.iand, 1) := by decide +kernel
theorem dX11_findApart_43 : decode cX11_findApart 43 = .ok (.if_icmp .eq 7, 3) := by decide +kernel
theorem dX11_findApart_46 : decode cX11_findApart 46 = .ok (.iconst 1, 1) := by decide +kernel
theorem dX11_findApart_47 : decode cX11_findApart 47 = .ok (.goto 4, 3) := by decide +kernel
theorem dX11_findApart_50 : decode cX11_findApart 50 = .ok (.iconst 0, 1) := by decide +kernel
theorem dX11_findApart_51 : decode cX11_findApart 51 = .ok (.bastore, 1) := by decide +kernel
theorem dX11_findApart_52 : decode cX11_findApart 52 = .ok (.iinc 1 1, 3) := by decide +kernel
theorem dX11_findApart_55 : decode cX11_findApart 55 = .ok (.goto (-53), 3) := by decide +kernel
theorem dX11_findApart_58 : decode cX11_findApart 58 = .ok (.iconst 0, 1) := by decide +kernel
theorem dX11_findApart_59 : decode cX11_findApart 59 = .ok (.istore_n 1, 1) := by decide +kernel
theorem dX11_findApart_60 : decode cX11_findApart 60 = .ok (.iload_n 1, 1) := by decide +kernel
theorem dX11_findApart_61 : decode cX11_findApart 61 = .ok (.bipush 36, 2) := by decide +kernel
theorem dX11_findApart_63 : decode cX11_findApart 63 = .ok (.if_icmp .ge 91, 3) := by decide +kernel
theorem dX11_findApart_66 : decode cX11_findApart 66 = .ok (.iconst 0, 1) := by decide +kernel
theorem dX11_findApart_67 : decode cX11_findApart 67 = .ok (.istore_n 2, 1) := by decide +kernel
theorem dX11_findApart_68 : decode cX11_findApart 68 = .ok (.iload_n 2, 1) := by decide +kernel
theorem dX11_findApart_69 : decode cX11_findApart 69 = .ok (.bipush 36, 2) := by decide +kernel
theorem dX11_findApart_71 : decode cX11_findApart 71 = .ok (.if_icmp .ge 77, 3) := by decide +kernel
theorem dX11_findApart_74 : decode cX11_findApart 74 = .ok (.iconst 0, 1) := by decide +kernel
theorem dX11_findApart_75 : decode cX11_findApart 75 = .ok (.istore_n 3, 1) := by decide +kernel
theorem dX11_findApart_76 : decode cX11_findApart 76 = .ok (.iload_n 3, 1) := by decide +kernel
theorem dX11_findApart_77 : decode cX11_findApart 77 = .ok (.aload_n 0, 1) := by decide +kernel
theorem dX11_findApart_78 : decode cX11_findApart 78 = .ok (.getfield 7, 3) := by decide +kernel
theorem dX11_findApart_81 : decode cX11_findApart 81 = .ok (.iconst 0, 1) := by decide +kernel
theorem dX11_findApart_82 : decode cX11_findApart 82 = .ok (.iaload, 1) := by decide +kernel
theorem dX11_findApart_83 : decode cX11_findApart 83 = .ok (.if_icmp .ge 59, 3) := by decide +kernel
theorem dX11_findApart_86 : decode cX11_findApart 86 = .ok (.aload_n 0, 1) := by decide +kernel
theorem dX11_findApart_87 : decode cX11_findApart 87 = .ok (.getfield 99, 3) := by decide +kernel
theorem dX11_findApart_90 : decode cX11_findApart 90 = .ok (.iload_n 2, 1) := by decide +kernel
theorem dX11_findApart_91 : decode cX11_findApart 91 = .ok (.aload_n 0, 1) := by decide +kernel
theorem dX11_findApart_92 : decode cX11_findApart 92 = .ok (.getfield 99, 3) := by decide +kernel
theorem dX11_findApart_95 : decode cX11_findApart 95 = .ok (.iload_n 2, 1) := by decide +kernel
theorem dX11_findApart_96 : decode cX11_findApart 96 = .ok (.baload, 1) := by decide +kernel
theorem dX11_findApart_97 : decode cX11_findApart 97 = .ok (.ifCond .ne 33, 3) := by decide +kernel
theorem dX11_findApart_100 : decode cX11_findApart 100 = .ok (.aload_n 0, 1) := by decide +kernel
theorem dX11_findApart_101 : decode cX11_findApart 101 = .ok (.getfield 99, 3) := by decide +kernel
theorem dX11_findApart_104 : decode cX11_findApart 104 = .ok (.bipush 6, 2) := by decide +kernel
theorem dX11_findApart_106 : decode cX11_findApart 106 = .ok (.aload_n 0, 1) := by decide +kernel
theorem dX11_findApart_107 : decode cX11_findApart 107 = .ok (.iload_n 2, 1) := by decide +kernel
theorem dX11_findApart_108 : decode cX11_findApart 108 = .ok (.bipush 6, 2) := by decide +kernel
theorem dX11_findApart_110 : decode cX11_findApart 110 = .ok (.idiv, 1) := by decide +kernel
theorem dX11_findApart_111 : decode cX11_findApart 111 = .ok (.iload_n 3, 1) := by decide +kernel
theorem dX11_findApart_112 : decode cX11_findApart 112 = .ok (.invokevirtual 304, 3) := by decide +kernel
theorem dX11_findApart_115 : decode cX11_findApart 115 = .ok (.imul, 1) := by decide +kernel
theorem dX11_findApart_116 : decode cX11_findApart 116 = .ok (.aload_n 0, 1) := by decide +kernel
theorem dX11_findApart_117 : decode cX11_findApart 117 = .ok (.iload_n 2, 1) := by decide +kernel
theorem dX11_findApart_118 : decode cX11_findApart 118 = .ok (.bipush 6, 2) := by decide +kernel
theorem dX11_findApart_120 : decode cX11_findApart 120 = .ok (.irem, 1) := by decide +kernel
theorem dX11_findApart_121 : decode cX11_findApart 121 = .ok (.iload_n 3, 1) := by decide +kernel
theorem dX11_findApart_122 : decode cX11_findApart 122 = .ok (.invokevirtual 304, 3) := by decide +kernel
theorem dX11_findApart_125 : decode cX11_findApart 125 = .ok (.iadd, 1) := by decide +kernel
theorem dX11_findApart_126 : decode cX11_findApart 126 = .ok (.baload, 1) := by decide +kernel
theorem dX11_findApart_127 : decode cX11_findApart 127 = .ok (.ifCond .eq 7, 3) := by decide +kernel
theorem dX11_findApart_130 : decode cX11_findApart 130 = .ok (.iconst 1, 1) := by decide +kernel
theorem dX11_findApart_131 : decode cX11_findApart 131 = .ok (.goto 4, 3) := by decide +kernel
theorem dX11_findApart_134 : decode cX11_findApart 134 = .ok (.iconst 0, 1) := by decide +kernel
theorem dX11_findApart_135 : decode cX11_findApart 135 = .ok (.bastore, 1) := by decide +kernel
theorem dX11_findApart_136 : decode cX11_findApart 136 = .ok (.iinc 3 1, 3) := by decide +kernel
theorem dX11_findApart_139 : decode cX11_findApart 139 = .ok (.goto (-63), 3) := by decide +kernel
theorem dX11_findApart_142 : decode cX11_findApart 142 = .ok (.iinc 2 1, 3) := by decide +kernel
theorem dX11_findApart_145 : decode cX11_findApart 145 = .ok (.goto (-77), 3) := by decide +kernel
theorem dX11_findApart_148 : decode cX11_findApart 148 = .ok (.iinc 1 1, 3) := by decide +kernel
theorem dX11_findApart_151 : decode cX11_findApart 151 = .ok (.goto (-91), 3) := by decide +kernel
theorem dX11_findApart_154 : decode cX11_findApart 154 = .ok (.return_, 1) := by decide +kernel
set_option maxRecDepth 20000 in
theorem ggX11_reached_X11_arrow : GoodIn wsX11_reached wsX11_arrow := goodIn_r _ [6, 1, 7, 8, 9, 10, 11, 12, 13, 14, 15, 16, 17, 18, 19, 20, 21, 22, 23, 24, 25, 26, 27, 28, 29, 30, 31, 32, 33, 34, 35, 36, 37, 38, 39, 40, 41, 42, 43, 44, 45] (by decide +kernel) (by decide +kernel)
set_option maxRecDepth 20000 in
theorem gX11_reached_X11_arrow : GoodIn wsX11_reached (wsV RX11 304 RX11 yX11_arrow wsX11_arrow) := goodIn_app (goodIn_of _ (by decide +kernel)) ggX11_reached_X11_arrow
theorem dX11_reached_0 : decode cX11_reached 0 = .ok (.iconst 1, 1) := by decide +kernel
theorem dX11_reached_1 : decode cX11_reached 1 = .ok (.istore_n 1, 1) := by decide +kernel
theorem dX11_reached_2 : decode cX11_reached 2 = .ok (.iconst 0, 1) := by decide +kernel
theorem dX11_reached_3 : decode cX11_reached 3 = .ok (.istore_n 2, 1) := by decide +kernel
theorem dX11_reached_4 : decode cX11_reached 4 = .ok (.iload_n 2, 1) := by decide +kernel
theorem dX11_reached_5 : decode cX11_reached 5 = .ok (.bipush 6, 2) := by decide +kernel
theorem dX11_reached_7 : decode cX11_reached 7 = .ok (.if_icmp .ge 73, 3) := by decide +kernel
theorem dX11_reached_10 : decode cX11_reached 10 = .ok (.iconst 0, 1) := by decide +kernel
theorem dX11_reached_11 : decode cX11_reached 11 = .ok (.istore_n 3, 1) := by decide +kernel
theorem dX11_reached_12 : decode cX11_reached 12 = .ok (.iload_n 3, 1) := by decide +kernel
theorem dX11_reached_13 : decode cX11_reached 13 = .ok (.aload_n 0, 1) := by decide +kernel
theorem dX11_reached_14 : decode cX11_reached 14 = .ok (.getfield 7, 3) := by decide +kernel
theorem dX11_reached_17 : decode cX11_reached 17 = .ok (.bipush 109, 2) := by decide +kernel
theorem dX11_reached_19 : decode cX11_reached 19 = .ok (.iaload, 1) := by decide +kernel
theorem dX11_reached_20 : decode cX11_reached 20 = .ok (.if_icmp .ge 54, 3) := by decide +kernel
theorem dX11_reached_23 : decode cX11_reached 23 = .ok (.iconst 0, 1) := by decide +kernel
theorem dX11_reached_24 : decode cX11_reached 24 = .ok (.istore 4, 2) := by decide +kernel
theorem dX11_reached_26 : decode cX11_reached 26 = .ok (.iload 4, 2) := by decide +kernel
theorem dX11_reached_28 : decode cX11_reached 28 = .ok (.aload_n 0, 1) := by decide +kernel
theorem dX11_reached_29 : decode cX11_reached 29 = .ok (.getfield 7, 3) := by decide +kernel
theorem dX11_reached_32 : decode cX11_reached 32 = .ok (.iconst 0, 1) := by decide +kernel
theorem dX11_reached_33 : decode cX11_reached 33 = .ok (.iaload, 1) := by decide +kernel
theorem dX11_reached_34 : decode cX11_reached 34 = .ok (.if_icmp .ge 34, 3) := by decide +kernel
theorem dX11_reached_37 : decode cX11_reached 37 = .ok (.iload_n 1, 1) := by decide +kernel
theorem dX11_reached_38 : decode cX11_reached 38 = .ok (.iload_n 1, 1) := by decide +kernel
theorem dX11_reached_39 : decode cX11_reached 39 = .ok (.iload_n 3, 1) := by decide +kernel
theorem dX11_reached_40 : decode cX11_reached 40 = .ok (.ishr, 1) := by decide +kernel
theorem dX11_reached_41 : decode cX11_reached 41 = .ok (.iconst 1, 1) := by decide +kernel
theorem dX11_reached_42 : decode cX11_reached 42 = .ok (.iand, 1) := by decide +kernel
theorem dX11_reached_43 : decode cX11_reached 43 = .ok (.iconst 1, 1) := by decide +kernel
theorem dX11_reached_44 : decode cX11_reached 44 = .ok (.if_icmp .ne 15, 3) := by decide +kernel
theorem dX11_reached_47 : decode cX11_reached 47 = .ok (.iconst 1, 1) := by decide +kernel
theorem dX11_reached_48 : decode cX11_reached 48 = .ok (.aload_n 0, 1) := by decide +kernel
theorem dX11_reached_49 : decode cX11_reached 49 = .ok (.iload_n 3, 1) := by decide +kernel
theorem dX11_reached_50 : decode cX11_reached 50 = .ok (.iload 4, 2) := by decide +kernel
theorem dX11_reached_52 : decode cX11_reached 52 = .ok (.invokevirtual 304, 3) := by decide +kernel
theorem dX11_reached_55 : decode cX11_reached 55 = .ok (.ishl, 1) := by decide +kernel
theorem dX11_reached_56 : decode cX11_reached 56 = .ok (.goto 4, 3) := by decide +kernel
theorem dX11_reached_59 : decode cX11_reached 59 = .ok (.iconst 0, 1) := by decide +kernel
theorem dX11_reached_60 : decode cX11_reached 60 = .ok (.ior, 1) := by decide +kernel
theorem dX11_reached_61 : decode cX11_reached 61 = .ok (.istore_n 1, 1) := by decide +kernel
theorem dX11_reached_62 : decode cX11_reached 62 = .ok (.iinc 4 1, 3) := by decide +kernel
theorem dX11_reached_65 : decode cX11_reached 65 = .ok (.goto (-39), 3) := by decide +kernel
theorem dX11_reached_68 : decode cX11_reached 68 = .ok (.iinc 3 1, 3) := by decide +kernel
theorem dX11_reached_71 : decode cX11_reached 71 = .ok (.goto (-59), 3) := by decide +kernel
theorem dX11_reached_74 : decode cX11_reached 74 = .ok (.iinc 2 1, 3) := by decide +kernel
theorem dX11_reached_77 : decode cX11_reached 77 = .ok (.goto (-73), 3) := by decide +kernel
theorem dX11_reached_80 : decode cX11_reached 80 = .ok (.iload_n 1, 1) := by decide +kernel
theorem dX11_reached_81 : decode cX11_reached 81 = .ok (.ireturn, 1) := by decide +kernel
set_option maxRecDepth 20000 in
theorem ggX11_isClosed_X11_findApart : GoodIn wsX11_isClosed wsX11_findApart := goodIn_r _ [7, 2, 1, 8, 9, 10, 6, 11, 20, 21, 22, 23, 24, 25, 26, 27, 28, 29, 30, 31, 32, 33, 34, 35, 36, 37, 38, 39, 40, 41, 42, 43, 44, 45, 46, 47, 48, 49, 50, 51, 52, 53, 54, 55, 56, 57, 58] (by decide +kernel) (by decide +kernel)
set_option maxRecDepth 20000 in
theorem gX11_isClosed_X11_findApart : GoodIn wsX11_isClosed (wsV RX11 307 RX11 yX11_findApart wsX11_findApart) := goodIn_app (goodIn_of _ (by decide +kernel)) ggX11_isClosed_X11_findApart
set_option maxRecDepth 20000 in
theorem ggX11_isClosed_X11_reached : GoodIn wsX11_isClosed wsX11_reached := goodIn_r _ [15, 1, 8, 9, 10, 6, 11, 20, 21, 22, 23, 24, 25, 26, 27, 28, 29, 30, 31, 32, 33, 34, 35, 36, 37, 38, 39, 40, 41, 42, 43, 44, 45, 46, 47, 48, 49, 50, 51, 52, 53, 54, 55, 56, 57, 58] (by decide +kernel) (by decide +kernel)
set_option maxRecDepth 20000 in
theorem gX11_isClosed_X11_reached : GoodIn wsX11_isClosed (wsV RX11 310 RX11 yX11_reached wsX11_reached) := goodIn_app (goodIn_of _ (by decide +kernel)) ggX11_isClosed_X11_reached
set_option maxRecDepth 20000 in
theorem ggX11_isClosed_X11_arrow : GoodIn wsX11_isClosed wsX11_arrow := goodIn_r _ [11, 1, 20, 21, 22, 23, 24, 25, 26, 27, 28, 29, 30, 31, 32, 33, 34, 35, 36, 37, 38, 39, 40, 41, 42, 43, 44, 45, 46, 47, 48, 49, 50, 51, 52, 53, 54, 55, 56, 57, 58] (by decide +kernel) (by decide +kernel)
set_option maxRecDepth 20000 in
theorem gX11_isClosed_X11_arrow : GoodIn wsX11_isClosed (wsV RX11 304 RX11 yX11_arrow wsX11_arrow) := goodIn_app (goodIn_of _ (by decide +kernel)) ggX11_isClosed_X11_arrow
set_option maxRecDepth 20000 in
theorem ggX11_isClosed_X11_areFree : GoodIn wsX11_isClosed wsX11_areFree := goodIn_r _ [19, 1, 20, 21, 22, 23, 24, 25, 26, 27, 28, 29, 30, 31, 32, 33, 34, 35, 36, 37, 38, 39, 40, 41, 42, 43, 44, 45, 46, 47, 48, 49, 50, 51, 52, 53, 54, 55, 56, 57, 58] (by decide +kernel) (by decide +kernel)
set_option maxRecDepth 20000 in
theorem gX11_isClosed_X11_areFree : GoodIn wsX11_isClosed (wsV RX11 114 RX11 yX11_areFree wsX11_areFree) := goodIn_app (goodIn_of _ (by decide +kernel)) ggX11_isClosed_X11_areFree
theorem dX11_isClosed_0 : decode cX11_isClosed 0 = .ok (.aload_n 0, 1) := by decide +kernel
theorem dX11_isClosed_1 : decode cX11_isClosed 1 = .ok (.invokevirtual 307, 3) := by decide +kernel
theorem dX11_isClosed_4 : decode cX11_isClosed 4 = .ok (.aload_n 0, 1) := by decide +kernel
theorem dX11_isClosed_5 : decode cX11_isClosed 5 = .ok (.invokevirtual 310, 3) := by decide +kernel
theorem dX11_isClosed_8 : decode cX11_isClosed 8 = .ok (.istore_n 1, 1) := by decide +kernel
theorem dX11_isClosed_9 : decode cX11_isClosed 9 = .ok (.iconst 1, 1) := by decide +kernel
theorem dX11_isClosed_10 : decode cX11_isClosed 10 = .ok (.istore_n 2, 1) := by decide +kernel
theorem dX11_isClosed_11 : decode cX11_isClosed 11 = .ok (.iconst 0, 1) := by decide +kernel
theorem dX11_isClosed_12 : decode cX11_isClosed 12 = .ok (.istore_n 3, 1) := by decide +kernel
theorem dX11_isClosed_13 : decode cX11_isClosed 13 = .ok (.iload_n 3, 1) := by decide +kernel
theorem dX11_isClosed_14 : decode cX11_isClosed 14 = .ok (.aload_n 0, 1) := by decide +kernel
theorem dX11_isClosed_15 : decode cX11_isClosed 15 = .ok (.getfield 7, 3) := by decide +kernel
theorem dX11_isClosed_18 : decode cX11_isClosed 18 = .ok (.bipush 109, 2) := by decide +kernel
theorem dX11_isClosed_20 : decode cX11_isClosed 20 = .ok (.iaload, 1) := by decide +kernel
theorem dX11_isClosed_21 : decode cX11_isClosed 21 = .ok (.if_icmp .ge 116, 3) := by decide +kernel
theorem dX11_isClosed_24 : decode cX11_isClosed 24 = .ok (.iconst 0, 1) := by decide +kernel
theorem dX11_isClosed_25 : decode cX11_isClosed 25 = .ok (.istore 4, 2) := by decide +kernel
theorem dX11_isClosed_27 : decode cX11_isClosed 27 = .ok (.iload 4, 2) := by decide +kernel
theorem dX11_isClosed_29 : decode cX11_isClosed 29 = .ok (.aload_n 0, 1) := by decide +kernel
theorem dX11_isClosed_30 : decode cX11_isClosed 30 = .ok (.getfield 7, 3) := by decide +kernel
theorem dX11_isClosed_33 : decode cX11_isClosed 33 = .ok (.iconst 0, 1) := by decide +kernel
theorem dX11_isClosed_34 : decode cX11_isClosed 34 = .ok (.iaload, 1) := by decide +kernel
theorem dX11_isClosed_35 : decode cX11_isClosed 35 = .ok (.if_icmp .ge 96, 3) := by decide +kernel
theorem dX11_isClosed_38 : decode cX11_isClosed 38 = .ok (.iconst 0, 1) := by decide +kernel
theorem dX11_isClosed_39 : decode cX11_isClosed 39 = .ok (.istore 5, 2) := by decide +kernel
theorem dX11_isClosed_41 : decode cX11_isClosed 41 = .ok (.iload 5, 2) := by decide +kernel
theorem dX11_isClosed_43 : decode cX11_isClosed 43 = .ok (.iload 4, 2) := by decide +kernel
theorem dX11_isClosed_45 : decode cX11_isClosed 45 = .ok (.if_icmp .ge 80, 3) := by decide +kernel
theorem dX11_isClosed_48 : decode cX11_isClosed 48 = .ok (.aload_n 0, 1) := by decide +kernel
theorem dX11_isClosed_49 : decode cX11_isClosed 49 = .ok (.getfield 99, 3) := by decide +kernel
theorem dX11_isClosed_52 : decode cX11_isClosed 52 = .ok (.bipush 6, 2) := by decide +kernel
theorem dX11_isClosed_54 : decode cX11_isClosed 54 = .ok (.aload_n 0, 1) := by decide +kernel
theorem dX11_isClosed_55 : decode cX11_isClosed 55 = .ok (.aload_n 0, 1) := by decide +kernel
theorem dX11_isClosed_56 : decode cX11_isClosed 56 = .ok (.iload_n 3, 1) := by decide +kernel
theorem dX11_isClosed_57 : decode cX11_isClosed 57 = .ok (.iload 4, 2) := by decide +kernel
theorem dX11_isClosed_59 : decode cX11_isClosed 59 = .ok (.invokevirtual 304, 3) := by decide +kernel
theorem dX11_isClosed_62 : decode cX11_isClosed 62 = .ok (.iload 5, 2) := by decide +kernel
theorem dX11_isClosed_64 : decode cX11_isClosed 64 = .ok (.invokevirtual 304, 3) := by decide +kernel
theorem dX11_isClosed_67 : decode cX11_isClosed 67 = .ok (.imul, 1) := by decide +kernel
theorem dX11_isClosed_68 : decode cX11_isClosed 68 = .ok (.aload_n 0, 1) := by decide +kernel
theorem dX11_isClosed_69 : decode cX11_isClosed 69 = .ok (.aload_n 0, 1) := by decide +kernel
theorem dX11_isClosed_70 : decode cX11_isClosed 70 = .ok (.iload_n 3, 1) := by decide +kernel
theorem dX11_isClosed_71 : decode cX11_isClosed 71 = .ok (.iload 5, 2) := by decide +kernel
theorem dX11_isClosed_73 : decode cX11_isClosed 73 = .ok (.invokevirtual 304, 3) := by decide +kernel
theorem dX11_isClosed_76 : decode cX11_isClosed 76 = .ok (.iload 4, 2) := by decide +kernel
theorem dX11_isClosed_78 : decode cX11_isClosed 78 = .ok (.invokevirtual 304, 3) := by decide +kernel
theorem dX11_isClosed_81 : decode cX11_isClosed 81 = .ok (.iadd, 1) := by decide +kernel
theorem dX11_isClosed_82 : decode cX11_isClosed 82 = .ok (.baload, 1) := by decide +kernel
theorem dX11_isClosed_83 : decode cX11_isClosed 83 = .ok (.istore 6, 2) := by decide +kernel
theorem dX11_isClosed_85 : decode cX11_isClosed 85 = .ok (.iload_n 2, 1) := by decide +kernel
theorem dX11_isClosed_86 : decode cX11_isClosed 86 = .ok (.ifCond .eq 31, 3) := by decide +kernel
theorem dX11_isClosed_89 : decode cX11_isClosed 89 = .ok (.iload_n 1, 1) := by decide +kernel
theorem dX11_isClosed_90 : decode cX11_isClosed 90 = .ok (.iload_n 3, 1) := by decide +kernel
theorem dX11_isClosed_91 : decode cX11_isClosed 91 = .ok (.ishr, 1) := by decide +kernel
theorem dX11_isClosed_92 : decode cX11_isClosed 92 = .ok (.iconst 1, 1) := by decide +kernel
theorem dX11_isClosed_93 : decode cX11_isClosed 93 = .ok (.iand, 1) := by decide +kernel
theorem dX11_isClosed_94 : decode cX11_isClosed 94 = .ok (.ifCond .eq 19, 3) := by decide +kernel
theorem dX11_isClosed_97 : decode cX11_isClosed 97 = .ok (.aload_n 0, 1) := by decide +kernel
theorem dX11_isClosed_98 : decode cX11_isClosed 98 = .ok (.iload 4, 2) := by decide +kernel
theorem dX11_isClosed_100 : decode cX11_isClosed 100 = .ok (.iload 5, 2) := by decide +kernel
theorem dX11_isClosed_102 : decode cX11_isClosed 102 = .ok (.invokevirtual 114, 3) := by decide +kernel
theorem dX11_isClosed_105 : decode cX11_isClosed 105 = .ok (.ifCond .eq 8, 3) := by decide +kernel
theorem dX11_isClosed_108 : decode cX11_isClosed 108 = .ok (.iload 6, 2) := by decide +kernel
theorem dX11_isClosed_110 : decode cX11_isClosed 110 = .ok (.ifCond .ne 7, 3) := by decide +kernel
theorem dX11_isClosed_113 : decode cX11_isClosed 113 = .ok (.iconst 1, 1) := by decide +kernel
theorem dX11_isClosed_114 : decode cX11_isClosed 114 = .ok (.goto 4, 3) := by decide +kernel
theorem dX11_isClosed_117 : decode cX11_isClosed 117 = .ok (.iconst 0, 1) := by decide +kernel
theorem dX11_isClosed_118 : decode cX11_isClosed 118 = .ok (.istore_n 2, 1) := by decide +kernel
theorem dX11_isClosed_119 : decode cX11_isClosed 119 = .ok (.iinc 5 1, 3) := by decide +kernel
theorem dX11_isClosed_122 : decode cX11_isClosed 122 = .ok (.goto (-81), 3) := by decide +kernel
theorem dX11_isClosed_125 : decode cX11_isClosed 125 = .ok (.iinc 4 1, 3) := by decide +kernel
theorem dX11_isClosed_128 : decode cX11_isClosed 128 = .ok (.goto (-101), 3) := by decide +kernel
theorem dX11_isClosed_131 : decode cX11_isClosed 131 = .ok (.iinc 3 1, 3) := by decide +kernel
theorem dX11_isClosed_134 : decode cX11_isClosed 134 = .ok (.goto (-121), 3) := by decide +kernel
theorem dX11_isClosed_137 : decode cX11_isClosed 137 = .ok (.iload_n 2, 1) := by decide +kernel
theorem dX11_isClosed_138 : decode cX11_isClosed 138 = .ok (.ireturn, 1) := by decide +kernel
set_option maxRecDepth 20000 in
theorem ggX11_closed_X11_isClosed : GoodIn wsX11_closed wsX11_isClosed := goodIn_r _ [5, 6, 7, 8, 9, 10, 4, 11, 12, 13, 14, 15, 16, 17, 18, 19, 20, 21, 22, 23, 24, 25, 26, 27, 28, 29, 30, 31, 32, 33, 34, 35, 36, 37, 38, 39, 40, 41, 42, 43, 44, 45, 46, 47, 48, 49, 50, 51, 52, 53, 54, 55, 56, 57, 58, 59, 60, 61, 62] (by decide +kernel) (by decide +kernel)
set_option maxRecDepth 20000 in
theorem gX11_closed_X11_isClosed : GoodIn wsX11_closed (wsV RX11 313 RX11 yX11_isClosed wsX11_isClosed) := goodIn_app (goodIn_of _ (by decide +kernel)) ggX11_closed_X11_isClosed
theorem dX11_closed_0 : decode cX11_closed 0 = .ok (.aload_n 0, 1) := by decide +kernel
theorem dX11_closed_1 : decode cX11_closed 1 = .ok (.invokevirtual 313, 3) := by decide +kernel
theorem dX11_closed_4 : decode cX11_closed 4 = .ok (.ifCond .eq 7, 3) := by decide +kernel
theorem dX11_closed_7 : decode cX11_closed 7 = .ok (.iconst 1, 1) := by decide +kernel
theorem dX11_closed_8 : decode cX11_closed 8 = .ok (.goto 4, 3) := by decide +kernel
theorem dX11_closed_11 : decode cX11_closed 11 = .ok (.iconst 0, 1) := by decide +kernel
theorem dX11_closed_12 : decode cX11_closed 12 = .ok (.ireturn, 1) := by decide +kernel
set_option maxRecDepth 20000 in
theorem ggX11_save_X11_in : GoodIn wsX11_save wsX11_in := goodIn_r _ [7] (by decide +kernel) (by decide +kernel)
set_option maxRecDepth 20000 in
theorem gX11_save_X11_in : GoodIn wsX11_save (va_wsS RX11 102 yX11_in wsX11_in) := goodIn_app (goodIn_of _ (by decide +kernel)) ggX11_save_X11_in
theorem dX11_save_0 : decode cX11_save 0 = .ok (.iload_n 1, 1) := by decide +kernel
theorem dX11_save_1 : decode cX11_save 1 = .ok (.iconst 0, 1) := by decide +kernel
theorem dX11_save_2 : decode cX11_save 2 = .ok (.iconst 1, 1) := by decide +kernel
theorem dX11_save_3 : decode cX11_save 3 = .ok (.invokestatic 102, 3) := by decide +kernel
theorem dX11_save_6 : decode cX11_save 6 = .ok (.ifCond .ne 5, 3) := by decide +kernel
theorem dX11_save_9 : decode cX11_save 9 = .ok (.iconst (-1), 1) := by decide +kernel
theorem dX11_save_10 : decode cX11_save 10 = .ok (.ireturn, 1) := by decide +kernel
theorem dX11_save_11 : decode cX11_save 11 = .ok (.iconst 0, 1) := by decide +kernel
theorem dX11_save_12 : decode cX11_save 12 = .ok (.istore_n 2, 1) := by decide +kernel
theorem dX11_save_13 : decode cX11_save 13 = .ok (.iload_n 2, 1) := by decide +kernel
theorem dX11_save_14 : decode cX11_save 14 = .ok (.sipush 147, 3) := by decide +kernel
theorem dX11_save_17 : decode cX11_save 17 = .ok (.if_icmp .ge 27, 3) := by decide +kernel
theorem dX11_save_20 : decode cX11_save 20 = .ok (.aload_n 0, 1) := by decide +kernel
theorem dX11_save_21 : decode cX11_save 21 = .ok (.getfield 13, 3) := by decide +kernel
theorem dX11_save_24 : decode cX11_save 24 = .ok (.sipush 147, 3) := by decide +kernel
theorem dX11_save_27 : decode cX11_save 27 = .ok (.iload_n 1, 1) := by decide +kernel
theorem dX11_save_28 : decode cX11_save 28 = .ok (.imul, 1) := by decide +kernel
theorem dX11_save_29 : decode cX11_save 29 = .ok (.iload_n 2, 1) := by decide +kernel
theorem dX11_save_30 : decode cX11_save 30 = .ok (.iadd, 1) := by decide +kernel
theorem dX11_save_31 : decode cX11_save 31 = .ok (.aload_n 0, 1) := by decide +kernel
theorem dX11_save_32 : decode cX11_save 32 = .ok (.getfield 7, 3) := by decide +kernel
theorem dX11_save_35 : decode cX11_save 35 = .ok (.iload_n 2, 1) := by decide +kernel
theorem dX11_save_36 : decode cX11_save 36 = .ok (.iaload, 1) := by decide +kernel
theorem dX11_save_37 : decode cX11_save 37 = .ok (.iastore, 1) := by decide +kernel
theorem dX11_save_38 : decode cX11_save 38 = .ok (.iinc 2 1, 3) := by decide +kernel
theorem dX11_save_41 : decode cX11_save 41 = .ok (.goto (-28), 3) := by decide +kernel
theorem dX11_save_44 : decode cX11_save 44 = .ok (.aload_n 0, 1) := by decide +kernel
theorem dX11_save_45 : decode cX11_save 45 = .ok (.getfield 16, 3) := by decide +kernel
theorem dX11_save_48 : decode cX11_save 48 = .ok (.iload_n 1, 1) := by decide +kernel
theorem dX11_save_49 : decode cX11_save 49 = .ok (.iconst 1, 1) := by decide +kernel
theorem dX11_save_50 : decode cX11_save 50 = .ok (.bastore, 1) := by decide +kernel
theorem dX11_save_51 : decode cX11_save 51 = .ok (.aload_n 0, 1) := by decide +kernel
theorem dX11_save_52 : decode cX11_save 52 = .ok (.getfield 7, 3) := by decide +kernel
theorem dX11_save_55 : decode cX11_save 55 = .ok (.iconst 0, 1) := by decide +kernel
theorem dX11_save_56 : decode cX11_save 56 = .ok (.iaload, 1) := by decide +kernel
theorem dX11_save_57 : decode cX11_save 57 = .ok (.ireturn, 1) := by decide +kernel
set_option maxRecDepth 20000 in
theorem ggX11_restore_X11_in : GoodIn wsX11_restore wsX11_in := goodIn_r _ [7] (by decide +kernel) (by decide +kernel)
set_option maxRecDepth 20000 in
theorem gX11_restore_X11_in : GoodIn wsX11_restore (va_wsS RX11 102 yX11_in wsX11_in) := goodIn_app (goodIn_of _ (by decide +kernel)) ggX11_restore_X11_in
theorem dX11_restore_0 : decode cX11_restore 0 = .ok (.iload_n 1, 1) := by decide +kernel
theorem dX11_restore_1 : decode cX11_restore 1 = .ok (.iconst 0, 1) := by decide +kernel
theorem dX11_restore_2 : decode cX11_restore 2 = .ok (.iconst 1, 1) := by decide +kernel
theorem dX11_restore_3 : decode cX11_restore 3 = .ok (.invokestatic 102, 3) := by decide +kernel
theorem dX11_restore_6 : decode cX11_restore 6 = .ok (.ifCond .ne 5, 3) := by decide +kernel
theorem dX11_restore_9 : decode cX11_restore 9 = .ok (.iconst (-1), 1) := by decide +kernel
theorem dX11_restore_10 : decode cX11_restore 10 = .ok (.ireturn, 1) := by decide +kernel
theorem dX11_restore_11 : decode cX11_restore 11 = .ok (.aload_n 0, 1) := by decide +kernel
theorem dX11_restore_12 : decode cX11_restore 12 = .ok (.getfield 16, 3) := by decide +kernel
theorem dX11_restore_15 : decode cX11_restore 15 = .ok (.iload_n 1, 1) := by decide +kernel
theorem dX11_restore_16 : decode cX11_restore 16 = .ok (.baload, 1) := by decide +kernel
theorem dX11_restore_17 : decode cX11_restore 17 = .ok (.ifCond .ne 6, 3) := by decide +kernel
theorem dX11_restore_20 : decode cX11_restore 20 = .ok (.bipush (-3), 2) := by decide +kernel
theorem dX11_restore_22 : decode cX11_restore 22 = .ok (.ireturn, 1) := by decide +kernel
theorem dX11_restore_23 : decode cX11_restore 23 = .ok (.iconst 0, 1) := by decide +kernel
theorem dX11_restore_24 : decode cX11_restore 24 = .ok (.istore_n 2, 1) := by decide +kernel
theorem dX11_restore_25 : decode cX11_restore 25 = .ok (.iload_n 2, 1) := by decide +kernel
theorem dX11_restore_26 : decode cX11_restore 26 = .ok (.sipush 147, 3) := by decide +kernel
theorem dX11_restore_29 : decode cX11_restore 29 = .ok (.if_icmp .ge 27, 3) := by decide +kernel
theorem dX11_restore_32 : decode cX11_restore 32 = .ok (.aload_n 0, 1) := by decide +kernel
theorem dX11_restore_33 : decode cX11_restore 33 = .ok (.getfield 7, 3) := by decide +kernel
theorem dX11_restore_36 : decode cX11_restore 36 = .ok (.iload_n 2, 1) := by decide +kernel
theorem dX11_restore_37 : decode cX11_restore 37 = .ok (.aload_n 0, 1) := by decide +kernel
theorem dX11_restore_38 : decode cX11_restore 38 = .ok (.getfield 13, 3) := by decide +kernel
theorem dX11_restore_41 : decode cX11_restore 41 = .ok (.sipush 147, 3) := by decide +kernel
theorem dX11_restore_44 : decode cX11_restore 44 = .ok (.iload_n 1, 1) := by decide +kernel
theorem dX11_restore_45 : decode cX11_restore 45 = .ok (.imul, 1) := by decide +kernel
theorem dX11_restore_46 : decode cX11_restore 46 = .ok (.iload_n 2, 1) := by decide +kernel
theorem dX11_restore_47 : decode cX11_restore 47 = .ok (.iadd, 1) := by decide +kernel
theorem dX11_restore_48 : decode cX11_restore 48 = .ok (.iaload, 1) := by decide +kernel
theorem dX11_restore_49 : decode cX11_restore 49 = .ok (.iastore, 1) := by decide +kernel
theorem dX11_restore_50 : decode cX11_restore 50 = .ok (.iinc 2 1, 3) := by decide +kernel
theorem dX11_restore_53 : decode cX11_restore 53 = .ok (.goto (-28), 3) := by decide +kernel
theorem dX11_restore_56 : decode cX11_restore 56 = .ok (.aload_n 0, 1) := by decide +kernel
theorem dX11_restore_57 : decode cX11_restore 57 = .ok (.getfield 7, 3) := by decide +kernel
theorem dX11_restore_60 : decode cX11_restore 60 = .ok (.iconst 0, 1) := by decide +kernel
theorem dX11_restore_61 : decode cX11_restore 61 = .ok (.iaload, 1) := by decide +kernel
theorem dX11_restore_62 : decode cX11_restore 62 = .ok (.ireturn, 1) := by decide +kernel
theorem dX11_more_0 : decode cX11_more 0 = .ok (.ldc2_w 316, 3) := by decide +kernel
theorem dX11_more_3 : decode cX11_more 3 = .ok (.lload_n 0, 1) := by decide +kernel
theorem dX11_more_4 : decode cX11_more 4 = .ok (.lmul, 1) := by decide +kernel
theorem dX11_more_5 : decode cX11_more 5 = .ok (.lload_n 2, 1) := by decide +kernel
theorem dX11_more_6 : decode cX11_more 6 = .ok (.ladd, 1) := by decide +kernel
theorem dX11_more_7 : decode cX11_more 7 = .ok (.lreturn, 1) := by decide +kernel
set_option maxRecDepth 20000 in
theorem ggX11_moreOfWord_X11_takesOne : GoodIn wsX11_moreOfWord wsX11_takesOne := goodIn_r _ [10, 5, 1, 2, 78, 79, 80, 81, 82, 83, 84, 85, 86, 87, 88, 89, 90, 91, 92, 93, 94, 95, 96, 97, 98, 99, 100, 101, 102, 103, 104, 105, 106, 107, 108, 109, 110, 111, 112, 113, 114, 115, 116] (by decide +kernel) (by decide +kernel)
set_option maxRecDepth 20000 in
theorem gX11_moreOfWord_X11_takesOne : GoodIn wsX11_moreOfWord (wsV RX11 159 RX11 yX11_takesOne wsX11_takesOne) := goodIn_app (goodIn_of _ (by decide +kernel)) ggX11_moreOfWord_X11_takesOne
set_option maxRecDepth 20000 in
theorem ggX11_moreOfWord_X11_more : GoodIn wsX11_moreOfWord wsX11_more := goodIn_r _ [13, 14] (by decide +kernel) (by decide +kernel)
set_option maxRecDepth 20000 in
theorem gX11_moreOfWord_X11_more : GoodIn wsX11_moreOfWord (va_wsS RX11 318 yX11_more wsX11_more) := goodIn_app (goodIn_of _ (by decide +kernel)) ggX11_moreOfWord_X11_more
set_option maxRecDepth 20000 in
theorem ggX11_moreOfWord_X11_normalizes : GoodIn wsX11_moreOfWord wsX11_normalizes := goodIn_r _ [18, 3, 19, 4, 20, 21, 22, 9, 23, 24, 25, 26, 27, 28, 29, 30, 31, 32, 33, 34, 35, 5, 78, 79, 80, 81, 82, 83, 84, 85, 86, 87, 88, 89, 90, 91, 92, 93, 94, 95, 96, 97, 98, 99, 100, 101, 102, 103, 104, 105, 106, 107, 108, 109, 110, 111, 112, 113, 114, 115, 116] (by decide +kernel) (by decide +kernel)
set_option maxRecDepth 20000 in
theorem gX11_moreOfWord_X11_normalizes : GoodIn wsX11_moreOfWord (wsV RX11 162 RX11 yX11_normalizes wsX11_normalizes) := goodIn_app (goodIn_of _ (by decide +kernel)) ggX11_moreOfWord_X11_normalizes
set_option maxRecDepth 20000 in
theorem ggX11_moreOfWord_X11_findLayers : GoodIn wsX11_moreOfWord wsX11_findLayers := goodIn_r _ [39, 1, 40, 2, 32, 33, 34, 9, 35, 5, 78, 79, 80, 81, 82, 83, 84, 85, 86, 87, 88, 89, 90, 91, 92, 93, 94, 95, 96, 97, 98, 99, 100, 101, 102, 103, 104, 105, 106, 107, 108, 109, 110, 111, 112, 113, 114, 115, 116] (by decide +kernel) (by decide +kernel)
set_option maxRecDepth 20000 in
theorem gX11_moreOfWord_X11_findLayers : GoodIn wsX11_moreOfWord (wsV RX11 166 RX11 yX11_findLayers wsX11_findLayers) := goodIn_app (goodIn_of _ (by decide +kernel)) ggX11_moreOfWord_X11_findLayers
set_option maxRecDepth 20000 in
theorem ggX11_moreOfWord_X11_layerNow : GoodIn wsX11_moreOfWord wsX11_layerNow := goodIn_r _ [44, 1, 40, 2, 78, 79, 80, 81, 82, 83, 84, 85, 86, 87, 88, 89, 90, 91, 92, 93, 94, 95, 96, 97, 98, 99, 100, 101, 102, 103, 104, 105, 106, 107, 108, 109, 110, 111, 112, 113, 114, 115, 116] (by decide +kernel) (by decide +kernel)
set_option maxRecDepth 20000 in
theorem gX11_moreOfWord_X11_layerNow : GoodIn wsX11_moreOfWord (wsV RX11 170 RX11 yX11_layerNow wsX11_layerNow) := goodIn_app (goodIn_of _ (by decide +kernel)) ggX11_moreOfWord_X11_layerNow
set_option maxRecDepth 20000 in
theorem ggX11_moreOfWord_X11_findWords : GoodIn wsX11_moreOfWord wsX11_findWords := goodIn_r _ [48, 49, 50, 5, 51, 52, 53, 54, 9, 55, 56, 1, 2, 57, 58, 59, 60, 61, 62, 63, 64, 65, 32, 33, 34, 35, 78, 79, 80, 81, 82, 83, 84, 85, 86, 87, 88, 89, 90, 91, 92, 93, 94, 95, 96, 97, 98, 99, 100, 101, 102, 103, 104, 105, 106, 107, 108, 109, 110, 111, 112, 113, 114, 115, 116] (by decide +kernel) (by decide +kernel)
set_option maxRecDepth 20000 in
theorem gX11_moreOfWord_X11_findWords : GoodIn wsX11_moreOfWord (wsV RX11 188 RX11 yX11_findWords wsX11_findWords) := goodIn_app (goodIn_of _ (by decide +kernel)) ggX11_moreOfWord_X11_findWords
set_option maxRecDepth 20000 in
theorem ggX11_moreOfWord_X11_wordsTo : GoodIn wsX11_moreOfWord wsX11_wordsTo := goodIn_r _ [69, 5, 50, 49, 78, 79, 80, 81, 82, 83, 84, 85, 86, 87, 88, 89, 90, 91, 92, 93, 94, 95, 96, 97, 98, 99, 100, 101, 102, 103, 104, 105, 106, 107, 108, 109, 110, 111, 112, 113, 114, 115, 116] (by decide +kernel) (by decide +kernel)
set_option maxRecDepth 20000 in
theorem gX11_moreOfWord_X11_wordsTo : GoodIn wsX11_moreOfWord (wsV RX11 191 RX11 yX11_wordsTo wsX11_wordsTo) := goodIn_app (goodIn_of _ (by decide +kernel)) ggX11_moreOfWord_X11_wordsTo
set_option maxRecDepth 20000 in
theorem ggX11_moreOfWord_X11_letters : GoodIn wsX11_moreOfWord wsX11_letters := goodIn_r _ [73, 5, 78, 79, 80, 81, 82, 83, 84, 85, 86, 87, 88, 89, 90, 91, 92, 93, 94, 95, 96, 97, 98, 99, 100, 101, 102, 103, 104, 105, 106, 107, 108, 109, 110, 111, 112, 113, 114, 115, 116] (by decide +kernel) (by decide +kernel)
set_option maxRecDepth 20000 in
theorem gX11_moreOfWord_X11_letters : GoodIn wsX11_moreOfWord (wsV RX11 201 RX11 yX11_letters wsX11_letters) := goodIn_app (goodIn_of _ (by decide +kernel)) ggX11_moreOfWord_X11_letters
set_option maxRecDepth 20000 in
theorem ggX11_moreOfWord_X11_isConnected : GoodIn wsX11_moreOfWord wsX11_isConnected := goodIn_r _ [77, 5, 78, 79, 80, 81, 82, 83, 84, 85, 86, 87, 88, 89, 90, 91, 92, 93, 94, 95, 96, 97, 98, 99, 100, 101, 102, 103, 104, 105, 106, 107, 108, 109, 110, 111, 112, 113, 114, 115, 116] (by decide +kernel) (by decide +kernel)
set_option maxRecDepth 20000 in
theorem gX11_moreOfWord_X11_isConnected : GoodIn wsX11_moreOfWord (wsV RX11 204 RX11 yX11_isConnected wsX11_isConnected) := goodIn_app (goodIn_of _ (by decide +kernel)) ggX11_moreOfWord_X11_isConnected
theorem dX11_moreOfWord_0 : decode cX11_moreOfWord 0 = .ok (.aload_n 0, 1) := by decide +kernel
theorem dX11_moreOfWord_1 : decode cX11_moreOfWord 1 = .ok (.iload_n 3, 1) := by decide +kernel
theorem dX11_moreOfWord_2 : decode cX11_moreOfWord 2 = .ok (.invokevirtual 159, 3) := by decide +kernel
theorem dX11_moreOfWord_5 : decode cX11_moreOfWord 5 = .ok (.lload_n 1, 1) := by decide +kernel
theorem dX11_moreOfWord_6 : decode cX11_moreOfWord 6 = .ok (.aload_n 0, 1) := by decide +kernel
theorem dX11_moreOfWord_7 : decode cX11_moreOfWord 7 = .ok (.getfield 131, 3) := by decide +kernel
theorem dX11_moreOfWord_10 : decode cX11_moreOfWord 10 = .ok (.i2l, 1) := by decide +kernel
theorem dX11_moreOfWord_11 : decode cX11_moreOfWord 11 = .ok (.invokestatic 318, 3) := by decide +kernel
theorem dX11_moreOfWord_14 : decode cX11_moreOfWord 14 = .ok (.lstore 4, 2) := by decide +kernel
theorem dX11_moreOfWord_16 : decode cX11_moreOfWord 16 = .ok (.aload_n 0, 1) := by decide +kernel
theorem dX11_moreOfWord_17 : decode cX11_moreOfWord 17 = .ok (.aload_n 0, 1) := by decide +kernel
theorem dX11_moreOfWord_18 : decode cX11_moreOfWord 18 = .ok (.getfield 27, 3) := by decide +kernel
theorem dX11_moreOfWord_21 : decode cX11_moreOfWord 21 = .ok (.aload_n 0, 1) := by decide +kernel
theorem dX11_moreOfWord_22 : decode cX11_moreOfWord 22 = .ok (.getfield 131, 3) := by decide +kernel
theorem dX11_moreOfWord_25 : decode cX11_moreOfWord 25 = .ok (.invokevirtual 162, 3) := by decide +kernel
theorem dX11_moreOfWord_28 : decode cX11_moreOfWord 28 = .ok (.iconst 0, 1) := by decide +kernel
theorem dX11_moreOfWord_29 : decode cX11_moreOfWord 29 = .ok (.istore 6, 2) := by decide +kernel
theorem dX11_moreOfWord_31 : decode cX11_moreOfWord 31 = .ok (.iload 6, 2) := by decide +kernel
theorem dX11_moreOfWord_33 : decode cX11_moreOfWord 33 = .ok (.aload_n 0, 1) := by decide +kernel
theorem dX11_moreOfWord_34 : decode cX11_moreOfWord 34 = .ok (.getfield 145, 3) := by decide +kernel
theorem dX11_moreOfWord_37 : decode cX11_moreOfWord 37 = .ok (.if_icmp .ge 24, 3) := by decide +kernel
theorem dX11_moreOfWord_40 : decode cX11_moreOfWord 40 = .ok (.lload 4, 2) := by decide +kernel
theorem dX11_moreOfWord_42 : decode cX11_moreOfWord 42 = .ok (.aload_n 0, 1) := by decide +kernel
theorem dX11_moreOfWord_43 : decode cX11_moreOfWord 43 = .ok (.getfield 33, 3) := by decide +kernel
theorem dX11_moreOfWord_46 : decode cX11_moreOfWord 46 = .ok (.iload 6, 2) := by decide +kernel
theorem dX11_moreOfWord_48 : decode cX11_moreOfWord 48 = .ok (.iaload, 1) := by decide +kernel
theorem dX11_moreOfWord_49 : decode cX11_moreOfWord 49 = .ok (.i2l, 1) := by decide +kernel
theorem dX11_moreOfWord_50 : decode cX11_moreOfWord 50 = .ok (.invokestatic 318, 3) := by decide +kernel
theorem dX11_moreOfWord_53 : decode cX11_moreOfWord 53 = .ok (.lstore 4, 2) := by decide +kernel
theorem dX11_moreOfWord_55 : decode cX11_moreOfWord 55 = .ok (.iinc 6 1, 3) := by decide +kernel
theorem dX11_moreOfWord_58 : decode cX11_moreOfWord 58 = .ok (.goto (-27), 3) := by decide +kernel
theorem dX11_moreOfWord_61 : decode cX11_moreOfWord 61 = .ok (.aload_n 0, 1) := by decide +kernel
theorem dX11_moreOfWord_62 : decode cX11_moreOfWord 62 = .ok (.invokevirtual 166, 3) := by decide +kernel
theorem dX11_moreOfWord_65 : decode cX11_moreOfWord 65 = .ok (.istore 6, 2) := by decide +kernel
theorem dX11_moreOfWord_67 : decode cX11_moreOfWord 67 = .ok (.iconst 0, 1) := by decide +kernel
theorem dX11_moreOfWord_68 : decode cX11_moreOfWord 68 = .ok (.istore 7, 2) := by decide +kernel
theorem dX11_moreOfWord_70 : decode cX11_moreOfWord 70 = .ok (.iload 7, 2) := by decide +kernel
theorem dX11_moreOfWord_72 : decode cX11_moreOfWord 72 = .ok (.iload 6, 2) := by decide +kernel
theorem dX11_moreOfWord_74 : decode cX11_moreOfWord 74 = .ok (.if_icmp .ge 23, 3) := by decide +kernel
theorem dX11_moreOfWord_77 : decode cX11_moreOfWord 77 = .ok (.lload 4, 2) := by decide +kernel
theorem dX11_moreOfWord_79 : decode cX11_moreOfWord 79 = .ok (.aload_n 0, 1) := by decide +kernel
theorem dX11_moreOfWord_80 : decode cX11_moreOfWord 80 = .ok (.iload 7, 2) := by decide +kernel
theorem dX11_moreOfWord_82 : decode cX11_moreOfWord 82 = .ok (.invokevirtual 170, 3) := by decide +kernel
theorem dX11_moreOfWord_85 : decode cX11_moreOfWord 85 = .ok (.i2l, 1) := by decide +kernel
theorem dX11_moreOfWord_86 : decode cX11_moreOfWord 86 = .ok (.invokestatic 318, 3) := by decide +kernel
theorem dX11_moreOfWord_89 : decode cX11_moreOfWord 89 = .ok (.lstore 4, 2) := by decide +kernel
theorem dX11_moreOfWord_91 : decode cX11_moreOfWord 91 = .ok (.iinc 7 1, 3) := by decide +kernel
theorem dX11_moreOfWord_94 : decode cX11_moreOfWord 94 = .ok (.goto (-24), 3) := by decide +kernel
theorem dX11_moreOfWord_97 : decode cX11_moreOfWord 97 = .ok (.aload_n 0, 1) := by decide +kernel
theorem dX11_moreOfWord_98 : decode cX11_moreOfWord 98 = .ok (.invokevirtual 188, 3) := by decide +kernel
theorem dX11_moreOfWord_101 : decode cX11_moreOfWord 101 = .ok (.lload 4, 2) := by decide +kernel
theorem dX11_moreOfWord_103 : decode cX11_moreOfWord 103 = .ok (.aload_n 0, 1) := by decide +kernel
theorem dX11_moreOfWord_104 : decode cX11_moreOfWord 104 = .ok (.bipush 63, 2) := by decide +kernel
theorem dX11_moreOfWord_106 : decode cX11_moreOfWord 106 = .ok (.invokevirtual 191, 3) := by decide +kernel
theorem dX11_moreOfWord_109 : decode cX11_moreOfWord 109 = .ok (.invokestatic 318, 3) := by decide +kernel
theorem dX11_moreOfWord_112 : decode cX11_moreOfWord 112 = .ok (.lstore 4, 2) := by decide +kernel
theorem dX11_moreOfWord_114 : decode cX11_moreOfWord 114 = .ok (.lload 4, 2) := by decide +kernel
theorem dX11_moreOfWord_116 : decode cX11_moreOfWord 116 = .ok (.aload_n 0, 1) := by decide +kernel
theorem dX11_moreOfWord_117 : decode cX11_moreOfWord 117 = .ok (.aload_n 0, 1) := by decide +kernel
theorem dX11_moreOfWord_118 : decode cX11_moreOfWord 118 = .ok (.iload_n 3, 1) := by decide +kernel
theorem dX11_moreOfWord_119 : decode cX11_moreOfWord 119 = .ok (.invokevirtual 201, 3) := by decide +kernel
theorem dX11_moreOfWord_122 : decode cX11_moreOfWord 122 = .ok (.invokevirtual 204, 3) := by decide +kernel
theorem dX11_moreOfWord_125 : decode cX11_moreOfWord 125 = .ok (.ifCond .eq 7, 3) := by decide +kernel
theorem dX11_moreOfWord_128 : decode cX11_moreOfWord 128 = .ok (.lconst 1, 1) := by decide +kernel
theorem dX11_moreOfWord_129 : decode cX11_moreOfWord 129 = .ok (.goto 4, 3) := by decide +kernel
theorem dX11_moreOfWord_132 : decode cX11_moreOfWord 132 = .ok (.lconst 0, 1) := by decide +kernel
theorem dX11_moreOfWord_133 : decode cX11_moreOfWord 133 = .ok (.invokestatic 318, 3) := by decide +kernel
theorem dX11_moreOfWord_136 : decode cX11_moreOfWord 136 = .ok (.aload_n 0, 1) := by decide +kernel
theorem dX11_moreOfWord_137 : decode cX11_moreOfWord 137 = .ok (.aload_n 0, 1) := by decide +kernel
theorem dX11_moreOfWord_138 : decode cX11_moreOfWord 138 = .ok (.getfield 7, 3) := by decide +kernel
theorem dX11_moreOfWord_141 : decode cX11_moreOfWord 141 = .ok (.sipush 146, 3) := by decide +kernel
theorem dX11_moreOfWord_144 : decode cX11_moreOfWord 144 = .ok (.iaload, 1) := by decide +kernel
theorem dX11_moreOfWord_145 : decode cX11_moreOfWord 145 = .ok (.invokevirtual 191, 3) := by decide +kernel
theorem dX11_moreOfWord_148 : decode cX11_moreOfWord 148 = .ok (.invokestatic 318, 3) := by decide +kernel
theorem dX11_moreOfWord_151 : decode cX11_moreOfWord 151 = .ok (.lreturn, 1) := by decide +kernel
set_option maxRecDepth 20000 in
theorem ggX11_checksum_X11_more : GoodIn wsX11_checksum wsX11_more := goodIn_r _ [6, 7] (by decide +kernel) (by decide +kernel)
set_option maxRecDepth 20000 in
theorem gX11_checksum_X11_more : GoodIn wsX11_checksum (va_wsS RX11 318 yX11_more wsX11_more) := goodIn_app (goodIn_of _ (by decide +kernel)) ggX11_checksum_X11_more
set_option maxRecDepth 20000 in
theorem ggX11_checksum_X11_moreOfWord : GoodIn wsX11_checksum wsX11_moreOfWord := goodIn_r _ [11, 12, 13, 14, 15, 2, 16, 17, 18, 5, 19, 3, 4, 6, 7, 20, 21, 22, 23, 24, 25, 26, 27, 28, 29, 30, 31, 32, 33, 34, 35, 36, 37, 38, 39, 40, 41, 42, 43, 44, 45, 46, 47, 48, 49, 50, 51, 52, 53, 54, 55, 56, 57, 58, 59, 60, 61, 62, 63, 64, 65, 66, 67, 68, 69, 70, 71, 72, 73, 74, 75, 76, 77, 78, 79, 80, 81, 82, 104, 105, 106, 107, 108, 109, 110, 111, 112, 113, 114, 115, 116, 117, 118, 119, 120, 121, 122, 123, 124, 125, 126, 127, 128, 129, 130, 131, 132, 133, 134, 135, 136, 137, 138, 139, 140, 141, 142] (by decide +kernel) (by decide +kernel)
set_option maxRecDepth 20000 in
theorem gX11_checksum_X11_moreOfWord : GoodIn wsX11_checksum (wsV RX11 323 RX11 yX11_moreOfWord wsX11_moreOfWord) := goodIn_app (goodIn_of _ (by decide +kernel)) ggX11_checksum_X11_moreOfWord
set_option maxRecDepth 20000 in
theorem ggX11_checksum_X11_brokenDiamond : GoodIn wsX11_checksum wsX11_brokenDiamond := goodIn_r _ [86, 2, 37, 38, 39, 5, 40, 87, 88, 89, 90, 104, 105, 106, 107, 108, 109, 110, 111, 112, 113, 114, 115, 116, 117, 118, 119, 120, 121, 122, 123, 124, 125, 126, 127, 128, 129, 130, 131, 132, 133, 134, 135, 136, 137, 138, 139, 140, 141, 142] (by decide +kernel) (by decide +kernel)
set_option maxRecDepth 20000 in
theorem gX11_checksum_X11_brokenDiamond : GoodIn wsX11_checksum (wsV RX11 327 RX11 yX11_brokenDiamond wsX11_brokenDiamond) := goodIn_app (goodIn_of _ (by decide +kernel)) ggX11_checksum_X11_brokenDiamond
set_option maxRecDepth 20000 in
theorem ggX11_checksum_X11_isClosed : GoodIn wsX11_checksum wsX11_isClosed := goodIn_r _ [94, 2, 95, 96, 97, 98, 5, 99, 87, 88, 89, 90, 100, 101, 102, 103, 37, 38, 39, 40, 104, 105, 106, 107, 108, 109, 110, 111, 112, 113, 114, 115, 116, 117, 118, 119, 120, 121, 122, 123, 124, 125, 126, 127, 128, 129, 130, 131, 132, 133, 134, 135, 136, 137, 138, 139, 140, 141, 142] (by decide +kernel) (by decide +kernel)
set_option maxRecDepth 20000 in
theorem gX11_checksum_X11_isClosed : GoodIn wsX11_checksum (wsV RX11 313 RX11 yX11_isClosed wsX11_isClosed) := goodIn_app (goodIn_of _ (by decide +kernel)) ggX11_checksum_X11_isClosed
theorem dX11_checksum_0 : decode cX11_checksum 0 = .ok (.ldc2_w 321, 3) := by decide +kernel
theorem dX11_checksum_3 : decode cX11_checksum 3 = .ok (.aload_n 0, 1) := by decide +kernel
theorem dX11_checksum_4 : decode cX11_checksum 4 = .ok (.getfield 7, 3) := by decide +kernel
theorem dX11_checksum_7 : decode cX11_checksum 7 = .ok (.iconst 0, 1) := by decide +kernel
theorem dX11_checksum_8 : decode cX11_checksum 8 = .ok (.iaload, 1) := by decide +kernel
theorem dX11_checksum_9 : decode cX11_checksum 9 = .ok (.i2l, 1) := by decide +kernel
theorem dX11_checksum_10 : decode cX11_checksum 10 = .ok (.invokestatic 318, 3) := by decide +kernel
theorem dX11_checksum_13 : decode cX11_checksum 13 = .ok (.lstore_n 1, 1) := by decide +kernel
theorem dX11_checksum_14 : decode cX11_checksum 14 = .ok (.iconst 0, 1) := by decide +kernel
theorem dX11_checksum_15 : decode cX11_checksum 15 = .ok (.istore_n 3, 1) := by decide +kernel
theorem dX11_checksum_16 : decode cX11_checksum 16 = .ok (.iload_n 3, 1) := by decide +kernel
theorem dX11_checksum_17 : decode cX11_checksum 17 = .ok (.aload_n 0, 1) := by decide +kernel
theorem dX11_checksum_18 : decode cX11_checksum 18 = .ok (.getfield 7, 3) := by decide +kernel
theorem dX11_checksum_21 : decode cX11_checksum 21 = .ok (.iconst 0, 1) := by decide +kernel
theorem dX11_checksum_22 : decode cX11_checksum 22 = .ok (.iaload, 1) := by decide +kernel
theorem dX11_checksum_23 : decode cX11_checksum 23 = .ok (.if_icmp .ge 23, 3) := by decide +kernel
theorem dX11_checksum_26 : decode cX11_checksum 26 = .ok (.lload_n 1, 1) := by decide +kernel
theorem dX11_checksum_27 : decode cX11_checksum 27 = .ok (.aload_n 0, 1) := by decide +kernel
theorem dX11_checksum_28 : decode cX11_checksum 28 = .ok (.getfield 7, 3) := by decide +kernel
theorem dX11_checksum_31 : decode cX11_checksum 31 = .ok (.iconst 1, 1) := by decide +kernel
theorem dX11_checksum_32 : decode cX11_checksum 32 = .ok (.iload_n 3, 1) := by decide +kernel
theorem dX11_checksum_33 : decode cX11_checksum 33 = .ok (.iadd, 1) := by decide +kernel
theorem dX11_checksum_34 : decode cX11_checksum 34 = .ok (.iaload, 1) := by decide +kernel
theorem dX11_checksum_35 : decode cX11_checksum 35 = .ok (.i2l, 1) := by decide +kernel
theorem dX11_checksum_36 : decode cX11_checksum 36 = .ok (.invokestatic 318, 3) := by decide +kernel
theorem dX11_checksum_39 : decode cX11_checksum 39 = .ok (.lstore_n 1, 1) := by decide +kernel
theorem dX11_checksum_40 : decode cX11_checksum 40 = .ok (.iinc 3 1, 3) := by decide +kernel
theorem dX11_checksum_43 : decode cX11_checksum 43 = .ok (.goto (-27), 3) := by decide +kernel
theorem dX11_checksum_46 : decode cX11_checksum 46 = .ok (.iconst 0, 1) := by decide +kernel
theorem dX11_checksum_47 : decode cX11_checksum 47 = .ok (.istore_n 3, 1) := by decide +kernel
theorem dX11_checksum_48 : decode cX11_checksum 48 = .ok (.iload_n 3, 1) := by decide +kernel
theorem dX11_checksum_49 : decode cX11_checksum 49 = .ok (.bipush 6, 2) := by decide +kernel
theorem dX11_checksum_51 : decode cX11_checksum 51 = .ok (.if_icmp .ge 16, 3) := by decide +kernel
theorem dX11_checksum_54 : decode cX11_checksum 54 = .ok (.aload_n 0, 1) := by decide +kernel
theorem dX11_checksum_55 : decode cX11_checksum 55 = .ok (.lload_n 1, 1) := by decide +kernel
theorem dX11_checksum_56 : decode cX11_checksum 56 = .ok (.iload_n 3, 1) := by decide +kernel
theorem dX11_checksum_57 : decode cX11_checksum 57 = .ok (.invokevirtual 323, 3) := by decide +kernel
theorem dX11_checksum_60 : decode cX11_checksum 60 = .ok (.lstore_n 1, 1) := by decide +kernel
theorem dX11_checksum_61 : decode cX11_checksum 61 = .ok (.iinc 3 1, 3) := by decide +kernel
theorem dX11_checksum_64 : decode cX11_checksum 64 = .ok (.goto (-16), 3) := by decide +kernel
theorem dX11_checksum_67 : decode cX11_checksum 67 = .ok (.lload_n 1, 1) := by decide +kernel
theorem dX11_checksum_68 : decode cX11_checksum 68 = .ok (.aload_n 0, 1) := by decide +kernel
theorem dX11_checksum_69 : decode cX11_checksum 69 = .ok (.invokevirtual 327, 3) := by decide +kernel
theorem dX11_checksum_72 : decode cX11_checksum 72 = .ok (.i2l, 1) := by decide +kernel
theorem dX11_checksum_73 : decode cX11_checksum 73 = .ok (.invokestatic 318, 3) := by decide +kernel
theorem dX11_checksum_76 : decode cX11_checksum 76 = .ok (.aload_n 0, 1) := by decide +kernel
theorem dX11_checksum_77 : decode cX11_checksum 77 = .ok (.invokevirtual 313, 3) := by decide +kernel
theorem dX11_checksum_80 : decode cX11_checksum 80 = .ok (.ifCond .eq 7, 3) := by decide +kernel
theorem dX11_checksum_83 : decode cX11_checksum 83 = .ok (.lconst 1, 1) := by decide +kernel
theorem dX11_checksum_84 : decode cX11_checksum 84 = .ok (.goto 4, 3) := by decide +kernel
theorem dX11_checksum_87 : decode cX11_checksum 87 = .ok (.lconst 0, 1) := by decide +kernel
theorem dX11_checksum_88 : decode cX11_checksum 88 = .ok (.invokestatic 318, 3) := by decide +kernel
theorem dX11_checksum_91 : decode cX11_checksum 91 = .ok (.lreturn, 1) := by decide +kernel
