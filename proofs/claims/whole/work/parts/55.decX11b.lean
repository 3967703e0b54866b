theorem dX11_alike_4 : decode cX11_alike 4 = .ok (.ifCond .eq 10, 3) := by decide +kernel
theorem dX11_alike_7 : decode cX11_alike 7 = .ok (.iload_n 2, 1) := by decide +kernel
theorem dX11_alike_8 : decode cX11_alike 8 = .ok (.invokestatic 156, 3) := by decide +kernel
theorem dX11_alike_11 : decode cX11_alike 11 = .ok (.ifCond .ne 5, 3) := by decide +kernel
theorem dX11_alike_14 : decode cX11_alike 14 = .ok (.iconst (-1), 1) := by decide +kernel
theorem dX11_alike_15 : decode cX11_alike 15 = .ok (.ireturn, 1) := by decide +kernel
theorem dX11_alike_16 : decode cX11_alike 16 = .ok (.aload_n 0, 1) := by decide +kernel
theorem dX11_alike_17 : decode cX11_alike 17 = .ok (.iload_n 1, 1) := by decide +kernel
theorem dX11_alike_18 : decode cX11_alike 18 = .ok (.invokevirtual 159, 3) := by decide +kernel
theorem dX11_alike_21 : decode cX11_alike 21 = .ok (.aload_n 0, 1) := by decide +kernel
theorem dX11_alike_22 : decode cX11_alike 22 = .ok (.iload_n 2, 1) := by decide +kernel
theorem dX11_alike_23 : decode cX11_alike 23 = .ok (.invokevirtual 195, 3) := by decide +kernel
theorem dX11_alike_26 : decode cX11_alike 26 = .ok (.aload_n 0, 1) := by decide +kernel
theorem dX11_alike_27 : decode cX11_alike 27 = .ok (.invokevirtual 198, 3) := by decide +kernel
theorem dX11_alike_30 : decode cX11_alike 30 = .ok (.ifCond .eq 7, 3) := by decide +kernel
theorem dX11_alike_33 : decode cX11_alike 33 = .ok (.iconst 1, 1) := by decide +kernel
theorem dX11_alike_34 : decode cX11_alike 34 = .ok (.goto 4, 3) := by decide +kernel
theorem dX11_alike_37 : decode cX11_alike 37 = .ok (.iconst 0, 1) := by decide +kernel
theorem dX11_alike_38 : decode cX11_alike 38 = .ok (.ireturn, 1) := by decide +kernel
set_option maxRecDepth 20000 in
theorem ggX11_commute_X11_isWord : GoodIn wsX11_commute wsX11_isWord := goodIn_r _ [8, 9, 10, 7, 11] (by decide +kernel) (by decide +kernel)
set_option maxRecDepth 20000 in
theorem gX11_commute_X11_isWord : GoodIn wsX11_commute (va_wsS RX11 156 yX11_isWord wsX11_isWord) := goodIn_app (goodIn_of _ (by decide +kernel)) ggX11_commute_X11_isWord
set_option maxRecDepth 20000 in
theorem ggX11_commute_X11_takesOne : GoodIn wsX11_commute wsX11_takesOne := goodIn_r _ [15, 16, 1, 3, 46, 47, 48, 49, 50, 51, 52, 53, 54, 55, 56, 57, 58, 59, 60, 61, 62, 63, 64, 65, 66, 67, 68, 69, 70, 71, 72, 73, 74, 75, 76, 77, 78, 79, 80, 81, 82, 83, 84] (by decide +kernel) (by decide +kernel)
set_option maxRecDepth 20000 in
theorem gX11_commute_X11_takesOne : GoodIn wsX11_commute (wsV RX11 159 RX11 yX11_takesOne wsX11_takesOne) := goodIn_app (goodIn_of _ (by decide +kernel)) ggX11_commute_X11_takesOne
set_option maxRecDepth 20000 in
theorem ggX11_commute_X11_takesOther : GoodIn wsX11_commute wsX11_takesOther := goodIn_r _ [20, 16, 2, 4, 46, 47, 48, 49, 50, 51, 52, 53, 54, 55, 56, 57, 58, 59, 60, 61, 62, 63, 64, 65, 66, 67, 68, 69, 70, 71, 72, 73, 74, 75, 76, 77, 78, 79, 80, 81, 82, 83, 84] (by decide +kernel) (by decide +kernel)
set_option maxRecDepth 20000 in
theorem gX11_commute_X11_takesOther : GoodIn wsX11_commute (wsV RX11 195 RX11 yX11_takesOther wsX11_takesOther) := goodIn_app (goodIn_of _ (by decide +kernel)) ggX11_commute_X11_takesOther
set_option maxRecDepth 20000 in
theorem ggX11_commute_X11_areAlike : GoodIn wsX11_commute wsX11_areAlike := goodIn_r _ [24, 1, 2, 25, 26, 27, 7, 28, 4, 3, 29, 30, 31, 32, 33, 34, 35, 36, 37, 38, 39, 40, 41, 42, 43, 44, 45, 16, 46, 47, 48, 49, 50, 51, 52, 53, 54, 55, 56, 57, 58, 59, 60, 61, 62, 63, 64, 65, 66, 67, 68, 69, 70, 71, 72, 73, 74, 75, 76, 77, 78, 79, 80, 81, 82, 83, 84] (by decide +kernel) (by decide +kernel)
set_option maxRecDepth 20000 in
theorem gX11_commute_X11_areAlike : GoodIn wsX11_commute (wsV RX11 198 RX11 yX11_areAlike wsX11_areAlike) := goodIn_app (goodIn_of _ (by decide +kernel)) ggX11_commute_X11_areAlike
theorem dX11_commute_0 : decode cX11_commute 0 = .ok (.iload_n 1, 1) := by decide +kernel
theorem dX11_commute_1 : decode cX11_commute 1 = .ok (.invokestatic 156, 3) := by decide +kernel
theorem dX11_commute_4 : decode cX11_commute 4 = .ok (.ifCond .eq 10, 3) := by decide +kernel
theorem dX11_commute_7 : decode cX11_commute 7 = .ok (.iload_n 2, 1) := by decide +kernel
theorem dX11_commute_8 : decode cX11_commute 8 = .ok (.invokestatic 156, 3) := by decide +kernel
theorem dX11_commute_11 : decode cX11_commute 11 = .ok (.ifCond .ne 5, 3) := by decide +kernel
theorem dX11_commute_14 : decode cX11_commute 14 = .ok (.iconst (-1), 1) := by decide +kernel
theorem dX11_commute_15 : decode cX11_commute 15 = .ok (.ireturn, 1) := by decide +kernel
theorem dX11_commute_16 : decode cX11_commute 16 = .ok (.aload_n 0, 1) := by decide +kernel
theorem dX11_commute_17 : decode cX11_commute 17 = .ok (.iload_n 1, 1) := by decide +kernel
theorem dX11_commute_18 : decode cX11_commute 18 = .ok (.invokevirtual 159, 3) := by decide +kernel
theorem dX11_commute_21 : decode cX11_commute 21 = .ok (.aload_n 0, 1) := by decide +kernel
theorem dX11_commute_22 : decode cX11_commute 22 = .ok (.iload_n 2, 1) := by decide +kernel
theorem dX11_commute_23 : decode cX11_commute 23 = .ok (.invokevirtual 195, 3) := by decide +kernel
theorem dX11_commute_26 : decode cX11_commute 26 = .ok (.aload_n 0, 1) := by decide +kernel
theorem dX11_commute_27 : decode cX11_commute 27 = .ok (.getfield 131, 3) := by decide +kernel
theorem dX11_commute_30 : decode cX11_commute 30 = .ok (.istore_n 3, 1) := by decide +kernel
theorem dX11_commute_31 : decode cX11_commute 31 = .ok (.aload_n 0, 1) := by decide +kernel
theorem dX11_commute_32 : decode cX11_commute 32 = .ok (.getfield 135, 3) := by decide +kernel
theorem dX11_commute_35 : decode cX11_commute 35 = .ok (.istore 4, 2) := by decide +kernel
theorem dX11_commute_37 : decode cX11_commute 37 = .ok (.iconst 0, 1) := by decide +kernel
theorem dX11_commute_38 : decode cX11_commute 38 = .ok (.istore 5, 2) := by decide +kernel
theorem dX11_commute_40 : decode cX11_commute 40 = .ok (.iload 5, 2) := by decide +kernel
theorem dX11_commute_42 : decode cX11_commute 42 = .ok (.iload 4, 2) := by decide +kernel
theorem dX11_commute_44 : decode cX11_commute 44 = .ok (.if_icmp .ge 25, 3) := by decide +kernel
theorem dX11_commute_47 : decode cX11_commute 47 = .ok (.aload_n 0, 1) := by decide +kernel
theorem dX11_commute_48 : decode cX11_commute 48 = .ok (.getfield 27, 3) := by decide +kernel
theorem dX11_commute_51 : decode cX11_commute 51 = .ok (.iload_n 3, 1) := by decide +kernel
theorem dX11_commute_52 : decode cX11_commute 52 = .ok (.iload 5, 2) := by decide +kernel
theorem dX11_commute_54 : decode cX11_commute 54 = .ok (.iadd, 1) := by decide +kernel
theorem dX11_commute_55 : decode cX11_commute 55 = .ok (.aload_n 0, 1) := by decide +kernel
theorem dX11_commute_56 : decode cX11_commute 56 = .ok (.getfield 30, 3) := by decide +kernel
theorem dX11_commute_59 : decode cX11_commute 59 = .ok (.iload 5, 2) := by decide +kernel
theorem dX11_commute_61 : decode cX11_commute 61 = .ok (.iaload, 1) := by decide +kernel
theorem dX11_commute_62 : decode cX11_commute 62 = .ok (.iastore, 1) := by decide +kernel
theorem dX11_commute_63 : decode cX11_commute 63 = .ok (.iinc 5 1, 3) := by decide +kernel
theorem dX11_commute_66 : decode cX11_commute 66 = .ok (.goto (-26), 3) := by decide +kernel
theorem dX11_commute_69 : decode cX11_commute 69 = .ok (.iconst 0, 1) := by decide +kernel
theorem dX11_commute_70 : decode cX11_commute 70 = .ok (.istore 5, 2) := by decide +kernel
theorem dX11_commute_72 : decode cX11_commute 72 = .ok (.iload 5, 2) := by decide +kernel
theorem dX11_commute_74 : decode cX11_commute 74 = .ok (.iload_n 3, 1) := by decide +kernel
theorem dX11_commute_75 : decode cX11_commute 75 = .ok (.if_icmp .ge 26, 3) := by decide +kernel
theorem dX11_commute_78 : decode cX11_commute 78 = .ok (.aload_n 0, 1) := by decide +kernel
theorem dX11_commute_79 : decode cX11_commute 79 = .ok (.getfield 30, 3) := by decide +kernel
theorem dX11_commute_82 : decode cX11_commute 82 = .ok (.iload 4, 2) := by decide +kernel
theorem dX11_commute_84 : decode cX11_commute 84 = .ok (.iload 5, 2) := by decide +kernel
theorem dX11_commute_86 : decode cX11_commute 86 = .ok (.iadd, 1) := by decide +kernel
theorem dX11_commute_87 : decode cX11_commute 87 = .ok (.aload_n 0, 1) := by decide +kernel
theorem dX11_commute_88 : decode cX11_commute 88 = .ok (.getfield 27, 3) := by decide +kernel
theorem dX11_commute_91 : decode cX11_commute 91 = .ok (.iload 5, 2) := by decide +kernel
theorem dX11_commute_93 : decode cX11_commute 93 = .ok (.iaload, 1) := by decide +kernel
theorem dX11_commute_94 : decode cX11_commute 94 = .ok (.iastore, 1) := by decide +kernel
theorem dX11_commute_95 : decode cX11_commute 95 = .ok (.iinc 5 1, 3) := by decide +kernel
theorem dX11_commute_98 : decode cX11_commute 98 = .ok (.goto (-26), 3) := by decide +kernel
theorem dX11_commute_101 : decode cX11_commute 101 = .ok (.aload_n 0, 1) := by decide +kernel
theorem dX11_commute_102 : decode cX11_commute 102 = .ok (.iload_n 3, 1) := by decide +kernel
theorem dX11_commute_103 : decode cX11_commute 103 = .ok (.iload 4, 2) := by decide +kernel
theorem dX11_commute_105 : decode cX11_commute 105 = .ok (.iadd, 1) := by decide +kernel
theorem dX11_commute_106 : decode cX11_commute 106 = .ok (.putfield 131, 3) := by decide +kernel
theorem dX11_commute_109 : decode cX11_commute 109 = .ok (.aload_n 0, 1) := by decide +kernel
theorem dX11_commute_110 : decode cX11_commute 110 = .ok (.iload_n 3, 1) := by decide +kernel
theorem dX11_commute_111 : decode cX11_commute 111 = .ok (.iload 4, 2) := by decide +kernel
theorem dX11_commute_113 : decode cX11_commute 113 = .ok (.iadd, 1) := by decide +kernel
theorem dX11_commute_114 : decode cX11_commute 114 = .ok (.putfield 135, 3) := by decide +kernel
theorem dX11_commute_117 : decode cX11_commute 117 = .ok (.aload_n 0, 1) := by decide +kernel
theorem dX11_commute_118 : decode cX11_commute 118 = .ok (.invokevirtual 198, 3) := by decide +kernel
theorem dX11_commute_121 : decode cX11_commute 121 = .ok (.ifCond .eq 7, 3) := by decide +kernel
theorem dX11_commute_124 : decode cX11_commute 124 = .ok (.iconst 1, 1) := by decide +kernel
theorem dX11_commute_125 : decode cX11_commute 125 = .ok (.goto 4, 3) := by decide +kernel
theorem dX11_commute_128 : decode cX11_commute 128 = .ok (.iconst 0, 1) := by decide +kernel
theorem dX11_commute_129 : decode cX11_commute 129 = .ok (.ireturn, 1) := by decide +kernel
theorem dX11_isConnected_0 : decode cX11_isConnected 0 = .ok (.iload_n 1, 1) := by decide +kernel
theorem dX11_isConnected_1 : decode cX11_isConnected 1 = .ok (.iload_n 1, 1) := by decide +kernel
theorem dX11_isConnected_2 : decode cX11_isConnected 2 = .ok (.ineg, 1) := by decide +kernel
theorem dX11_isConnected_3 : decode cX11_isConnected 3 = .ok (.iand, 1) := by decide +kernel
theorem dX11_isConnected_4 : decode cX11_isConnected 4 = .ok (.istore_n 2, 1) := by decide +kernel
theorem dX11_isConnected_5 : decode cX11_isConnected 5 = .ok (.iconst 0, 1) := by decide +kernel
theorem dX11_isConnected_6 : decode cX11_isConnected 6 = .ok (.istore_n 3, 1) := by decide +kernel
theorem dX11_isConnected_7 : decode cX11_isConnected 7 = .ok (.iload_n 3, 1) := by decide +kernel
theorem dX11_isConnected_8 : decode cX11_isConnected 8 = .ok (.iload_n 2, 1) := by decide +kernel
theorem dX11_isConnected_9 : decode cX11_isConnected 9 = .ok (.if_icmp .eq 77, 3) := by decide +kernel
theorem dX11_isConnected_12 : decode cX11_isConnected 12 = .ok (.iload_n 2, 1) := by decide +kernel
theorem dX11_isConnected_13 : decode cX11_isConnected 13 = .ok (.istore_n 3, 1) := by decide +kernel
theorem dX11_isConnected_14 : decode cX11_isConnected 14 = .ok (.iconst 0, 1) := by decide +kernel
theorem dX11_isConnected_15 : decode cX11_isConnected 15 = .ok (.istore 4, 2) := by decide +kernel
theorem dX11_isConnected_17 : decode cX11_isConnected 17 = .ok (.iload 4, 2) := by decide +kernel
theorem dX11_isConnected_19 : decode cX11_isConnected 19 = .ok (.aload_n 0, 1) := by decide +kernel
theorem dX11_isConnected_20 : decode cX11_isConnected 20 = .ok (.getfield 7, 3) := by decide +kernel
theorem dX11_isConnected_23 : decode cX11_isConnected 23 = .ok (.iconst 0, 1) := by decide +kernel
theorem dX11_isConnected_24 : decode cX11_isConnected 24 = .ok (.iaload, 1) := by decide +kernel
theorem dX11_isConnected_25 : decode cX11_isConnected 25 = .ok (.if_icmp .ge 58, 3) := by decide +kernel
theorem dX11_isConnected_28 : decode cX11_isConnected 28 = .ok (.iload_n 2, 1) := by decide +kernel
theorem dX11_isConnected_29 : decode cX11_isConnected 29 = .ok (.aload_n 0, 1) := by decide +kernel
theorem dX11_isConnected_30 : decode cX11_isConnected 30 = .ok (.getfield 7, 3) := by decide +kernel
theorem dX11_isConnected_33 : decode cX11_isConnected 33 = .ok (.iconst 1, 1) := by decide +kernel
theorem dX11_isConnected_34 : decode cX11_isConnected 34 = .ok (.iload 4, 2) := by decide +kernel
theorem dX11_isConnected_36 : decode cX11_isConnected 36 = .ok (.iadd, 1) := by decide +kernel
theorem dX11_isConnected_37 : decode cX11_isConnected 37 = .ok (.iaload, 1) := by decide +kernel
theorem dX11_isConnected_38 : decode cX11_isConnected 38 = .ok (.iconst (-1), 1) := by decide +kernel
theorem dX11_isConnected_39 : decode cX11_isConnected 39 = .ok (.ixor, 1) := by decide +kernel
theorem dX11_isConnected_40 : decode cX11_isConnected 40 = .ok (.iand, 1) := by decide +kernel
theorem dX11_isConnected_41 : decode cX11_isConnected 41 = .ok (.ifCond .eq 7, 3) := by decide +kernel
theorem dX11_isConnected_44 : decode cX11_isConnected 44 = .ok (.iconst 1, 1) := by decide +kernel
theorem dX11_isConnected_45 : decode cX11_isConnected 45 = .ok (.goto 4, 3) := by decide +kernel
theorem dX11_isConnected_48 : decode cX11_isConnected 48 = .ok (.iconst 0, 1) := by decide +kernel
theorem dX11_isConnected_49 : decode cX11_isConnected 49 = .ok (.istore 5, 2) := by decide +kernel
theorem dX11_isConnected_51 : decode cX11_isConnected 51 = .ok (.iload_n 2, 1) := by decide +kernel
theorem dX11_isConnected_52 : decode cX11_isConnected 52 = .ok (.iload_n 1, 1) := by decide +kernel
theorem dX11_isConnected_53 : decode cX11_isConnected 53 = .ok (.iload 4, 2) := by decide +kernel
theorem dX11_isConnected_55 : decode cX11_isConnected 55 = .ok (.ishr, 1) := by decide +kernel
theorem dX11_isConnected_56 : decode cX11_isConnected 56 = .ok (.iconst 1, 1) := by decide +kernel
theorem dX11_isConnected_57 : decode cX11_isConnected 57 = .ok (.iand, 1) := by decide +kernel
theorem dX11_isConnected_58 : decode cX11_isConnected 58 = .ok (.iconst 1, 1) := by decide +kernel
theorem dX11_isConnected_59 : decode cX11_isConnected 59 = .ok (.if_icmp .ne 15, 3) := by decide +kernel
theorem dX11_isConnected_62 : decode cX11_isConnected 62 = .ok (.iload 5, 2) := by decide +kernel
theorem dX11_isConnected_64 : decode cX11_isConnected 64 = .ok (.ifCond .eq 10, 3) := by decide +kernel
theorem dX11_isConnected_67 : decode cX11_isConnected 67 = .ok (.iconst 1, 1) := by decide +kernel
theorem dX11_isConnected_68 : decode cX11_isConnected 68 = .ok (.iload 4, 2) := by decide +kernel
theorem dX11_isConnected_70 : decode cX11_isConnected 70 = .ok (.ishl, 1) := by decide +kernel
theorem dX11_isConnected_71 : decode cX11_isConnected 71 = .ok (.goto 4, 3) := by decide +kernel
theorem dX11_isConnected_74 : decode cX11_isConnected 74 = .ok (.iconst 0, 1) := by decide +kernel
theorem dX11_isConnected_75 : decode cX11_isConnected 75 = .ok (.ior, 1) := by decide +kernel
theorem dX11_isConnected_76 : decode cX11_isConnected 76 = .ok (.istore_n 2, 1) := by decide +kernel
theorem dX11_isConnected_77 : decode cX11_isConnected 77 = .ok (.iinc 4 1, 3) := by decide +kernel
theorem dX11_isConnected_80 : decode cX11_isConnected 80 = .ok (.goto (-63), 3) := by decide +kernel
theorem dX11_isConnected_83 : decode cX11_isConnected 83 = .ok (.goto (-76), 3) := by decide +kernel
theorem dX11_isConnected_86 : decode cX11_isConnected 86 = .ok (.iload_n 2, 1) := by decide +kernel
theorem dX11_isConnected_87 : decode cX11_isConnected 87 = .ok (.iload_n 1, 1) := by decide +kernel
theorem dX11_isConnected_88 : decode cX11_isConnected 88 = .ok (.if_icmp .ne 7, 3) := by decide +kernel
theorem dX11_isConnected_91 : decode cX11_isConnected 91 = .ok (.iconst 1, 1) := by decide +kernel
theorem dX11_isConnected_92 : decode cX11_isConnected 92 = .ok (.goto 4, 3) := by decide +kernel
theorem dX11_isConnected_95 : decode cX11_isConnected 95 = .ok (.iconst 0, 1) := by decide +kernel
theorem dX11_isConnected_96 : decode cX11_isConnected 96 = .ok (.ireturn, 1) := by decide +kernel
theorem dX11_letters_0 : decode cX11_letters 0 = .ok (.iconst 0, 1) := by decide +kernel
theorem dX11_letters_1 : decode cX11_letters 1 = .ok (.istore_n 2, 1) := by decide +kernel
theorem dX11_letters_2 : decode cX11_letters 2 = .ok (.iconst 0, 1) := by decide +kernel
theorem dX11_letters_3 : decode cX11_letters 3 = .ok (.istore_n 3, 1) := by decide +kernel
theorem dX11_letters_4 : decode cX11_letters 4 = .ok (.iload_n 3, 1) := by decide +kernel
theorem dX11_letters_5 : decode cX11_letters 5 = .ok (.aload_n 0, 1) := by decide +kernel
theorem dX11_letters_6 : decode cX11_letters 6 = .ok (.getfield 7, 3) := by decide +kernel
theorem dX11_letters_9 : decode cX11_letters 9 = .ok (.bipush 7, 2) := by decide +kernel
theorem dX11_letters_11 : decode cX11_letters 11 = .ok (.iload_n 1, 1) := by decide +kernel
theorem dX11_letters_12 : decode cX11_letters 12 = .ok (.iadd, 1) := by decide +kernel
theorem dX11_letters_13 : decode cX11_letters 13 = .ok (.iaload, 1) := by decide +kernel
theorem dX11_letters_14 : decode cX11_letters 14 = .ok (.if_icmp .ge 28, 3) := by decide +kernel
theorem dX11_letters_17 : decode cX11_letters 17 = .ok (.iload_n 2, 1) := by decide +kernel
theorem dX11_letters_18 : decode cX11_letters 18 = .ok (.iconst 1, 1) := by decide +kernel
theorem dX11_letters_19 : decode cX11_letters 19 = .ok (.aload_n 0, 1) := by decide +kernel
theorem dX11_letters_20 : decode cX11_letters 20 = .ok (.getfield 7, 3) := by decide +kernel
theorem dX11_letters_23 : decode cX11_letters 23 = .ok (.bipush 13, 2) := by decide +kernel
theorem dX11_letters_25 : decode cX11_letters 25 = .ok (.bipush 16, 2) := by decide +kernel
theorem dX11_letters_27 : decode cX11_letters 27 = .ok (.iload_n 1, 1) := by decide +kernel
theorem dX11_letters_28 : decode cX11_letters 28 = .ok (.imul, 1) := by decide +kernel
theorem dX11_letters_29 : decode cX11_letters 29 = .ok (.iadd, 1) := by decide +kernel
theorem dX11_letters_30 : decode cX11_letters 30 = .ok (.iload_n 3, 1) := by decide +kernel
theorem dX11_letters_31 : decode cX11_letters 31 = .ok (.iadd, 1) := by decide +kernel
theorem dX11_letters_32 : decode cX11_letters 32 = .ok (.iaload, 1) := by decide +kernel
theorem dX11_letters_33 : decode cX11_letters 33 = .ok (.ishl, 1) := by decide +kernel
theorem dX11_letters_34 : decode cX11_letters 34 = .ok (.ior, 1) := by decide +kernel
theorem dX11_letters_35 : decode cX11_letters 35 = .ok (.istore_n 2, 1) := by decide +kernel
theorem dX11_letters_36 : decode cX11_letters 36 = .ok (.iinc 3 1, 3) := by decide +kernel
theorem dX11_letters_39 : decode cX11_letters 39 = .ok (.goto (-35), 3) := by decide +kernel
theorem dX11_letters_42 : decode cX11_letters 42 = .ok (.iload_n 2, 1) := by decide +kernel
theorem dX11_letters_43 : decode cX11_letters 43 = .ok (.ireturn, 1) := by decide +kernel
set_option maxRecDepth 20000 in
theorem ggX11_connected_X11_isWord : GoodIn wsX11_connected wsX11_isWord := goodIn_r _ [4, 5, 6, 3, 7] (by decide +kernel) (by decide +kernel)
set_option maxRecDepth 20000 in
theorem gX11_connected_X11_isWord : GoodIn wsX11_connected (va_wsS RX11 156 yX11_isWord wsX11_isWord) := goodIn_app (goodIn_of _ (by decide +kernel)) ggX11_connected_X11_isWord
set_option maxRecDepth 20000 in
theorem ggX11_connected_X11_letters : GoodIn wsX11_connected wsX11_letters := goodIn_r _ [11, 12, 17, 18, 19, 20, 21, 22, 23, 24, 25, 26, 27, 28, 29, 30, 31, 32, 33, 34, 35, 36, 37, 38, 39, 40, 41, 42, 43, 44, 45, 46, 47, 48, 49, 50, 51, 52, 53, 54, 55] (by decide +kernel) (by decide +kernel)
set_option maxRecDepth 20000 in
theorem gX11_connected_X11_letters : GoodIn wsX11_connected (wsV RX11 201 RX11 yX11_letters wsX11_letters) := goodIn_app (goodIn_of _ (by decide +kernel)) ggX11_connected_X11_letters
set_option maxRecDepth 20000 in
theorem ggX11_connected_X11_isConnected : GoodIn wsX11_connected wsX11_isConnected := goodIn_r _ [16, 12, 17, 18, 19, 20, 21, 22, 23, 24, 25, 26, 27, 28, 29, 30, 31, 32, 33, 34, 35, 36, 37, 38, 39, 40, 41, 42, 43, 44, 45, 46, 47, 48, 49, 50, 51, 52, 53, 54, 55] (by decide +kernel) (by decide +kernel)
set_option maxRecDepth 20000 in
theorem gX11_connected_X11_isConnected : GoodIn wsX11_connected (wsV RX11 204 RX11 yX11_isConnected wsX11_isConnected) := goodIn_app (goodIn_of _ (by decide +kernel)) ggX11_connected_X11_isConnected
theorem dX11_connected_0 : decode cX11_connected 0 = .ok (.iload_n 1, 1) := by decide +kernel
theorem dX11_connected_1 : decode cX11_connected 1 = .ok (.invokestatic 156, 3) := by decide +kernel
theorem dX11_connected_4 : decode cX11_connected 4 = .ok (.ifCond .ne 7, 3) := by decide +kernel
theorem dX11_connected_7 : decode cX11_connected 7 = .ok (.iconst (-1), 1) := by decide +kernel
theorem dX11_connected_8 : decode cX11_connected 8 = .ok (.goto 20, 3) := by decide +kernel
theorem dX11_connected_11 : decode cX11_connected 11 = .ok (.aload_n 0, 1) := by decide +kernel
theorem dX11_connected_12 : decode cX11_connected 12 = .ok (.aload_n 0, 1) := by decide +kernel
theorem dX11_connected_13 : decode cX11_connected 13 = .ok (.iload_n 1, 1) := by decide +kernel
theorem dX11_connected_14 : decode cX11_connected 14 = .ok (.invokevirtual 201, 3) := by decide +kernel
theorem dX11_connected_17 : decode cX11_connected 17 = .ok (.invokevirtual 204, 3) := by decide +kernel
theorem dX11_connected_20 : decode cX11_connected 20 = .ok (.ifCond .eq 7, 3) := by decide +kernel
theorem dX11_connected_23 : decode cX11_connected 23 = .ok (.iconst 1, 1) := by decide +kernel
theorem dX11_connected_24 : decode cX11_connected 24 = .ok (.goto 4, 3) := by decide +kernel
theorem dX11_connected_27 : decode cX11_connected 27 = .ok (.iconst 0, 1) := by decide +kernel
theorem dX11_connected_28 : decode cX11_connected 28 = .ok (.ireturn, 1) := by decide +kernel
set_option maxRecDepth 20000 in
theorem ggX11_isPrefix_X11_isWord : GoodIn wsX11_isPrefix wsX11_isWord := goodIn_r _ [4, 5, 6, 3, 7] (by decide +kernel) (by decide +kernel)
set_option maxRecDepth 20000 in
theorem gX11_isPrefix_X11_isWord : GoodIn wsX11_isPrefix (va_wsS RX11 156 yX11_isWord wsX11_isWord) := goodIn_app (goodIn_of _ (by decide +kernel)) ggX11_isPrefix_X11_isWord
set_option maxRecDepth 20000 in
theorem ggX11_isPrefix_X11_takesOne : GoodIn wsX11_isPrefix wsX11_takesOne := goodIn_r _ [11, 12, 13, 14, 42, 43, 44, 45, 46, 47, 48, 49, 50, 51, 52, 53, 54, 55, 56, 57, 58, 59, 60, 61, 62, 63, 64, 65, 66, 67, 68, 69, 70, 71, 72, 73, 74, 75, 76, 77, 78, 79, 80] (by decide +kernel) (by decide +kernel)
set_option maxRecDepth 20000 in
theorem gX11_isPrefix_X11_takesOne : GoodIn wsX11_isPrefix (wsV RX11 159 RX11 yX11_takesOne wsX11_takesOne) := goodIn_app (goodIn_of _ (by decide +kernel)) ggX11_isPrefix_X11_takesOne
set_option maxRecDepth 20000 in
theorem ggX11_isPrefix_X11_takesOther : GoodIn wsX11_isPrefix wsX11_takesOther := goodIn_r _ [18, 12, 19, 20, 42, 43, 44, 45, 46, 47, 48, 49, 50, 51, 52, 53, 54, 55, 56, 57, 58, 59, 60, 61, 62, 63, 64, 65, 66, 67, 68, 69, 70, 71, 72, 73, 74, 75, 76, 77, 78, 79, 80] (by decide +kernel) (by decide +kernel)
set_option maxRecDepth 20000 in
theorem gX11_isPrefix_X11_takesOther : GoodIn wsX11_isPrefix (wsV RX11 195 RX11 yX11_takesOther wsX11_takesOther) := goodIn_app (goodIn_of _ (by decide +kernel)) ggX11_isPrefix_X11_takesOther
set_option maxRecDepth 20000 in
theorem ggX11_isPrefix_X11_divides : GoodIn wsX11_isPrefix wsX11_divides := goodIn_r _ [24, 19, 13, 20, 14, 25, 26, 27, 28, 3, 29, 30, 31, 32, 33, 34, 35, 36, 37, 38, 39, 40, 41, 12, 42, 43, 44, 45, 46, 47, 48, 49, 50, 51, 52, 53, 54, 55, 56, 57, 58, 59, 60, 61, 62, 63, 64, 65, 66, 67, 68, 69, 70, 71, 72, 73, 74, 75, 76, 77, 78, 79, 80] (by decide +kernel) (by decide +kernel)
set_option maxRecDepth 20000 in
theorem gX11_isPrefix_X11_divides : GoodIn wsX11_isPrefix (wsV RX11 152 RX11 yX11_divides wsX11_divides) := goodIn_app (goodIn_of _ (by decide +kernel)) ggX11_isPrefix_X11_divides
theorem dX11_isPrefix_0 : decode cX11_isPrefix 0 = .ok (.iload_n 1, 1) := by decide +kernel
theorem dX11_isPrefix_1 : decode cX11_isPrefix 1 = .ok (.invokestatic 156, 3) := by decide +kernel
theorem dX11_isPrefix_4 : decode cX11_isPrefix 4 = .ok (.ifCond .eq 10, 3) := by decide +kernel
theorem dX11_isPrefix_7 : decode cX11_isPrefix 7 = .ok (.iload_n 2, 1) := by decide +kernel
theorem dX11_isPrefix_8 : decode cX11_isPrefix 8 = .ok (.invokestatic 156, 3) := by decide +kernel
theorem dX11_isPrefix_11 : decode cX11_isPrefix 11 = .ok (.ifCond .ne 5, 3) := by decide +kernel
theorem dX11_isPrefix_14 : decode cX11_isPrefix 14 = .ok (.iconst (-1), 1) := by decide +kernel
theorem dX11_isPrefix_15 : decode cX11_isPrefix 15 = .ok (.ireturn, 1) := by decide +kernel
theorem dX11_isPrefix_16 : decode cX11_isPrefix 16 = .ok (.aload_n 0, 1) := by decide +kernel
theorem dX11_isPrefix_17 : decode cX11_isPrefix 17 = .ok (.iload_n 1, 1) := by decide +kernel
theorem dX11_isPrefix_18 : decode cX11_isPrefix 18 = .ok (.invokevirtual 159, 3) := by decide +kernel
theorem dX11_isPrefix_21 : decode cX11_isPrefix 21 = .ok (.aload_n 0, 1) := by decide +kernel
theorem dX11_isPrefix_22 : decode cX11_isPrefix 22 = .ok (.iload_n 2, 1) := by decide +kernel
theorem dX11_isPrefix_23 : decode cX11_isPrefix 23 = .ok (.invokevirtual 195, 3) := by decide +kernel
theorem dX11_isPrefix_26 : decode cX11_isPrefix 26 = .ok (.aload_n 0, 1) := by decide +kernel
theorem dX11_isPrefix_27 : decode cX11_isPrefix 27 = .ok (.invokevirtual 152, 3) := by decide +kernel
theorem dX11_isPrefix_30 : decode cX11_isPrefix 30 = .ok (.ifCond .eq 7, 3) := by decide +kernel
theorem dX11_isPrefix_33 : decode cX11_isPrefix 33 = .ok (.iconst 1, 1) := by decide +kernel
theorem dX11_isPrefix_34 : decode cX11_isPrefix 34 = .ok (.goto 4, 3) := by decide +kernel
theorem dX11_isPrefix_37 : decode cX11_isPrefix 37 = .ok (.iconst 0, 1) := by decide +kernel
theorem dX11_isPrefix_38 : decode cX11_isPrefix 38 = .ok (.ireturn, 1) := by decide +kernel
set_option maxRecDepth 20000 in
theorem ggX11_takesRest_X11_gone : GoodIn wsX11_takesRest wsX11_gone := goodIn_r _ [9, 10, 11, 12, 13, 14, 15, 16, 17, 18, 19, 20, 21, 22, 23, 24, 25, 26, 27, 28, 29, 30, 31, 32, 33, 34, 35, 36, 37, 38, 39, 40, 41, 42, 43, 44, 45, 46, 47, 48, 49, 50] (by decide +kernel) (by decide +kernel)
set_option maxRecDepth 20000 in
theorem gX11_takesRest_X11_gone : GoodIn wsX11_takesRest (wsV RX11 176 RX11 yX11_gone wsX11_gone) := goodIn_app (goodIn_of _ (by decide +kernel)) ggX11_takesRest_X11_gone
theorem dX11_takesRest_0 : decode cX11_takesRest 0 = .ok (.aload_n 0, 1) := by decide +kernel
theorem dX11_takesRest_1 : decode cX11_takesRest 1 = .ok (.iconst 0, 1) := by decide +kernel
theorem dX11_takesRest_2 : decode cX11_takesRest 2 = .ok (.putfield 135, 3) := by decide +kernel
theorem dX11_takesRest_5 : decode cX11_takesRest 5 = .ok (.iconst 0, 1) := by decide +kernel
theorem dX11_takesRest_6 : decode cX11_takesRest 6 = .ok (.istore_n 3, 1) := by decide +kernel
theorem dX11_takesRest_7 : decode cX11_takesRest 7 = .ok (.iload_n 3, 1) := by decide +kernel
theorem dX11_takesRest_8 : decode cX11_takesRest 8 = .ok (.bipush 6, 2) := by decide +kernel
theorem dX11_takesRest_10 : decode cX11_takesRest 10 = .ok (.if_icmp .ge 21, 3) := by decide +kernel
theorem dX11_takesRest_13 : decode cX11_takesRest 13 = .ok (.aload_n 0, 1) := by decide +kernel
theorem dX11_takesRest_14 : decode cX11_takesRest 14 = .ok (.getfield 39, 3) := by decide +kernel
theorem dX11_takesRest_17 : decode cX11_takesRest 17 = .ok (.iload_n 3, 1) := by decide +kernel
theorem dX11_takesRest_18 : decode cX11_takesRest 18 = .ok (.aload_n 0, 1) := by decide +kernel
theorem dX11_takesRest_19 : decode cX11_takesRest 19 = .ok (.iload_n 2, 1) := by decide +kernel
theorem dX11_takesRest_20 : decode cX11_takesRest 20 = .ok (.iload_n 3, 1) := by decide +kernel
theorem dX11_takesRest_21 : decode cX11_takesRest 21 = .ok (.invokevirtual 176, 3) := by decide +kernel
theorem dX11_takesRest_24 : decode cX11_takesRest 24 = .ok (.iastore, 1) := by decide +kernel
theorem dX11_takesRest_25 : decode cX11_takesRest 25 = .ok (.iinc 3 1, 3) := by decide +kernel
theorem dX11_takesRest_28 : decode cX11_takesRest 28 = .ok (.goto (-21), 3) := by decide +kernel
theorem dX11_takesRest_31 : decode cX11_takesRest 31 = .ok (.iconst 0, 1) := by decide +kernel
theorem dX11_takesRest_32 : decode cX11_takesRest 32 = .ok (.istore_n 3, 1) := by decide +kernel
theorem dX11_takesRest_33 : decode cX11_takesRest 33 = .ok (.iload_n 3, 1) := by decide +kernel
theorem dX11_takesRest_34 : decode cX11_takesRest 34 = .ok (.aload_n 0, 1) := by decide +kernel
theorem dX11_takesRest_35 : decode cX11_takesRest 35 = .ok (.getfield 7, 3) := by decide +kernel
theorem dX11_takesRest_38 : decode cX11_takesRest 38 = .ok (.bipush 7, 2) := by decide +kernel
theorem dX11_takesRest_40 : decode cX11_takesRest 40 = .ok (.iload_n 1, 1) := by decide +kernel
theorem dX11_takesRest_41 : decode cX11_takesRest 41 = .ok (.iadd, 1) := by decide +kernel
theorem dX11_takesRest_42 : decode cX11_takesRest 42 = .ok (.iaload, 1) := by decide +kernel
theorem dX11_takesRest_43 : decode cX11_takesRest 43 = .ok (.if_icmp .ge 70, 3) := by decide +kernel
theorem dX11_takesRest_46 : decode cX11_takesRest 46 = .ok (.aload_n 0, 1) := by decide +kernel
theorem dX11_takesRest_47 : decode cX11_takesRest 47 = .ok (.getfield 7, 3) := by decide +kernel
theorem dX11_takesRest_50 : decode cX11_takesRest 50 = .ok (.bipush 13, 2) := by decide +kernel
theorem dX11_takesRest_52 : decode cX11_takesRest 52 = .ok (.bipush 16, 2) := by decide +kernel
theorem dX11_takesRest_54 : decode cX11_takesRest 54 = .ok (.iload_n 1, 1) := by decide +kernel
theorem dX11_takesRest_55 : decode cX11_takesRest 55 = .ok (.imul, 1) := by decide +kernel
theorem dX11_takesRest_56 : decode cX11_takesRest 56 = .ok (.iadd, 1) := by decide +kernel
theorem dX11_takesRest_57 : decode cX11_takesRest 57 = .ok (.iload_n 3, 1) := by decide +kernel
theorem dX11_takesRest_58 : decode cX11_takesRest 58 = .ok (.iadd, 1) := by decide +kernel
theorem dX11_takesRest_59 : decode cX11_takesRest 59 = .ok (.iaload, 1) := by decide +kernel
theorem dX11_takesRest_60 : decode cX11_takesRest 60 = .ok (.istore 4, 2) := by decide +kernel
theorem dX11_takesRest_62 : decode cX11_takesRest 62 = .ok (.aload_n 0, 1) := by decide +kernel
theorem dX11_takesRest_63 : decode cX11_takesRest 63 = .ok (.getfield 39, 3) := by decide +kernel
theorem dX11_takesRest_66 : decode cX11_takesRest 66 = .ok (.iload 4, 2) := by decide +kernel
theorem dX11_takesRest_68 : decode cX11_takesRest 68 = .ok (.iaload, 1) := by decide +kernel
theorem dX11_takesRest_69 : decode cX11_takesRest 69 = .ok (.ifCond .le 17, 3) := by decide +kernel
theorem dX11_takesRest_72 : decode cX11_takesRest 72 = .ok (.aload_n 0, 1) := by decide +kernel
theorem dX11_takesRest_73 : decode cX11_takesRest 73 = .ok (.getfield 39, 3) := by decide +kernel
theorem dX11_takesRest_76 : decode cX11_takesRest 76 = .ok (.iload 4, 2) := by decide +kernel
theorem dX11_takesRest_78 : decode cX11_takesRest 78 = .ok (.dup2, 1) := by decide +kernel
theorem dX11_takesRest_79 : decode cX11_takesRest 79 = .ok (.iaload, 1) := by decide +kernel
theorem dX11_takesRest_80 : decode cX11_takesRest 80 = .ok (.iconst 1, 1) := by decide +kernel
theorem dX11_takesRest_81 : decode cX11_takesRest 81 = .ok (.isub, 1) := by decide +kernel
theorem dX11_takesRest_82 : decode cX11_takesRest 82 = .ok (.iastore, 1) := by decide +kernel
theorem dX11_takesRest_83 : decode cX11_takesRest 83 = .ok (.goto 24, 3) := by decide +kernel
theorem dX11_takesRest_86 : decode cX11_takesRest 86 = .ok (.aload_n 0, 1) := by decide +kernel
theorem dX11_takesRest_87 : decode cX11_takesRest 87 = .ok (.getfield 30, 3) := by decide +kernel
theorem dX11_takesRest_90 : decode cX11_takesRest 90 = .ok (.aload_n 0, 1) := by decide +kernel
theorem dX11_takesRest_91 : decode cX11_takesRest 91 = .ok (.getfield 135, 3) := by decide +kernel
theorem dX11_takesRest_94 : decode cX11_takesRest 94 = .ok (.iload 4, 2) := by decide +kernel
theorem dX11_takesRest_96 : decode cX11_takesRest 96 = .ok (.iastore, 1) := by decide +kernel
theorem dX11_takesRest_97 : decode cX11_takesRest 97 = .ok (.aload_n 0, 1) := by decide +kernel
theorem dX11_takesRest_98 : decode cX11_takesRest 98 = .ok (.dup, 1) := by decide +kernel
theorem dX11_takesRest_99 : decode cX11_takesRest 99 = .ok (.getfield 135, 3) := by decide +kernel
theorem dX11_takesRest_102 : decode cX11_takesRest 102 = .ok (.iconst 1, 1) := by decide +kernel
theorem dX11_takesRest_103 : decode cX11_takesRest 103 = .ok (.iadd, 1) := by decide +kernel
theorem dX11_takesRest_104 : decode cX11_takesRest 104 = .ok (.putfield 135, 3) := by decide +kernel
theorem dX11_takesRest_107 : decode cX11_takesRest 107 = .ok (.iinc 3 1, 3) := by decide +kernel
theorem dX11_takesRest_110 : decode cX11_takesRest 110 = .ok (.goto (-77), 3) := by decide +kernel
theorem dX11_takesRest_113 : decode cX11_takesRest 113 = .ok (.return_, 1) := by decide +kernel
set_option maxRecDepth 20000 in
theorem ggX11_isFactor_X11_isWord : GoodIn wsX11_isFactor wsX11_isWord := goodIn_r _ [8, 9, 10, 7, 11] (by decide +kernel) (by decide +kernel)
set_option maxRecDepth 20000 in
theorem gX11_isFactor_X11_isWord : GoodIn wsX11_isFactor (va_wsS RX11 156 yX11_isWord wsX11_isWord) := goodIn_app (goodIn_of _ (by decide +kernel)) ggX11_isFactor_X11_isWord
set_option maxRecDepth 20000 in
theorem ggX11_isFactor_X11_takesOne : GoodIn wsX11_isFactor wsX11_takesOne := goodIn_r _ [15, 3, 16, 17, 60, 61, 62, 63, 64, 65, 66, 67, 68, 69, 70, 71, 72, 73, 74, 75, 76, 77, 78, 79, 80, 81, 82, 83, 84, 85, 86, 87, 88, 89, 90, 91, 92, 93, 94, 95, 96, 97, 98] (by decide +kernel) (by decide +kernel)
set_option maxRecDepth 20000 in
theorem gX11_isFactor_X11_takesOne : GoodIn wsX11_isFactor (wsV RX11 159 RX11 yX11_takesOne wsX11_takesOne) := goodIn_app (goodIn_of _ (by decide +kernel)) ggX11_isFactor_X11_takesOne
set_option maxRecDepth 20000 in
theorem ggX11_isFactor_X11_findBeginnings : GoodIn wsX11_isFactor wsX11_findBeginnings := goodIn_r _ [21, 22, 16, 17, 23, 1, 4, 60, 61, 62, 63, 64, 65, 66, 67, 68, 69, 70, 71, 72, 73, 74, 75, 76, 77, 78, 79, 80, 81, 82, 83, 84, 85, 86, 87, 88, 89, 90, 91, 92, 93, 94, 95, 96, 97, 98] (by decide +kernel) (by decide +kernel)
set_option maxRecDepth 20000 in
theorem gX11_isFactor_X11_findBeginnings : GoodIn wsX11_isFactor (wsV RX11 180 RX11 yX11_findBeginnings wsX11_findBeginnings) := goodIn_app (goodIn_of _ (by decide +kernel)) ggX11_isFactor_X11_findBeginnings
set_option maxRecDepth 20000 in
theorem ggX11_isFactor_X11_canCome : GoodIn wsX11_isFactor wsX11_canCome := goodIn_r _ [27, 22, 3, 23, 28, 29, 30, 7, 31, 4, 32, 33, 34, 35, 60, 61, 62, 63, 64, 65, 66, 67, 68, 69, 70, 71, 72, 73, 74, 75, 76, 77, 78, 79, 80, 81, 82, 83, 84, 85, 86, 87, 88, 89, 90, 91, 92, 93, 94, 95, 96, 97, 98] (by decide +kernel) (by decide +kernel)
set_option maxRecDepth 20000 in
theorem gX11_isFactor_X11_canCome : GoodIn wsX11_isFactor (wsV RX11 183 RX11 yX11_canCome wsX11_canCome) := goodIn_app (goodIn_of _ (by decide +kernel)) ggX11_isFactor_X11_canCome
set_option maxRecDepth 20000 in
theorem ggX11_isFactor_X11_takesRest : GoodIn wsX11_isFactor wsX11_takesRest := goodIn_r _ [39, 40, 41, 3, 42, 28, 29, 30, 7, 31, 4, 22, 60, 61, 62, 63, 64, 65, 66, 67, 68, 69, 70, 71, 72, 73, 74, 75, 76, 77, 78, 79, 80, 81, 82, 83, 84, 85, 86, 87, 88, 89, 90, 91, 92, 93, 94, 95, 96, 97, 98] (by decide +kernel) (by decide +kernel)
set_option maxRecDepth 20000 in
theorem gX11_isFactor_X11_takesRest : GoodIn wsX11_isFactor (wsV RX11 207 RX11 yX11_takesRest wsX11_takesRest) := goodIn_app (goodIn_of _ (by decide +kernel)) ggX11_isFactor_X11_takesRest
set_option maxRecDepth 20000 in
theorem ggX11_isFactor_X11_divides : GoodIn wsX11_isFactor wsX11_divides := goodIn_r _ [46, 40, 16, 42, 17, 47, 48, 49, 50, 7, 51, 52, 53, 54, 55, 56, 57, 58, 59, 32, 33, 34, 35, 3, 60, 61, 62, 63, 64, 65, 66, 67, 68, 69, 70, 71, 72, 73, 74, 75, 76, 77, 78, 79, 80, 81, 82, 83, 84, 85, 86, 87, 88, 89, 90, 91, 92, 93, 94, 95, 96, 97, 98] (by decide +kernel) (by decide +kernel)
set_option maxRecDepth 20000 in
theorem gX11_isFactor_X11_divides : GoodIn wsX11_isFactor (wsV RX11 152 RX11 yX11_divides wsX11_divides) := goodIn_app (goodIn_of _ (by decide +kernel)) ggX11_isFactor_X11_divides
theorem dX11_isFactor_0 : decode cX11_isFactor 0 = .ok (.iload_n 1, 1) := by decide +kernel
theorem dX11_isFactor_1 : decode cX11_isFactor 1 = .ok (.invokestatic 156, 3) := by decide +kernel
theorem dX11_isFactor_4 : decode cX11_isFactor 4 = .ok (.ifCond .eq 10, 3) := by decide +kernel
theorem dX11_isFactor_7 : decode cX11_isFactor 7 = .ok (.iload_n 2, 1) := by decide +kernel
theorem dX11_isFactor_8 : decode cX11_isFactor 8 = .ok (.invokestatic 156, 3) := by decide +kernel
theorem dX11_isFactor_11 : decode cX11_isFactor 11 = .ok (.ifCond .ne 5, 3) := by decide +kernel
theorem dX11_isFactor_14 : decode cX11_isFactor 14 = .ok (.iconst (-1), 1) := by decide +kernel
theorem dX11_isFactor_15 : decode cX11_isFactor 15 = .ok (.ireturn, 1) := by decide +kernel
theorem dX11_isFactor_16 : decode cX11_isFactor 16 = .ok (.aload_n 0, 1) := by decide +kernel
theorem dX11_isFactor_17 : decode cX11_isFactor 17 = .ok (.iload_n 2, 1) := by decide +kernel
theorem dX11_isFactor_18 : decode cX11_isFactor 18 = .ok (.invokevirtual 159, 3) := by decide +kernel
theorem dX11_isFactor_21 : decode cX11_isFactor 21 = .ok (.aload_n 0, 1) := by decide +kernel
theorem dX11_isFactor_22 : decode cX11_isFactor 22 = .ok (.invokevirtual 180, 3) := by decide +kernel
theorem dX11_isFactor_25 : decode cX11_isFactor 25 = .ok (.iconst 0, 1) := by decide +kernel
theorem dX11_isFactor_26 : decode cX11_isFactor 26 = .ok (.istore_n 3, 1) := by decide +kernel
theorem dX11_isFactor_27 : decode cX11_isFactor 27 = .ok (.iload_n 3, 1) := by decide +kernel
theorem dX11_isFactor_28 : decode cX11_isFactor 28 = .ok (.aload_n 0, 1) := by decide +kernel
theorem dX11_isFactor_29 : decode cX11_isFactor 29 = .ok (.getfield 173, 3) := by decide +kernel
theorem dX11_isFactor_32 : decode cX11_isFactor 32 = .ok (.if_icmp .ge 24, 3) := by decide +kernel
theorem dX11_isFactor_35 : decode cX11_isFactor 35 = .ok (.aload_n 0, 1) := by decide +kernel
theorem dX11_isFactor_36 : decode cX11_isFactor 36 = .ok (.getfield 54, 3) := by decide +kernel
theorem dX11_isFactor_39 : decode cX11_isFactor 39 = .ok (.iload_n 3, 1) := by decide +kernel
theorem dX11_isFactor_40 : decode cX11_isFactor 40 = .ok (.iload_n 3, 1) := by decide +kernel
theorem dX11_isFactor_41 : decode cX11_isFactor 41 = .ok (.ifCond .ne 7, 3) := by decide +kernel
theorem dX11_isFactor_44 : decode cX11_isFactor 44 = .ok (.iconst 1, 1) := by decide +kernel
theorem dX11_isFactor_45 : decode cX11_isFactor 45 = .ok (.goto 4, 3) := by decide +kernel
theorem dX11_isFactor_48 : decode cX11_isFactor 48 = .ok (.iconst 0, 1) := by decide +kernel
theorem dX11_isFactor_49 : decode cX11_isFactor 49 = .ok (.bastore, 1) := by decide +kernel
theorem dX11_isFactor_50 : decode cX11_isFactor 50 = .ok (.iinc 3 1, 3) := by decide +kernel
theorem dX11_isFactor_53 : decode cX11_isFactor 53 = .ok (.goto (-26), 3) := by decide +kernel
theorem dX11_isFactor_56 : decode cX11_isFactor 56 = .ok (.aload_n 0, 1) := by decide +kernel
theorem dX11_isFactor_57 : decode cX11_isFactor 57 = .ok (.iload_n 1, 1) := by decide +kernel
theorem dX11_isFactor_58 : decode cX11_isFactor 58 = .ok (.invokevirtual 159, 3) := by decide +kernel
theorem dX11_isFactor_61 : decode cX11_isFactor 61 = .ok (.iconst 0, 1) := by decide +kernel
theorem dX11_isFactor_62 : decode cX11_isFactor 62 = .ok (.istore_n 3, 1) := by decide +kernel
theorem dX11_isFactor_63 : decode cX11_isFactor 63 = .ok (.iload_n 3, 1) := by decide +kernel
theorem dX11_isFactor_64 : decode cX11_isFactor 64 = .ok (.aload_n 0, 1) := by decide +kernel
theorem dX11_isFactor_65 : decode cX11_isFactor 65 = .ok (.getfield 173, 3) := by decide +kernel
theorem dX11_isFactor_68 : decode cX11_isFactor 68 = .ok (.if_icmp .ge 87, 3) := by decide +kernel
theorem dX11_isFactor_71 : decode cX11_isFactor 71 = .ok (.iconst 0, 1) := by decide +kernel
theorem dX11_isFactor_72 : decode cX11_isFactor 72 = .ok (.istore 4, 2) := by decide +kernel
theorem dX11_isFactor_74 : decode cX11_isFactor 74 = .ok (.iload 4, 2) := by decide +kernel
theorem dX11_isFactor_76 : decode cX11_isFactor 76 = .ok (.aload_n 0, 1) := by decide +kernel
theorem dX11_isFactor_77 : decode cX11_isFactor 77 = .ok (.getfield 7, 3) := by decide +kernel
theorem dX11_isFactor_80 : decode cX11_isFactor 80 = .ok (.iconst 0, 1) := by decide +kernel
theorem dX11_isFactor_81 : decode cX11_isFactor 81 = .ok (.iaload, 1) := by decide +kernel
theorem dX11_isFactor_82 : decode cX11_isFactor 82 = .ok (.if_icmp .ge 43, 3) := by decide +kernel
theorem dX11_isFactor_85 : decode cX11_isFactor 85 = .ok (.aload_n 0, 1) := by decide +kernel
theorem dX11_isFactor_86 : decode cX11_isFactor 86 = .ok (.getfield 54, 3) := by decide +kernel
theorem dX11_isFactor_89 : decode cX11_isFactor 89 = .ok (.iload_n 3, 1) := by decide +kernel
theorem dX11_isFactor_90 : decode cX11_isFactor 90 = .ok (.baload, 1) := by decide +kernel
theorem dX11_isFactor_91 : decode cX11_isFactor 91 = .ok (.ifCond .eq 34, 3) := by decide +kernel
theorem dX11_isFactor_94 : decode cX11_isFactor 94 = .ok (.aload_n 0, 1) := by decide +kernel
theorem dX11_isFactor_95 : decode cX11_isFactor 95 = .ok (.iload_n 3, 1) := by decide +kernel
theorem dX11_isFactor_96 : decode cX11_isFactor 96 = .ok (.iload 4, 2) := by decide +kernel
theorem dX11_isFactor_98 : decode cX11_isFactor 98 = .ok (.invokevirtual 183, 3) := by decide +kernel
theorem dX11_isFactor_101 : decode cX11_isFactor 101 = .ok (.ifCond .eq 18, 3) := by decide +kernel
theorem dX11_isFactor_104 : decode cX11_isFactor 104 = .ok (.aload_n 0, 1) := by decide +kernel
theorem dX11_isFactor_105 : decode cX11_isFactor 105 = .ok (.getfield 54, 3) := by decide +kernel
theorem dX11_isFactor_108 : decode cX11_isFactor 108 = .ok (.iload_n 3, 1) := by decide +kernel
theorem dX11_isFactor_109 : decode cX11_isFactor 109 = .ok (.aload_n 0, 1) := by decide +kernel
theorem dX11_isFactor_110 : decode cX11_isFactor 110 = .ok (.getfield 45, 3) := by decide +kernel
theorem dX11_isFactor_113 : decode cX11_isFactor 113 = .ok (.iload 4, 2) := by decide +kernel
theorem dX11_isFactor_115 : decode cX11_isFactor 115 = .ok (.iaload, 1) := by decide +kernel
theorem dX11_isFactor_116 : decode cX11_isFactor 116 = .ok (.iadd, 1) := by decide +kernel
theorem dX11_isFactor_117 : decode cX11_isFactor 117 = .ok (.iconst 1, 1) := by decide +kernel
theorem dX11_isFactor_118 : decode cX11_isFactor 118 = .ok (.bastore, 1) := by decide +kernel
theorem dX11_isFactor_119 : decode cX11_isFactor 119 = .ok (.iinc 4 1, 3) := by decide +kernel
theorem dX11_isFactor_122 : decode cX11_isFactor 122 = .ok (.goto (-48), 3) := by decide +kernel
theorem dX11_isFactor_125 : decode cX11_isFactor 125 = .ok (.aload_n 0, 1) := by decide +kernel
theorem dX11_isFactor_126 : decode cX11_isFactor 126 = .ok (.getfield 54, 3) := by decide +kernel
theorem dX11_isFactor_129 : decode cX11_isFactor 129 = .ok (.iload_n 3, 1) := by decide +kernel
theorem dX11_isFactor_130 : decode cX11_isFactor 130 = .ok (.baload, 1) := by decide +kernel
theorem dX11_isFactor_131 : decode cX11_isFactor 131 = .ok (.ifCond .eq 18, 3) := by decide +kernel
theorem dX11_isFactor_134 : decode cX11_isFactor 134 = .ok (.aload_n 0, 1) := by decide +kernel
theorem dX11_isFactor_135 : decode cX11_isFactor 135 = .ok (.iload_n 2, 1) := by decide +kernel
theorem dX11_isFactor_136 : decode cX11_isFactor 136 = .ok (.iload_n 3, 1) := by decide +kernel
theorem dX11_isFactor_137 : decode cX11_isFactor 137 = .ok (.invokevirtual 207, 3) := by decide +kernel
theorem dX11_isFactor_140 : decode cX11_isFactor 140 = .ok (.aload_n 0, 1) := by decide +kernel
theorem dX11_isFactor_141 : decode cX11_isFactor 141 = .ok (.invokevirtual 152, 3) := by decide +kernel
theorem dX11_isFactor_144 : decode cX11_isFactor 144 = .ok (.ifCond .eq 5, 3) := by decide +kernel
theorem dX11_isFactor_147 : decode cX11_isFactor 147 = .ok (.iconst 1, 1) := by decide +kernel
theorem dX11_isFactor_148 : decode cX11_isFactor 148 = .ok (.ireturn, 1) := by decide +kernel
theorem dX11_isFactor_149 : decode cX11_isFactor 149 = .ok (.iinc 3 1, 3) := by decide +kernel
theorem dX11_isFactor_152 : decode cX11_isFactor 152 = .ok (.goto (-89), 3) := by decide +kernel
theorem dX11_isFactor_155 : decode cX11_isFactor 155 = .ok (.iconst 0, 1) := by decide +kernel
theorem dX11_isFactor_156 : decode cX11_isFactor 156 = .ok (.ireturn, 1) := by decide +kernel
set_option maxRecDepth 20000 in
theorem ggX11_isPower_X11_takesOther : GoodIn wsX11_isPower wsX11_takesOther := goodIn_r _ [10, 11, 2, 3, 37, 38, 39, 40, 41, 42, 43, 44, 45, 46, 47, 48, 49, 50, 51, 52, 53, 54, 55, 56, 57, 58, 59, 60, 61, 62, 63, 64, 65, 66, 67, 68, 69, 70, 71, 72, 73, 74, 75] (by decide +kernel) (by decide +kernel)
set_option maxRecDepth 20000 in
theorem gX11_isPower_X11_takesOther : GoodIn wsX11_isPower (wsV RX11 195 RX11 yX11_takesOther wsX11_takesOther) := goodIn_app (goodIn_of _ (by decide +kernel)) ggX11_isPower_X11_takesOther
set_option maxRecDepth 20000 in
theorem ggX11_isPower_X11_areAlike : GoodIn wsX11_isPower wsX11_areAlike := goodIn_r _ [15, 4, 2, 16, 17, 18, 9, 19, 3, 5, 20, 21, 22, 23, 24, 25, 26, 27, 28, 29, 30, 31, 32, 33, 34, 35, 36, 11, 37, 38, 39, 40, 41, 42, 43, 44, 45, 46, 47, 48, 49, 50, 51, 52, 53, 54, 55, 56, 57, 58, 59, 60, 61, 62, 63, 64, 65, 66, 67, 68, 69, 70, 71, 72, 73, 74, 75] (by decide +kernel) (by decide +kernel)
set_option maxRecDepth 20000 in
theorem gX11_isPower_X11_areAlike : GoodIn wsX11_isPower (wsV RX11 198 RX11 yX11_areAlike wsX11_areAlike) := goodIn_app (goodIn_of _ (by decide +kernel)) ggX11_isPower_X11_areAlike
theorem dX11_isPower_0 : decode cX11_isPower 0 = .ok (.aload_n 0, 1) := by decide +kernel
theorem dX11_isPower_1 : decode cX11_isPower 1 = .ok (.iload_n 1, 1) := by decide +kernel
theorem dX11_isPower_2 : decode cX11_isPower 2 = .ok (.invokevirtual 195, 3) := by decide +kernel
theorem dX11_isPower_5 : decode cX11_isPower 5 = .ok (.iconst 0, 1) := by decide +kernel
theorem dX11_isPower_6 : decode cX11_isPower 6 = .ok (.istore_n 3, 1) := by decide +kernel
theorem dX11_isPower_7 : decode cX11_isPower 7 = .ok (.iload_n 3, 1) := by decide +kernel
theorem dX11_isPower_8 : decode cX11_isPower 8 = .ok (.bipush 6, 2) := by decide +kernel
theorem dX11_isPower_10 : decode cX11_isPower 10 = .ok (.if_icmp .ge 16, 3) := by decide +kernel
theorem dX11_isPower_13 : decode cX11_isPower 13 = .ok (.aload_n 0, 1) := by decide +kernel
theorem dX11_isPower_14 : decode cX11_isPower 14 = .ok (.getfield 39, 3) := by decide +kernel
theorem dX11_isPower_17 : decode cX11_isPower 17 = .ok (.iload_n 3, 1) := by decide +kernel
theorem dX11_isPower_18 : decode cX11_isPower 18 = .ok (.iconst 0, 1) := by decide +kernel
theorem dX11_isPower_19 : decode cX11_isPower 19 = .ok (.iastore, 1) := by decide +kernel
theorem dX11_isPower_20 : decode cX11_isPower 20 = .ok (.iinc 3 1, 3) := by decide +kernel
theorem dX11_isPower_23 : decode cX11_isPower 23 = .ok (.goto (-16), 3) := by decide +kernel
theorem dX11_isPower_26 : decode cX11_isPower 26 = .ok (.iconst 0, 1) := by decide +kernel
theorem dX11_isPower_27 : decode cX11_isPower 27 = .ok (.istore_n 3, 1) := by decide +kernel
theorem dX11_isPower_28 : decode cX11_isPower 28 = .ok (.iload_n 3, 1) := by decide +kernel
theorem dX11_isPower_29 : decode cX11_isPower 29 = .ok (.aload_n 0, 1) := by decide +kernel
theorem dX11_isPower_30 : decode cX11_isPower 30 = .ok (.getfield 135, 3) := by decide +kernel
theorem dX11_isPower_33 : decode cX11_isPower 33 = .ok (.if_icmp .ge 24, 3) := by decide +kernel
theorem dX11_isPower_36 : decode cX11_isPower 36 = .ok (.aload_n 0, 1) := by decide +kernel
theorem dX11_isPower_37 : decode cX11_isPower 37 = .ok (.getfield 39, 3) := by decide +kernel
theorem dX11_isPower_40 : decode cX11_isPower 40 = .ok (.aload_n 0, 1) := by decide +kernel
theorem dX11_isPower_41 : decode cX11_isPower 41 = .ok (.getfield 30, 3) := by decide +kernel
theorem dX11_isPower_44 : decode cX11_isPower 44 = .ok (.iload_n 3, 1) := by decide +kernel
theorem dX11_isPower_45 : decode cX11_isPower 45 = .ok (.iaload, 1) := by decide +kernel
theorem dX11_isPower_46 : decode cX11_isPower 46 = .ok (.dup2, 1) := by decide +kernel
theorem dX11_isPower_47 : decode cX11_isPower 47 = .ok (.iaload, 1) := by decide +kernel
theorem dX11_isPower_48 : decode cX11_isPower 48 = .ok (.iconst 1, 1) := by decide +kernel
theorem dX11_isPower_49 : decode cX11_isPower 49 = .ok (.iadd, 1) := by decide +kernel
theorem dX11_isPower_50 : decode cX11_isPower 50 = .ok (.iastore, 1) := by decide +kernel
theorem dX11_isPower_51 : decode cX11_isPower 51 = .ok (.iinc 3 1, 3) := by decide +kernel
theorem dX11_isPower_54 : decode cX11_isPower 54 = .ok (.goto (-26), 3) := by decide +kernel
theorem dX11_isPower_57 : decode cX11_isPower 57 = .ok (.iconst 0, 1) := by decide +kernel
theorem dX11_isPower_58 : decode cX11_isPower 58 = .ok (.istore_n 3, 1) := by decide +kernel
theorem dX11_isPower_59 : decode cX11_isPower 59 = .ok (.iload_n 3, 1) := by decide +kernel
theorem dX11_isPower_60 : decode cX11_isPower 60 = .ok (.bipush 6, 2) := by decide +kernel
theorem dX11_isPower_62 : decode cX11_isPower 62 = .ok (.if_icmp .ge 32, 3) := by decide +kernel
theorem dX11_isPower_65 : decode cX11_isPower 65 = .ok (.aload_n 0, 1) := by decide +kernel
theorem dX11_isPower_66 : decode cX11_isPower 66 = .ok (.getfield 39, 3) := by decide +kernel
theorem dX11_isPower_69 : decode cX11_isPower 69 = .ok (.iload_n 3, 1) := by decide +kernel
theorem dX11_isPower_70 : decode cX11_isPower 70 = .ok (.iaload, 1) := by decide +kernel
theorem dX11_isPower_71 : decode cX11_isPower 71 = .ok (.iload_n 2, 1) := by decide +kernel
theorem dX11_isPower_72 : decode cX11_isPower 72 = .ok (.irem, 1) := by decide +kernel
theorem dX11_isPower_73 : decode cX11_isPower 73 = .ok (.ifCond .eq 5, 3) := by decide +kernel
theorem dX11_isPower_76 : decode cX11_isPower 76 = .ok (.iconst 0, 1) := by decide +kernel
theorem dX11_isPower_77 : decode cX11_isPower 77 = .ok (.ireturn, 1) := by decide +kernel
theorem dX11_isPower_78 : decode cX11_isPower 78 = .ok (.aload_n 0, 1) := by decide +kernel
theorem dX11_isPower_79 : decode cX11_isPower 79 = .ok (.getfield 39, 3) := by decide +kernel
theorem dX11_isPower_82 : decode cX11_isPower 82 = .ok (.iload_n 3, 1) := by decide +kernel
theorem dX11_isPower_83 : decode cX11_isPower 83 = .ok (.dup2, 1) := by decide +kernel
theorem dX11_isPower_84 : decode cX11_isPower 84 = .ok (.iaload, 1) := by decide +kernel
theorem dX11_isPower_85 : decode cX11_isPower 85 = .ok (.iload_n 2, 1) := by decide +kernel
theorem dX11_isPower_86 : decode cX11_isPower 86 = .ok (.idiv, 1) := by decide +kernel
theorem dX11_isPower_87 : decode cX11_isPower 87 = .ok (.iastore, 1) := by decide +kernel
theorem dX11_isPower_88 : decode cX11_isPower 88 = .ok (.iinc 3 1, 3) := by decide +kernel
theorem dX11_isPower_91 : decode cX11_isPower 91 = .ok (.goto (-32), 3) := by decide +kernel
theorem dX11_isPower_94 : decode cX11_isPower 94 = .ok (.aload_n 0, 1) := by decide +kernel
theorem dX11_isPower_95 : decode cX11_isPower 95 = .ok (.iconst 0, 1) := by decide +kernel
theorem dX11_isPower_96 : decode cX11_isPower 96 = .ok (.putfield 131, 3) := by decide +kernel
theorem dX11_isPower_99 : decode cX11_isPower 99 = .ok (.iconst 0, 1) := by decide +kernel
theorem dX11_isPower_100 : decode cX11_isPower 100 = .ok (.istore_n 3, 1) := by decide +kernel
theorem dX11_isPower_101 : decode cX11_isPower 101 = .ok (.iload_n 3, 1) := by decide +kernel
theorem dX11_isPower_102 : decode cX11_isPower 102 = .ok (.aload_n 0, 1) := by decide +kernel
theorem dX11_isPower_103 : decode cX11_isPower 103 = .ok (.getfield 135, 3) := by decide +kernel
theorem dX11_isPower_106 : decode cX11_isPower 106 = .ok (.if_icmp .ge 63, 3) := by decide +kernel
theorem dX11_isPower_109 : decode cX11_isPower 109 = .ok (.aload_n 0, 1) := by decide +kernel
theorem dX11_isPower_110 : decode cX11_isPower 110 = .ok (.getfield 39, 3) := by decide +kernel
theorem dX11_isPower_113 : decode cX11_isPower 113 = .ok (.aload_n 0, 1) := by decide +kernel
theorem dX11_isPower_114 : decode cX11_isPower 114 = .ok (.getfield 30, 3) := by decide +kernel
theorem dX11_isPower_117 : decode cX11_isPower 117 = .ok (.iload_n 3, 1) := by decide +kernel
theorem dX11_isPower_118 : decode cX11_isPower 118 = .ok (.iaload, 1) := by decide +kernel
theorem dX11_isPower_119 : decode cX11_isPower 119 = .ok (.iaload, 1) := by decide +kernel
theorem dX11_isPower_120 : decode cX11_isPower 120 = .ok (.ifCond .le 43, 3) := by decide +kernel
theorem dX11_isPower_123 : decode cX11_isPower 123 = .ok (.aload_n 0, 1) := by decide +kernel
theorem dX11_isPower_124 : decode cX11_isPower 124 = .ok (.getfield 39, 3) := by decide +kernel
theorem dX11_isPower_127 : decode cX11_isPower 127 = .ok (.aload_n 0, 1) := by decide +kernel
theorem dX11_isPower_128 : decode cX11_isPower 128 = .ok (.getfield 30, 3) := by decide +kernel
theorem dX11_isPower_131 : decode cX11_isPower 131 = .ok (.iload_n 3, 1) := by decide +kernel
theorem dX11_isPower_132 : decode cX11_isPower 132 = .ok (.iaload, 1) := by decide +kernel
theorem dX11_isPower_133 : decode cX11_isPower 133 = .ok (.dup2, 1) := by decide +kernel
theorem dX11_isPower_134 : decode cX11_isPower 134 = .ok (.iaload, 1) := by decide +kernel
theorem dX11_isPower_135 : decode cX11_isPower 135 = .ok (.iconst 1, 1) := by decide +kernel
theorem dX11_isPower_136 : decode cX11_isPower 136 = .ok (.isub, 1) := by decide +kernel
theorem dX11_isPower_137 : decode cX11_isPower 137 = .ok (.iastore, 1) := by decide +kernel
theorem dX11_isPower_138 : decode cX11_isPower 138 = .ok (.aload_n 0, 1) := by decide +kernel
theorem dX11_isPower_139 : decode cX11_isPower 139 = .ok (.getfield 27, 3) := by decide +kernel
theorem dX11_isPower_142 : decode cX11_isPower 142 = .ok (.aload_n 0, 1) := by decide +kernel
theorem dX11_isPower_143 : decode cX11_isPower 143 = .ok (.getfield 131, 3) := by decide +kernel
theorem dX11_isPower_146 : decode cX11_isPower 146 = .ok (.aload_n 0, 1) := by decide +kernel
theorem dX11_isPower_147 : decode cX11_isPower 147 = .ok (.getfield 30, 3) := by decide +kernel
theorem dX11_isPower_150 : decode cX11_isPower 150 = .ok (.iload_n 3, 1) := by decide +kernel
theorem dX11_isPower_151 : decode cX11_isPower 151 = .ok (.iaload, 1) := by decide +kernel
theorem dX11_isPower_152 : decode cX11_isPower 152 = .ok (.iastore, 1) := by decide +kernel
theorem dX11_isPower_153 : decode cX11_isPower 153 = .ok (.aload_n 0, 1) := by decide +kernel
theorem dX11_isPower_154 : decode cX11_isPower 154 = .ok (.dup, 1) := by decide +kernel
theorem dX11_isPower_155 : decode cX11_isPower 155 = .ok (.getfield 131, 3) := by decide +kernel
theorem dX11_isPower_158 : decode cX11_isPower 158 = .ok (.iconst 1, 1) := by decide +kernel
theorem dX11_isPower_159 : decode cX11_isPower 159 = .ok (.iadd, 1) := by decide +kernel
theorem dX11_isPower_160 : decode cX11_isPower 160 = .ok (.putfield 131, 3) := by decide +kernel
theorem dX11_isPower_163 : decode cX11_isPower 163 = .ok (.iinc 3 1, 3) := by decide +kernel
theorem dX11_isPower_166 : decode cX11_isPower 166 = .ok (.goto (-65), 3) := by decide +kernel
theorem dX11_isPower_169 : decode cX11_isPower 169 = .ok (.aload_n 0, 1) := by decide +kernel
theorem dX11_isPower_170 : decode cX11_isPower 170 = .ok (.getfield 131, 3) := by decide +kernel
theorem dX11_isPower_173 : decode cX11_isPower 173 = .ok (.istore_n 3, 1) := by decide +kernel
theorem dX11_isPower_174 : decode cX11_isPower 174 = .ok (.iload_n 3, 1) := by decide +kernel
theorem dX11_isPower_175 : decode cX11_isPower 175 = .ok (.istore 4, 2) := by decide +kernel
theorem dX11_isPower_177 : decode cX11_isPower 177 = .ok (.iload 4, 2) := by decide +kernel
theorem dX11_isPower_179 : decode cX11_isPower 179 = .ok (.aload_n 0, 1) := by decide +kernel
theorem dX11_isPower_180 : decode cX11_isPower 180 = .ok (.getfield 135, 3) := by decide +kernel
theorem dX11_isPower_183 : decode cX11_isPower 183 = .ok (.if_icmp .ge 25, 3) := by decide +kernel
theorem dX11_isPower_186 : decode cX11_isPower 186 = .ok (.aload_n 0, 1) := by decide +kernel
theorem dX11_isPower_187 : decode cX11_isPower 187 = .ok (.getfield 27, 3) := by decide +kernel
theorem dX11_isPower_190 : decode cX11_isPower 190 = .ok (.iload 4, 2) := by decide +kernel
theorem dX11_isPower_192 : decode cX11_isPower 192 = .ok (.aload_n 0, 1) := by decide +kernel
theorem dX11_isPower_193 : decode cX11_isPower 193 = .ok (.getfield 27, 3) := by decide +kernel
theorem dX11_isPower_196 : decode cX11_isPower 196 = .ok (.iload 4, 2) := by decide +kernel
theorem dX11_isPower_198 : decode cX11_isPower 198 = .ok (.iload_n 3, 1) := by decide +kernel
theorem dX11_isPower_199 : decode cX11_isPower 199 = .ok (.isub, 1) := by decide +kernel
theorem dX11_isPower_200 : decode cX11_isPower 200 = .ok (.iaload, 1) := by decide +kernel
theorem dX11_isPower_201 : decode cX11_isPower 201 = .ok (.iastore, 1) := by decide +kernel
theorem dX11_isPower_202 : decode cX11_isPower 202 = .ok (.iinc 4 1, 3) := by decide +kernel
theorem dX11_isPower_205 : decode cX11_isPower 205 = .ok (.goto (-28), 3) := by decide +kernel
theorem dX11_isPower_208 : decode cX11_isPower 208 = .ok (.aload_n 0, 1) := by decide +kernel
theorem dX11_isPower_209 : decode cX11_isPower 209 = .ok (.aload_n 0, 1) := by decide +kernel
theorem dX11_isPower_210 : decode cX11_isPower 210 = .ok (.getfield 135, 3) := by decide +kernel
theorem dX11_isPower_213 : decode cX11_isPower 213 = .ok (.putfield 131, 3) := by decide +kernel
theorem dX11_isPower_216 : decode cX11_isPower 216 = .ok (.aload_n 0, 1) := by decide +kernel
theorem dX11_isPower_217 : decode cX11_isPower 217 = .ok (.invokevirtual 198, 3) := by decide +kernel
theorem dX11_isPower_220 : decode cX11_isPower 220 = .ok (.istore 4, 2) := by decide +kernel
theorem dX11_isPower_222 : decode cX11_isPower 222 = .ok (.aload_n 0, 1) := by decide +kernel
theorem dX11_isPower_223 : decode cX11_isPower 223 = .ok (.iload_n 3, 1) := by decide +kernel
theorem dX11_isPower_224 : decode cX11_isPower 224 = .ok (.putfield 131, 3) := by decide +kernel
theorem dX11_isPower_227 : decode cX11_isPower 227 = .ok (.iload 4, 2) := by decide +kernel
theorem dX11_isPower_229 : decode cX11_isPower 229 = .ok (.ireturn, 1) := by decide +kernel
set_option maxRecDepth 20000 in
theorem ggX11_exponentOf_X11_isPower : GoodIn wsX11_exponentOf wsX11_isPower := goodIn_r _ [6, 7, 8, 9, 10, 11, 12, 13, 14, 5, 15, 1, 16, 17, 18, 19, 20, 21, 22, 23, 24, 25, 26, 27, 28, 29, 30, 31, 32, 33, 34, 35, 36, 37, 38, 39, 40, 41, 42, 43, 44, 45, 46, 47, 48, 49, 50, 51, 52, 53, 54, 55, 56, 57, 58, 59, 60, 61, 62, 63, 64, 65, 66, 67, 68, 69, 70, 71, 72, 73, 74, 75, 76, 77, 78, 79] (by decide +kernel) (by decide +kernel)
set_option maxRecDepth 20000 in
theorem gX11_exponentOf_X11_isPower : GoodIn wsX11_exponentOf (wsV RX11 211 RX11 yX11_isPower wsX11_isPower) := goodIn_app (goodIn_of _ (by decide +kernel)) ggX11_exponentOf_X11_isPower
theorem dX11_exponentOf_0 : decode cX11_exponentOf 0 = .ok (.aload_n 0, 1) := by decide +kernel
theorem dX11_exponentOf_1 : decode cX11_exponentOf 1 = .ok (.getfield 7, 3) := by decide +kernel
theorem dX11_exponentOf_4 : decode cX11_exponentOf 4 = .ok (.bipush 7, 2) := by decide +kernel
theorem dX11_exponentOf_6 : decode cX11_exponentOf 6 = .ok (.iload_n 1, 1) := by decide +kernel
theorem dX11_exponentOf_7 : decode cX11_exponentOf 7 = .ok (.iadd, 1) := by decide +kernel
theorem dX11_exponentOf_8 : decode cX11_exponentOf 8 = .ok (.iaload, 1) := by decide +kernel
theorem dX11_exponentOf_9 : decode cX11_exponentOf 9 = .ok (.istore_n 2, 1) := by decide +kernel
theorem dX11_exponentOf_10 : decode cX11_exponentOf 10 = .ok (.aload_n 0, 1) := by decide +kernel
theorem dX11_exponentOf_11 : decode cX11_exponentOf 11 = .ok (.iload_n 1, 1) := by decide +kernel
theorem dX11_exponentOf_12 : decode cX11_exponentOf 12 = .ok (.iload_n 2, 1) := by decide +kernel
theorem dX11_exponentOf_13 : decode cX11_exponentOf 13 = .ok (.invokevirtual 211, 3) := by decide +kernel
theorem dX11_exponentOf_16 : decode cX11_exponentOf 16 = .ok (.ifCond .ne 9, 3) := by decide +kernel
theorem dX11_exponentOf_19 : decode cX11_exponentOf 19 = .ok (.iinc 2 (-1), 3) := by decide +kernel
theorem dX11_exponentOf_22 : decode cX11_exponentOf 22 = .ok (.goto (-12), 3) := by decide +kernel
theorem dX11_exponentOf_25 : decode cX11_exponentOf 25 = .ok (.iload_n 2, 1) := by decide +kernel
theorem dX11_exponentOf_26 : decode cX11_exponentOf 26 = .ok (.ireturn, 1) := by decide +kernel
set_option maxRecDepth 20000 in
theorem ggX11_exponent_X11_isWord : GoodIn wsX11_exponent wsX11_isWord := goodIn_r _ [5, 6, 7, 4, 8] (by decide +kernel) (by decide +kernel)
set_option maxRecDepth 20000 in
theorem gX11_exponent_X11_isWord : GoodIn wsX11_exponent (va_wsS RX11 156 yX11_isWord wsX11_isWord) := goodIn_app (goodIn_of _ (by decide +kernel)) ggX11_exponent_X11_isWord
set_option maxRecDepth 20000 in
theorem ggX11_exponent_X11_exponentOf : GoodIn wsX11_exponent wsX11_exponentOf := goodIn_r _ [12, 1, 13, 14, 15, 4, 16, 17, 18, 19, 20, 21, 22, 23, 24, 25, 26, 27, 28, 29, 30, 31, 32, 33, 34, 35, 36, 37, 38, 39, 40, 41, 42, 43, 44, 45, 46, 47, 48, 49, 50, 51, 52, 53, 54, 55, 56, 57, 58, 59, 60, 61, 62, 63, 64, 65, 66, 67, 68, 69, 70, 71, 72, 73, 74, 75, 76, 77, 78, 79, 80, 81, 82, 83, 84, 85, 86, 87, 88, 89] (by decide +kernel) (by decide +kernel)
set_option maxRecDepth 20000 in
theorem gX11_exponent_X11_exponentOf : GoodIn wsX11_exponent (wsV RX11 214 RX11 yX11_exponentOf wsX11_exponentOf) := goodIn_app (goodIn_of _ (by decide +kernel)) ggX11_exponent_X11_exponentOf
theorem dX11_exponent_0 : decode cX11_exponent 0 = .ok (.iload_n 1, 1) := by decide +kernel
theorem dX11_exponent_1 : decode cX11_exponent 1 = .ok (.invokestatic 156, 3) := by decide +kernel
theorem dX11_exponent_4 : decode cX11_exponent 4 = .ok (.ifCond .ne 5, 3) := by decide +kernel
theorem dX11_exponent_7 : decode cX11_exponent 7 = .ok (.iconst (-1), 1) := by decide +kernel
theorem dX11_exponent_8 : decode cX11_exponent 8 = .ok (.ireturn, 1) := by decide +kernel
theorem dX11_exponent_9 : decode cX11_exponent 9 = .ok (.aload_n 0, 1) := by decide +kernel
theorem dX11_exponent_10 : decode cX11_exponent 10 = .ok (.getfield 7, 3) := by decide +kernel
theorem dX11_exponent_13 : decode cX11_exponent 13 = .ok (.bipush 7, 2) := by decide +kernel
theorem dX11_exponent_15 : decode cX11_exponent 15 = .ok (.iload_n 1, 1) := by decide +kernel
theorem dX11_exponent_16 : decode cX11_exponent 16 = .ok (.iadd, 1) := by decide +kernel
theorem dX11_exponent_17 : decode cX11_exponent 17 = .ok (.iaload, 1) := by decide +kernel
theorem dX11_exponent_18 : decode cX11_exponent 18 = .ok (.ifCond .ne 8, 3) := by decide +kernel
theorem dX11_exponent_21 : decode cX11_exponent 21 = .ok (.bipush (-3), 2) := by decide +kernel
theorem dX11_exponent_23 : decode cX11_exponent 23 = .ok (.goto 8, 3) := by decide +kernel
theorem dX11_exponent_26 : decode cX11_exponent 26 = .ok (.aload_n 0, 1) := by decide +kernel
theorem dX11_exponent_27 : decode cX11_exponent 27 = .ok (.iload_n 1, 1) := by decide +kernel
theorem dX11_exponent_28 : decode cX11_exponent 28 = .ok (.invokevirtual 214, 3) := by decide +kernel
theorem dX11_exponent_31 : decode cX11_exponent 31 = .ok (.ireturn, 1) := by decide +kernel
set_option maxRecDepth 20000 in
theorem ggX11_product_X11_isWord : GoodIn wsX11_product wsX11_isWord := goodIn_r _ [9, 10, 11, 8, 12] (by decide +kernel) (by decide +kernel)
set_option maxRecDepth 20000 in
theorem gX11_product_X11_isWord : GoodIn wsX11_product (va_wsS RX11 156 yX11_isWord wsX11_isWord) := goodIn_app (goodIn_of _ (by decide +kernel)) ggX11_product_X11_isWord
set_option maxRecDepth 20000 in
theorem ggX11_product_X11_takesOne : GoodIn wsX11_product wsX11_takesOne := goodIn_r _ [16, 1, 4, 3, 48, 49, 50, 51, 52, 53, 54, 55, 56, 57, 58, 59, 60, 61, 62, 63, 64, 65, 66, 67, 68, 69, 70, 71, 72, 73, 74, 75, 76, 77, 78, 79, 80, 81, 82, 83, 84, 85, 86] (by decide +kernel) (by decide +kernel)
set_option maxRecDepth 20000 in
theorem gX11_product_X11_takesOne : GoodIn wsX11_product (wsV RX11 159 RX11 yX11_takesOne wsX11_takesOne) := goodIn_app (goodIn_of _ (by decide +kernel)) ggX11_product_X11_takesOne
set_option maxRecDepth 20000 in
theorem ggX11_product_X11_takesOther : GoodIn wsX11_product wsX11_takesOther := goodIn_r _ [20, 1, 2, 5, 48, 49, 50, 51, 52, 53, 54, 55, 56, 57, 58, 59, 60, 61, 62, 63, 64, 65, 66, 67, 68, 69, 70, 71, 72, 73, 74, 75, 76, 77, 78, 79, 80, 81, 82, 83, 84, 85, 86] (by decide +kernel) (by decide +kernel)
set_option maxRecDepth 20000 in
theorem gX11_product_X11_takesOther : GoodIn wsX11_product (wsV RX11 195 RX11 yX11_takesOther wsX11_takesOther) := goodIn_app (goodIn_of _ (by decide +kernel)) ggX11_product_X11_takesOther
set_option maxRecDepth 20000 in
theorem ggX11_product_X11_normalizes : GoodIn wsX11_product wsX11_normalizes := goodIn_r _ [24, 25, 26, 27, 28, 29, 30, 8, 31, 32, 33, 34, 35, 36, 37, 38, 39, 40, 41, 42, 43, 1, 48, 49, 50, 51, 52, 53, 54, 55, 56, 57, 58, 59, 60, 61, 62, 63, 64, 65, 66, 67, 68, 69, 70, 71, 72, 73, 74, 75, 76, 77, 78, 79, 80, 81, 82, 83, 84, 85, 86] (by decide +kernel) (by decide +kernel)
set_option maxRecDepth 20000 in
theorem gX11_product_X11_normalizes : GoodIn wsX11_product (wsV RX11 162 RX11 yX11_normalizes wsX11_normalizes) := goodIn_app (goodIn_of _ (by decide +kernel)) ggX11_product_X11_normalizes
set_option maxRecDepth 20000 in
theorem ggX11_product_X11_stores : GoodIn wsX11_product wsX11_stores := goodIn_r _ [47, 1, 25, 27, 48, 49, 50, 51, 52, 53, 54, 55, 56, 57, 58, 59, 60, 61, 62, 63, 64, 65, 66, 67, 68, 69, 70, 71, 72, 73, 74, 75, 76, 77, 78, 79, 80, 81, 82, 83, 84, 85, 86] (by decide +kernel) (by decide +kernel)
set_option maxRecDepth 20000 in
theorem gX11_product_X11_stores : GoodIn wsX11_product (wsV RX11 217 RX11 yX11_stores wsX11_stores) := goodIn_app (goodIn_of _ (by decide +kernel)) ggX11_product_X11_stores
theorem dX11_product_0 : decode cX11_product 0 = .ok (.iload_n 1, 1) := by decide +kernel
theorem dX11_product_1 : decode cX11_product 1 = .ok (.invokestatic 156, 3) := by decide +kernel
theorem dX11_product_4 : decode cX11_product 4 = .ok (.ifCond .eq 17, 3) := by decide +kernel
theorem dX11_product_7 : decode cX11_product 7 = .ok (.iload_n 2, 1) := by decide +kernel
theorem dX11_product_8 : decode cX11_product 8 = .ok (.invokestatic 156, 3) := by decide +kernel
theorem dX11_product_11 : decode cX11_product 11 = .ok (.ifCond .eq 10, 3) := by decide +kernel
theorem dX11_product_14 : decode cX11_product 14 = .ok (.iload_n 3, 1) := by decide +kernel
theorem dX11_product_15 : decode cX11_product 15 = .ok (.invokestatic 156, 3) := by decide +kernel
theorem dX11_product_18 : decode cX11_product 18 = .ok (.ifCond .ne 5, 3) := by decide +kernel
theorem dX11_product_21 : decode cX11_product 21 = .ok (.iconst (-1), 1) := by decide +kernel
theorem dX11_product_22 : decode cX11_product 22 = .ok (.ireturn, 1) := by decide +kernel
theorem dX11_product_23 : decode cX11_product 23 = .ok (.aload_n 0, 1) := by decide +kernel
theorem dX11_product_24 : decode cX11_product 24 = .ok (.getfield 7, 3) := by decide +kernel
theorem dX11_product_27 : decode cX11_product 27 = .ok (.bipush 7, 2) := by decide +kernel
theorem dX11_product_29 : decode cX11_product 29 = .ok (.iload_n 1, 1) := by decide +kernel
theorem dX11_product_30 : decode cX11_product 30 = .ok (.iadd, 1) := by decide +kernel
theorem dX11_product_31 : decode cX11_product 31 = .ok (.iaload, 1) := by decide +kernel
theorem dX11_product_32 : decode cX11_product 32 = .ok (.aload_n 0, 1) := by decide +kernel
theorem dX11_product_33 : decode cX11_product 33 = .ok (.getfield 7, 3) := by decide +kernel
theorem dX11_product_36 : decode cX11_product 36 = .ok (.bipush 7, 2) := by decide +kernel
theorem dX11_product_38 : decode cX11_product 38 = .ok (.iload_n 2, 1) := by decide +kernel
theorem dX11_product_39 : decode cX11_product 39 = .ok (.iadd, 1) := by decide +kernel
theorem dX11_product_40 : decode cX11_product 40 = .ok (.iaload, 1) := by decide +kernel
theorem dX11_product_41 : decode cX11_product 41 = .ok (.iadd, 1) := by decide +kernel
theorem dX11_product_42 : decode cX11_product 42 = .ok (.bipush 16, 2) := by decide +kernel
theorem dX11_product_44 : decode cX11_product 44 = .ok (.if_icmp .le 6, 3) := by decide +kernel
theorem dX11_product_47 : decode cX11_product 47 = .ok (.bipush (-4), 2) := by decide +kernel
theorem dX11_product_49 : decode cX11_product 49 = .ok (.ireturn, 1) := by decide +kernel
theorem dX11_product_50 : decode cX11_product 50 = .ok (.aload_n 0, 1) := by decide +kernel
theorem dX11_product_51 : decode cX11_product 51 = .ok (.iload_n 1, 1) := by decide +kernel
theorem dX11_product_52 : decode cX11_product 52 = .ok (.invokevirtual 159, 3) := by decide +kernel
theorem dX11_product_55 : decode cX11_product 55 = .ok (.aload_n 0, 1) := by decide +kernel
theorem dX11_product_56 : decode cX11_product 56 = .ok (.iload_n 2, 1) := by decide +kernel
theorem dX11_product_57 : decode cX11_product 57 = .ok (.invokevirtual 195, 3) := by decide +kernel
theorem dX11_product_60 : decode cX11_product 60 = .ok (.iconst 0, 1) := by decide +kernel
theorem dX11_product_61 : decode cX11_product 61 = .ok (.istore 4, 2) := by decide +kernel
theorem dX11_product_63 : decode cX11_product 63 = .ok (.iload 4, 2) := by decide +kernel
theorem dX11_product_65 : decode cX11_product 65 = .ok (.aload_n 0, 1) := by decide +kernel
theorem dX11_product_66 : decode cX11_product 66 = .ok (.getfield 135, 3) := by decide +kernel
theorem dX11_product_69 : decode cX11_product 69 = .ok (.if_icmp .ge 28, 3) := by decide +kernel
theorem dX11_product_72 : decode cX11_product 72 = .ok (.aload_n 0, 1) := by decide +kernel
theorem dX11_product_73 : decode cX11_product 73 = .ok (.getfield 27, 3) := by decide +kernel
theorem dX11_product_76 : decode cX11_product 76 = .ok (.aload_n 0, 1) := by decide +kernel
theorem dX11_product_77 : decode cX11_product 77 = .ok (.getfield 131, 3) := by decide +kernel
theorem dX11_product_80 : decode cX11_product 80 = .ok (.iload 4, 2) := by decide +kernel
theorem dX11_product_82 : decode cX11_product 82 = .ok (.iadd, 1) := by decide +kernel
theorem dX11_product_83 : decode cX11_product 83 = .ok (.aload_n 0, 1) := by decide +kernel
theorem dX11_product_84 : decode cX11_product 84 = .ok (.getfield 30, 3) := by decide +kernel
theorem dX11_product_87 : decode cX11_product 87 = .ok (.iload 4, 2) := by decide +kernel
theorem dX11_product_89 : decode cX11_product 89 = .ok (.iaload, 1) := by decide +kernel
theorem dX11_product_90 : decode cX11_product 90 = .ok (.iastore, 1) := by decide +kernel
theorem dX11_product_91 : decode cX11_product 91 = .ok (.iinc 4 1, 3) := by decide +kernel
theorem dX11_product_94 : decode cX11_product 94 = .ok (.goto (-31), 3) := by decide +kernel
theorem dX11_product_97 : decode cX11_product 97 = .ok (.aload_n 0, 1) := by decide +kernel
theorem dX11_product_98 : decode cX11_product 98 = .ok (.aload_n 0, 1) := by decide +kernel
theorem dX11_product_99 : decode cX11_product 99 = .ok (.getfield 27, 3) := by decide +kernel
theorem dX11_product_102 : decode cX11_product 102 = .ok (.aload_n 0, 1) := by decide +kernel
theorem dX11_product_103 : decode cX11_product 103 = .ok (.getfield 131, 3) := by decide +kernel
theorem dX11_product_106 : decode cX11_product 106 = .ok (.aload_n 0, 1) := by decide +kernel
theorem dX11_product_107 : decode cX11_product 107 = .ok (.getfield 135, 3) := by decide +kernel
theorem dX11_product_110 : decode cX11_product 110 = .ok (.iadd, 1) := by decide +kernel
theorem dX11_product_111 : decode cX11_product 111 = .ok (.invokevirtual 162, 3) := by decide +kernel
theorem dX11_product_114 : decode cX11_product 114 = .ok (.aload_n 0, 1) := by decide +kernel
theorem dX11_product_115 : decode cX11_product 115 = .ok (.iload_n 3, 1) := by decide +kernel
theorem dX11_product_116 : decode cX11_product 116 = .ok (.invokevirtual 217, 3) := by decide +kernel
theorem dX11_product_119 : decode cX11_product 119 = .ok (.ireturn, 1) := by decide +kernel
set_option maxRecDepth 20000 in
theorem ggX11_quotient_X11_isWord : GoodIn wsX11_quotient wsX11_isWord := goodIn_r _ [6, 7, 8, 5, 9] (by decide +kernel) (by decide +kernel)
set_option maxRecDepth 20000 in
theorem gX11_quotient_X11_isWord : GoodIn wsX11_quotient (va_wsS RX11 156 yX11_isWord wsX11_isWord) := goodIn_app (goodIn_of _ (by decide +kernel)) ggX11_quotient_X11_isWord
set_option maxRecDepth 20000 in
theorem ggX11_quotient_X11_takesOne : GoodIn wsX11_quotient wsX11_takesOne := goodIn_r _ [13, 14, 15, 16, 52, 53, 54, 55, 56, 57, 58, 59, 60, 61, 62, 63, 64, 65, 66, 67, 68, 69, 70, 71, 72, 73, 74, 75, 76, 77, 78, 79, 80, 81, 82, 83, 84, 85, 86, 87, 88, 89, 90] (by decide +kernel) (by decide +kernel)
set_option maxRecDepth 20000 in
theorem gX11_quotient_X11_takesOne : GoodIn wsX11_quotient (wsV RX11 159 RX11 yX11_takesOne wsX11_takesOne) := goodIn_app (goodIn_of _ (by decide +kernel)) ggX11_quotient_X11_takesOne
set_option maxRecDepth 20000 in
theorem ggX11_quotient_X11_takesOther : GoodIn wsX11_quotient wsX11_takesOther := goodIn_r _ [20, 14, 2, 1, 52, 53, 54, 55, 56, 57, 58, 59, 60, 61, 62, 63, 64, 65, 66, 67, 68, 69, 70, 71, 72, 73, 74, 75, 76, 77, 78, 79, 80, 81, 82, 83, 84, 85, 86, 87, 88, 89, 90] (by decide +kernel) (by decide +kernel)
set_option maxRecDepth 20000 in
theorem gX11_quotient_X11_takesOther : GoodIn wsX11_quotient (wsV RX11 195 RX11 yX11_takesOther wsX11_takesOther) := goodIn_app (goodIn_of _ (by decide +kernel)) ggX11_quotient_X11_takesOther
set_option maxRecDepth 20000 in
theorem ggX11_quotient_X11_divides : GoodIn wsX11_quotient wsX11_divides := goodIn_r _ [24, 2, 15, 1, 16, 25, 26, 27, 28, 5, 29, 30, 31, 32, 33, 34, 35, 36, 37, 38, 39, 40, 41, 14, 52, 53, 54, 55, 56, 57, 58, 59, 60, 61, 62, 63, 64, 65, 66, 67, 68, 69, 70, 71, 72, 73, 74, 75, 76, 77, 78, 79, 80, 81, 82, 83, 84, 85, 86, 87, 88, 89, 90] (by decide +kernel) (by decide +kernel)
set_option maxRecDepth 20000 in
theorem gX11_quotient_X11_divides : GoodIn wsX11_quotient (wsV RX11 152 RX11 yX11_divides wsX11_divides) := goodIn_app (goodIn_of _ (by decide +kernel)) ggX11_quotient_X11_divides
set_option maxRecDepth 20000 in
theorem ggX11_quotient_X11_normalizes : GoodIn wsX11_quotient wsX11_normalizes := goodIn_r _ [45, 46, 25, 47, 26, 27, 28, 5, 29, 30, 31, 32, 33, 34, 35, 36, 37, 38, 39, 40, 41, 14, 52, 53, 54, 55, 56, 57, 58, 59, 60, 61, 62, 63, 64, 65, 66, 67, 68, 69, 70, 71, 72, 73, 74, 75, 76, 77, 78, 79, 80, 81, 82, 83, 84, 85, 86, 87, 88, 89, 90] (by decide +kernel) (by decide +kernel)
set_option maxRecDepth 20000 in
theorem gX11_quotient_X11_normalizes : GoodIn wsX11_quotient (wsV RX11 162 RX11 yX11_normalizes wsX11_normalizes) := goodIn_app (goodIn_of _ (by decide +kernel)) ggX11_quotient_X11_normalizes
set_option maxRecDepth 20000 in
theorem ggX11_quotient_X11_stores : GoodIn wsX11_quotient wsX11_stores := goodIn_r _ [51, 14, 46, 47, 52, 53, 54, 55, 56, 57, 58, 59, 60, 61, 62, 63, 64, 65, 66, 67, 68, 69, 70, 71, 72, 73, 74, 75, 76, 77, 78, 79, 80, 81, 82, 83, 84, 85, 86, 87, 88, 89, 90] (by decide +kernel) (by decide +kernel)
set_option maxRecDepth 20000 in
theorem gX11_quotient_X11_stores : GoodIn wsX11_quotient (wsV RX11 217 RX11 yX11_stores wsX11_stores) := goodIn_app (goodIn_of _ (by decide +kernel)) ggX11_quotient_X11_stores
theorem dX11_quotient_0 : decode cX11_quotient 0 = .ok (.iload_n 1, 1) := by decide +kernel
theorem dX11_quotient_1 : decode cX11_quotient 1 = .ok (.invokestatic 156, 3) := by decide +kernel
theorem dX11_quotient_4 : decode cX11_quotient 4 = .ok (.ifCond .eq 17, 3) := by decide +kernel
theorem dX11_quotient_7 : decode cX11_quotient 7 = .ok (.iload_n 2, 1) := by decide +kernel
theorem dX11_quotient_8 : decode cX11_quotient 8 = .ok (.invokestatic 156, 3) := by decide +kernel
theorem dX11_quotient_11 : decode cX11_quotient 11 = .ok (.ifCond .eq 10, 3) := by decide +kernel
theorem dX11_quotient_14 : decode cX11_quotient 14 = .ok (.iload_n 3, 1) := by decide +kernel
theorem dX11_quotient_15 : decode cX11_quotient 15 = .ok (.invokestatic 156, 3) := by decide +kernel
theorem dX11_quotient_18 : decode cX11_quotient 18 = .ok (.ifCond .ne 5, 3) := by decide +kernel
theorem dX11_quotient_21 : decode cX11_quotient 21 = .ok (.iconst (-1), 1) := by decide +kernel
theorem dX11_quotient_22 : decode cX11_quotient 22 = .ok (.ireturn, 1) := by decide +kernel
theorem dX11_quotient_23 : decode cX11_quotient 23 = .ok (.aload_n 0, 1) := by decide +kernel
theorem dX11_quotient_24 : decode cX11_quotient 24 = .ok (.iload_n 1, 1) := by decide +kernel
theorem dX11_quotient_25 : decode cX11_quotient 25 = .ok (.invokevirtual 159, 3) := by decide +kernel
theorem dX11_quotient_28 : decode cX11_quotient 28 = .ok (.aload_n 0, 1) := by decide +kernel
theorem dX11_quotient_29 : decode cX11_quotient 29 = .ok (.iload_n 2, 1) := by decide +kernel
theorem dX11_quotient_30 : decode cX11_quotient 30 = .ok (.invokevirtual 195, 3) := by decide +kernel
theorem dX11_quotient_33 : decode cX11_quotient 33 = .ok (.aload_n 0, 1) := by decide +kernel
theorem dX11_quotient_34 : decode cX11_quotient 34 = .ok (.invokevirtual 152, 3) := by decide +kernel
theorem dX11_quotient_37 : decode cX11_quotient 37 = .ok (.ifCond .ne 6, 3) := by decide +kernel
theorem dX11_quotient_40 : decode cX11_quotient 40 = .ok (.bipush (-3), 2) := by decide +kernel
theorem dX11_quotient_42 : decode cX11_quotient 42 = .ok (.ireturn, 1) := by decide +kernel
theorem dX11_quotient_43 : decode cX11_quotient 43 = .ok (.aload_n 0, 1) := by decide +kernel
theorem dX11_quotient_44 : decode cX11_quotient 44 = .ok (.aload_n 0, 1) := by decide +kernel
theorem dX11_quotient_45 : decode cX11_quotient 45 = .ok (.getfield 30, 3) := by decide +kernel
theorem dX11_quotient_48 : decode cX11_quotient 48 = .ok (.aload_n 0, 1) := by decide +kernel
theorem dX11_quotient_49 : decode cX11_quotient 49 = .ok (.getfield 135, 3) := by decide +kernel
theorem dX11_quotient_52 : decode cX11_quotient 52 = .ok (.invokevirtual 162, 3) := by decide +kernel
theorem dX11_quotient_55 : decode cX11_quotient 55 = .ok (.aload_n 0, 1) := by decide +kernel
theorem dX11_quotient_56 : decode cX11_quotient 56 = .ok (.iload_n 3, 1) := by decide +kernel
theorem dX11_quotient_57 : decode cX11_quotient 57 = .ok (.invokevirtual 217, 3) := by decide +kernel
theorem dX11_quotient_60 : decode cX11_quotient 60 = .ok (.ireturn, 1) := by decide +kernel
theorem dX11_exchangesGone_0 : decode cX11_exchangesGone 0 = .ok (.iconst 0, 1) := by decide +kernel
theorem dX11_exchangesGone_1 : decode cX11_exchangesGone 1 = .ok (.istore_n 2, 1) := by decide +kernel
theorem dX11_exchangesGone_2 : decode cX11_exchangesGone 2 = .ok (.iload_n 2, 1) := by decide +kernel
theorem dX11_exchangesGone_3 : decode cX11_exchangesGone 3 = .ok (.iload_n 1, 1) := by decide +kernel
theorem dX11_exchangesGone_4 : decode cX11_exchangesGone 4 = .ok (.if_icmp .ge 35, 3) := by decide +kernel
theorem dX11_exchangesGone_7 : decode cX11_exchangesGone 7 = .ok (.aload_n 0, 1) := by decide +kernel
theorem dX11_exchangesGone_8 : decode cX11_exchangesGone 8 = .ok (.getfield 36, 3) := by decide +kernel
theorem dX11_exchangesGone_11 : decode cX11_exchangesGone 11 = .ok (.iload_n 2, 1) := by decide +kernel
theorem dX11_exchangesGone_12 : decode cX11_exchangesGone 12 = .ok (.baload, 1) := by decide +kernel
theorem dX11_exchangesGone_13 : decode cX11_exchangesGone 13 = .ok (.istore_n 3, 1) := by decide +kernel
theorem dX11_exchangesGone_14 : decode cX11_exchangesGone 14 = .ok (.aload_n 0, 1) := by decide +kernel
theorem dX11_exchangesGone_15 : decode cX11_exchangesGone 15 = .ok (.getfield 36, 3) := by decide +kernel
theorem dX11_exchangesGone_18 : decode cX11_exchangesGone 18 = .ok (.iload_n 2, 1) := by decide +kernel
theorem dX11_exchangesGone_19 : decode cX11_exchangesGone 19 = .ok (.aload_n 0, 1) := by decide +kernel
theorem dX11_exchangesGone_20 : decode cX11_exchangesGone 20 = .ok (.getfield 60, 3) := by decide +kernel
theorem dX11_exchangesGone_23 : decode cX11_exchangesGone 23 = .ok (.iload_n 2, 1) := by decide +kernel
theorem dX11_exchangesGone_24 : decode cX11_exchangesGone 24 = .ok (.baload, 1) := by decide +kernel
theorem dX11_exchangesGone_25 : decode cX11_exchangesGone 25 = .ok (.bastore, 1) := by decide +kernel
theorem dX11_exchangesGone_26 : decode cX11_exchangesGone 26 = .ok (.aload_n 0, 1) := by decide +kernel
theorem dX11_exchangesGone_27 : decode cX11_exchangesGone 27 = .ok (.getfield 60, 3) := by decide +kernel
theorem dX11_exchangesGone_30 : decode cX11_exchangesGone 30 = .ok (.iload_n 2, 1) := by decide +kernel
theorem dX11_exchangesGone_31 : decode cX11_exchangesGone 31 = .ok (.iload_n 3, 1) := by decide +kernel
theorem dX11_exchangesGone_32 : decode cX11_exchangesGone 32 = .ok (.bastore, 1) := by decide +kernel
theorem dX11_exchangesGone_33 : decode cX11_exchangesGone 33 = .ok (.iinc 2 1, 3) := by decide +kernel
theorem dX11_exchangesGone_36 : decode cX11_exchangesGone 36 = .ok (.goto (-34), 3) := by decide +kernel
theorem dX11_exchangesGone_39 : decode cX11_exchangesGone 39 = .ok (.return_, 1) := by decide +kernel
set_option maxRecDepth 20000 in
theorem ggX11_placeInOther_X11_exchangesGone : GoodIn wsX11_placeInOther wsX11_exchangesGone := goodIn_r _ [7, 8, 9, 23, 24, 25, 26, 27, 28, 29, 30, 31, 32, 33, 34, 35, 36, 37, 38, 39, 40, 41, 42, 43, 44, 45, 46, 47, 48, 49, 50, 51, 52, 53, 54, 55, 56, 57, 58, 59, 60, 61] (by decide +kernel) (by decide +kernel)
set_option maxRecDepth 20000 in
theorem gX11_placeInOther_X11_exchangesGone : GoodIn wsX11_placeInOther (wsV RX11 220 RX11 yX11_exchangesGone wsX11_exchangesGone) := goodIn_app (goodIn_of _ (by decide +kernel)) ggX11_placeInOther_X11_exchangesGone
set_option maxRecDepth 20000 in
theorem ggX11_placeInOther_X11_placeOf : GoodIn wsX11_placeInOther wsX11_placeOf := goodIn_r _ [13, 14, 15, 16, 6, 17, 8, 18, 19, 20, 21, 22, 23, 24, 25, 26, 27, 28, 29, 30, 31, 32, 33, 34, 35, 36, 37, 38, 39, 40, 41, 42, 43, 44, 45, 46, 47, 48, 49, 50, 51, 52, 53, 54, 55, 56, 57, 58, 59, 60, 61] (by decide +kernel) (by decide +kernel)
set_option maxRecDepth 20000 in
theorem gX11_placeInOther_X11_placeOf : GoodIn wsX11_placeInOther (wsV RX11 148 RX11 yX11_placeOf wsX11_placeOf) := goodIn_app (goodIn_of _ (by decide +kernel)) ggX11_placeInOther_X11_placeOf
theorem dX11_placeInOther_0 : decode cX11_placeInOther 0 = .ok (.aload_n 0, 1) := by decide +kernel
theorem dX11_placeInOther_1 : decode cX11_placeInOther 1 = .ok (.bipush 16, 2) := by decide +kernel
theorem dX11_placeInOther_3 : decode cX11_placeInOther 3 = .ok (.invokevirtual 220, 3) := by decide +kernel
theorem dX11_placeInOther_6 : decode cX11_placeInOther 6 = .ok (.aload_n 0, 1) := by decide +kernel
theorem dX11_placeInOther_7 : decode cX11_placeInOther 7 = .ok (.aload_n 0, 1) := by decide +kernel
theorem dX11_placeInOther_8 : decode cX11_placeInOther 8 = .ok (.getfield 30, 3) := by decide +kernel
theorem dX11_placeInOther_11 : decode cX11_placeInOther 11 = .ok (.aload_n 0, 1) := by decide +kernel
theorem dX11_placeInOther_12 : decode cX11_placeInOther 12 = .ok (.getfield 135, 3) := by decide +kernel
theorem dX11_placeInOther_15 : decode cX11_placeInOther 15 = .ok (.iload_n 1, 1) := by decide +kernel
theorem dX11_placeInOther_16 : decode cX11_placeInOther 16 = .ok (.invokevirtual 148, 3) := by decide +kernel
theorem dX11_placeInOther_19 : decode cX11_placeInOther 19 = .ok (.istore_n 2, 1) := by decide +kernel
theorem dX11_placeInOther_20 : decode cX11_placeInOther 20 = .ok (.aload_n 0, 1) := by decide +kernel
theorem dX11_placeInOther_21 : decode cX11_placeInOther 21 = .ok (.bipush 16, 2) := by decide +kernel
theorem dX11_placeInOther_23 : decode cX11_placeInOther 23 = .ok (.invokevirtual 220, 3) := by decide +kernel
theorem dX11_placeInOther_26 : decode cX11_placeInOther 26 = .ok (.iload_n 2, 1) := by decide +kernel
theorem dX11_placeInOther_27 : decode cX11_placeInOther 27 = .ok (.ireturn, 1) := by decide +kernel
set_option maxRecDepth 20000 in
theorem ggX11_findCommon_X11_allThere : GoodIn wsX11_findCommon wsX11_allThere := goodIn_r _ [12, 6, 35, 36, 37, 38, 39, 40, 41, 42, 43, 44, 45, 46, 47, 48, 49, 50, 51, 52, 53, 54, 55, 56, 57, 58, 59, 60, 61, 62, 63, 64, 65, 66, 67, 68, 69, 70, 71, 72, 73] (by decide +kernel) (by decide +kernel)
set_option maxRecDepth 20000 in
theorem gX11_findCommon_X11_allThere : GoodIn wsX11_findCommon (wsV RX11 142 RX11 yX11_allThere wsX11_allThere) := goodIn_app (goodIn_of _ (by decide +kernel)) ggX11_findCommon_X11_allThere
set_option maxRecDepth 20000 in
theorem ggX11_findCommon_X11_placeOf : GoodIn wsX11_findCommon wsX11_placeOf := goodIn_r _ [16, 17, 18, 19, 11, 20, 6, 21, 22, 23, 24, 3, 35, 36, 37, 38, 39, 40, 41, 42, 43, 44, 45, 46, 47, 48, 49, 50, 51, 52, 53, 54, 55, 56, 57, 58, 59, 60, 61, 62, 63, 64, 65, 66, 67, 68, 69, 70, 71, 72, 73] (by decide +kernel) (by decide +kernel)
set_option maxRecDepth 20000 in
theorem gX11_findCommon_X11_placeOf : GoodIn wsX11_findCommon (wsV RX11 148 RX11 yX11_placeOf wsX11_placeOf) := goodIn_app (goodIn_of _ (by decide +kernel)) ggX11_findCommon_X11_placeOf
set_option maxRecDepth 20000 in
theorem ggX11_findCommon_X11_placeInOther : GoodIn wsX11_findCommon wsX11_placeInOther := goodIn_r _ [28, 29, 30, 31, 32, 33, 11, 34, 6, 1, 13, 14, 15, 16, 17, 18, 19, 20, 21, 22, 23, 24, 3, 35, 36, 37, 38, 39, 40, 41, 42, 43, 44, 45, 46, 47, 48, 49, 50, 51, 52, 53, 54, 55, 56, 57, 58, 59, 60, 61, 62, 63, 64, 65, 66, 67, 68, 69, 70, 71, 72, 73] (by decide +kernel) (by decide +kernel)
set_option maxRecDepth 20000 in
theorem gX11_findCommon_X11_placeInOther : GoodIn wsX11_findCommon (wsV RX11 226 RX11 yX11_placeInOther wsX11_placeInOther) := goodIn_app (goodIn_of _ (by decide +kernel)) ggX11_findCommon_X11_placeInOther
theorem dX11_findCommon_0 : decode cX11_findCommon 0 = .ok (.aload_n 0, 1) := by decide +kernel
theorem dX11_findCommon_1 : decode cX11_findCommon 1 = .ok (.bipush 16, 2) := by decide +kernel
theorem dX11_findCommon_3 : decode cX11_findCommon 3 = .ok (.invokevirtual 142, 3) := by decide +kernel
theorem dX11_findCommon_6 : decode cX11_findCommon 6 = .ok (.iconst 0, 1) := by decide +kernel
theorem dX11_findCommon_7 : decode cX11_findCommon 7 = .ok (.istore_n 1, 1) := by decide +kernel
theorem dX11_findCommon_8 : decode cX11_findCommon 8 = .ok (.iload_n 1, 1) := by decide +kernel
theorem dX11_findCommon_9 : decode cX11_findCommon 9 = .ok (.bipush 16, 2) := by decide +kernel
theorem dX11_findCommon_11 : decode cX11_findCommon 11 = .ok (.if_icmp .ge 16, 3) := by decide +kernel
theorem dX11_findCommon_14 : decode cX11_findCommon 14 = .ok (.aload_n 0, 1) := by decide +kernel
theorem dX11_findCommon_15 : decode cX11_findCommon 15 = .ok (.getfield 60, 3) := by decide +kernel
theorem dX11_findCommon_18 : decode cX11_findCommon 18 = .ok (.iload_n 1, 1) := by decide +kernel
theorem dX11_findCommon_19 : decode cX11_findCommon 19 = .ok (.iconst 0, 1) := by decide +kernel
theorem dX11_findCommon_20 : decode cX11_findCommon 20 = .ok (.bastore, 1) := by decide +kernel
theorem dX11_findCommon_21 : decode cX11_findCommon 21 = .ok (.iinc 1 1, 3) := by decide +kernel
theorem dX11_findCommon_24 : decode cX11_findCommon 24 = .ok (.goto (-16), 3) := by decide +kernel
theorem dX11_findCommon_27 : decode cX11_findCommon 27 = .ok (.aload_n 0, 1) := by decide +kernel
theorem dX11_findCommon_28 : decode cX11_findCommon 28 = .ok (.iconst 0, 1) := by decide +kernel
theorem dX11_findCommon_29 : decode cX11_findCommon 29 = .ok (.putfield 223, 3) := by decide +kernel
theorem dX11_findCommon_32 : decode cX11_findCommon 32 = .ok (.iconst 1, 1) := by decide +kernel
theorem dX11_findCommon_33 : decode cX11_findCommon 33 = .ok (.istore_n 1, 1) := by decide +kernel
theorem dX11_findCommon_34 : decode cX11_findCommon 34 = .ok (.iload_n 1, 1) := by decide +kernel
theorem dX11_findCommon_35 : decode cX11_findCommon 35 = .ok (.ifCond .eq 93, 3) := by decide +kernel
theorem dX11_findCommon_38 : decode cX11_findCommon 38 = .ok (.iconst 0, 1) := by decide +kernel
theorem dX11_findCommon_39 : decode cX11_findCommon 39 = .ok (.istore_n 1, 1) := by decide +kernel
theorem dX11_findCommon_40 : decode cX11_findCommon 40 = .ok (.iconst 0, 1) := by decide +kernel
theorem dX11_findCommon_41 : decode cX11_findCommon 41 = .ok (.istore_n 2, 1) := by decide +kernel
theorem dX11_findCommon_42 : decode cX11_findCommon 42 = .ok (.iload_n 2, 1) := by decide +kernel
theorem dX11_findCommon_43 : decode cX11_findCommon 43 = .ok (.aload_n 0, 1) := by decide +kernel
theorem dX11_findCommon_44 : decode cX11_findCommon 44 = .ok (.getfield 7, 3) := by decide +kernel
theorem dX11_findCommon_47 : decode cX11_findCommon 47 = .ok (.iconst 0, 1) := by decide +kernel
theorem dX11_findCommon_48 : decode cX11_findCommon 48 = .ok (.iaload, 1) := by decide +kernel
theorem dX11_findCommon_49 : decode cX11_findCommon 49 = .ok (.if_icmp .ge 76, 3) := by decide +kernel
theorem dX11_findCommon_52 : decode cX11_findCommon 52 = .ok (.aload_n 0, 1) := by decide +kernel
theorem dX11_findCommon_53 : decode cX11_findCommon 53 = .ok (.aload_n 0, 1) := by decide +kernel
theorem dX11_findCommon_54 : decode cX11_findCommon 54 = .ok (.getfield 27, 3) := by decide +kernel
theorem dX11_findCommon_57 : decode cX11_findCommon 57 = .ok (.aload_n 0, 1) := by decide +kernel
theorem dX11_findCommon_58 : decode cX11_findCommon 58 = .ok (.getfield 131, 3) := by decide +kernel
theorem dX11_findCommon_61 : decode cX11_findCommon 61 = .ok (.iload_n 2, 1) := by decide +kernel
theorem dX11_findCommon_62 : decode cX11_findCommon 62 = .ok (.invokevirtual 148, 3) := by decide +kernel
theorem dX11_findCommon_65 : decode cX11_findCommon 65 = .ok (.istore_n 3, 1) := by decide +kernel
theorem dX11_findCommon_66 : decode cX11_findCommon 66 = .ok (.aload_n 0, 1) := by decide +kernel
theorem dX11_findCommon_67 : decode cX11_findCommon 67 = .ok (.iload_n 2, 1) := by decide +kernel
theorem dX11_findCommon_68 : decode cX11_findCommon 68 = .ok (.invokevirtual 226, 3) := by decide +kernel
theorem dX11_findCommon_71 : decode cX11_findCommon 71 = .ok (.istore 4, 2) := by decide +kernel
theorem dX11_findCommon_73 : decode cX11_findCommon 73 = .ok (.iload_n 3, 1) := by decide +kernel
theorem dX11_findCommon_74 : decode cX11_findCommon 74 = .ok (.ifCond .lt 45, 3) := by decide +kernel
theorem dX11_findCommon_77 : decode cX11_findCommon 77 = .ok (.iload 4, 2) := by decide +kernel
theorem dX11_findCommon_79 : decode cX11_findCommon 79 = .ok (.ifCond .lt 40, 3) := by decide +kernel
theorem dX11_findCommon_82 : decode cX11_findCommon 82 = .ok (.aload_n 0, 1) := by decide +kernel
theorem dX11_findCommon_83 : decode cX11_findCommon 83 = .ok (.getfield 36, 3) := by decide +kernel
theorem dX11_findCommon_86 : decode cX11_findCommon 86 = .ok (.iload_n 3, 1) := by decide +kernel
theorem dX11_findCommon_87 : decode cX11_findCommon 87 = .ok (.iconst 1, 1) := by decide +kernel
theorem dX11_findCommon_88 : decode cX11_findCommon 88 = .ok (.bastore, 1) := by decide +kernel
theorem dX11_findCommon_89 : decode cX11_findCommon 89 = .ok (.aload_n 0, 1) := by decide +kernel
theorem dX11_findCommon_90 : decode cX11_findCommon 90 = .ok (.getfield 60, 3) := by decide +kernel
theorem dX11_findCommon_93 : decode cX11_findCommon 93 = .ok (.iload 4, 2) := by decide +kernel
theorem dX11_findCommon_95 : decode cX11_findCommon 95 = .ok (.iconst 1, 1) := by decide +kernel
theorem dX11_findCommon_96 : decode cX11_findCommon 96 = .ok (.bastore, 1) := by decide +kernel
theorem dX11_findCommon_97 : decode cX11_findCommon 97 = .ok (.aload_n 0, 1) := by decide +kernel
theorem dX11_findCommon_98 : decode cX11_findCommon 98 = .ok (.getfield 57, 3) := by decide +kernel
theorem dX11_findCommon_101 : decode cX11_findCommon 101 = .ok (.aload_n 0, 1) := by decide +kernel
theorem dX11_findCommon_102 : decode cX11_findCommon 102 = .ok (.getfield 223, 3) := by decide +kernel
theorem dX11_findCommon_105 : decode cX11_findCommon 105 = .ok (.iload_n 2, 1) := by decide +kernel
theorem dX11_findCommon_106 : decode cX11_findCommon 106 = .ok (.iastore, 1) := by decide +kernel
theorem dX11_findCommon_107 : decode cX11_findCommon 107 = .ok (.aload_n 0, 1) := by decide +kernel
theorem dX11_findCommon_108 : decode cX11_findCommon 108 = .ok (.dup, 1) := by decide +kernel
theorem dX11_findCommon_109 : decode cX11_findCommon 109 = .ok (.getfield 223, 3) := by decide +kernel
theorem dX11_findCommon_112 : decode cX11_findCommon 112 = .ok (.iconst 1, 1) := by decide +kernel
theorem dX11_findCommon_113 : decode cX11_findCommon 113 = .ok (.iadd, 1) := by decide +kernel
theorem dX11_findCommon_114 : decode cX11_findCommon 114 = .ok (.putfield 223, 3) := by decide +kernel
theorem dX11_findCommon_117 : decode cX11_findCommon 117 = .ok (.iconst 1, 1) := by decide +kernel
theorem dX11_findCommon_118 : decode cX11_findCommon 118 = .ok (.istore_n 1, 1) := by decide +kernel
theorem dX11_findCommon_119 : decode cX11_findCommon 119 = .ok (.iinc 2 1, 3) := by decide +kernel
theorem dX11_findCommon_122 : decode cX11_findCommon 122 = .ok (.goto (-80), 3) := by decide +kernel
theorem dX11_findCommon_125 : decode cX11_findCommon 125 = .ok (.goto (-91), 3) := by decide +kernel
theorem dX11_findCommon_128 : decode cX11_findCommon 128 = .ok (.return_, 1) := by decide +kernel
set_option maxRecDepth 20000 in
theorem ggX11_commonPrefix_X11_isWord : GoodIn wsX11_commonPrefix wsX11_isWord := goodIn_r _ [6, 7, 8, 5, 9] (by decide +kernel) (by decide +kernel)
set_option maxRecDepth 20000 in
theorem gX11_commonPrefix_X11_isWord : GoodIn wsX11_commonPrefix (va_wsS RX11 156 yX11_isWord wsX11_isWord) := goodIn_app (goodIn_of _ (by decide +kernel)) ggX11_commonPrefix_X11_isWord
set_option maxRecDepth 20000 in
theorem ggX11_commonPrefix_X11_takesOne : GoodIn wsX11_commonPrefix wsX11_takesOne := goodIn_r _ [13, 14, 15, 16, 63, 64, 65, 66, 67, 68, 69, 70, 71, 72, 73, 74, 75, 76, 77, 78, 79, 80, 81, 82, 83, 84, 85, 86, 87, 88, 89, 90, 91, 92, 93, 94, 95, 96, 97, 98, 99, 100, 101] (by decide +kernel) (by decide +kernel)
set_option maxRecDepth 20000 in
theorem gX11_commonPrefix_X11_takesOne : GoodIn wsX11_commonPrefix (wsV RX11 159 RX11 yX11_takesOne wsX11_takesOne) := goodIn_app (goodIn_of _ (by decide +kernel)) ggX11_commonPrefix_X11_takesOne
set_option maxRecDepth 20000 in
theorem ggX11_commonPrefix_X11_takesOther : GoodIn wsX11_commonPrefix wsX11_takesOther := goodIn_r _ [20, 14, 21, 22, 63, 64, 65, 66, 67, 68, 69, 70, 71, 72, 73, 74, 75, 76, 77, 78, 79, 80, 81, 82, 83, 84, 85, 86, 87, 88, 89, 90, 91, 92, 93, 94, 95, 96, 97, 98, 99, 100, 101] (by decide +kernel) (by decide +kernel)
set_option maxRecDepth 20000 in
theorem gX11_commonPrefix_X11_takesOther : GoodIn wsX11_commonPrefix (wsV RX11 195 RX11 yX11_takesOther wsX11_takesOther) := goodIn_app (goodIn_of _ (by decide +kernel)) ggX11_commonPrefix_X11_takesOther
set_option maxRecDepth 20000 in
theorem ggX11_commonPrefix_X11_findCommon : GoodIn wsX11_commonPrefix wsX11_findCommon := goodIn_r _ [26, 27, 2, 14, 16, 15, 28, 1, 29, 30, 31, 5, 32, 33, 34, 35, 36, 37, 38, 39, 40, 41, 42, 43, 44, 45, 46, 47, 48, 22, 21, 49, 50, 51, 52, 63, 64, 65, 66, 67, 68, 69, 70, 71, 72, 73, 74, 75, 76, 77, 78, 79, 80, 81, 82, 83, 84, 85, 86, 87, 88, 89, 90, 91, 92, 93, 94, 95, 96, 97, 98, 99, 100, 101] (by decide +kernel) (by decide +kernel)
set_option maxRecDepth 20000 in
theorem gX11_commonPrefix_X11_findCommon : GoodIn wsX11_commonPrefix (wsV RX11 229 RX11 yX11_findCommon wsX11_findCommon) := goodIn_app (goodIn_of _ (by decide +kernel)) ggX11_commonPrefix_X11_findCommon
set_option maxRecDepth 20000 in
theorem ggX11_commonPrefix_X11_normalizes : GoodIn wsX11_commonPrefix wsX11_normalizes := goodIn_r _ [56, 57, 28, 58, 29, 30, 31, 5, 32, 33, 34, 35, 36, 37, 38, 39, 40, 41, 42, 43, 44, 14, 63, 64, 65, 66, 67, 68, 69, 70, 71, 72, 73, 74, 75, 76, 77, 78, 79, 80, 81, 82, 83, 84, 85, 86, 87, 88, 89, 90, 91, 92, 93, 94, 95, 96, 97, 98, 99, 100, 101] (by decide +kernel) (by decide +kernel)
set_option maxRecDepth 20000 in
theorem gX11_commonPrefix_X11_normalizes : GoodIn wsX11_commonPrefix (wsV RX11 162 RX11 yX11_normalizes wsX11_normalizes) := goodIn_app (goodIn_of _ (by decide +kernel)) ggX11_commonPrefix_X11_normalizes
set_option maxRecDepth 20000 in
theorem ggX11_commonPrefix_X11_stores : GoodIn wsX11_commonPrefix wsX11_stores := goodIn_r _ [62, 14, 57, 58, 63, 64, 65, 66, 67, 68, 69, 70, 71, 72, 73, 74, 75, 76, 77, 78, 79, 80, 81, 82, 83, 84, 85, 86, 87, 88, 89, 90, 91, 92, 93, 94, 95, 96, 97, 98, 99, 100, 101] (by decide +kernel) (by decide +kernel)
set_option maxRecDepth 20000 in
theorem gX11_commonPrefix_X11_stores : GoodIn wsX11_commonPrefix (wsV RX11 217 RX11 yX11_stores wsX11_stores) := goodIn_app (goodIn_of _ (by decide +kernel)) ggX11_commonPrefix_X11_stores
theorem dX11_commonPrefix_0 : decode cX11_commonPrefix 0 = .ok (.iload_n 1, 1) := by decide +kernel
theorem dX11_commonPrefix_1 : decode cX11_commonPrefix 1 = .ok (.invokestatic 156, 3) := by decide +kernel
theorem dX11_commonPrefix_4 : decode cX11_commonPrefix 4 = .ok (.ifCond .eq 17, 3) := by decide +kernel
theorem dX11_commonPrefix_7 : decode cX11_commonPrefix 7 = .ok (.iload_n 2, 1) := by decide +kernel
theorem dX11_commonPrefix_8 : decode cX11_commonPrefix 8 = .ok (.invokestatic 156, 3) := by decide +kernel
theorem dX11_commonPrefix_11 : decode cX11_commonPrefix 11 = .ok (.ifCond .eq 10, 3) := by decide +kernel
theorem dX11_commonPrefix_14 : decode cX11_commonPrefix 14 = .ok (.iload_n 3, 1) := by decide +kernel
theorem dX11_commonPrefix_15 : decode cX11_commonPrefix 15 = .ok (.invokestatic 156, 3) := by decide +kernel
theorem dX11_commonPrefix_18 : decode cX11_commonPrefix 18 = .ok (.ifCond .ne 5, 3) := by decide +kernel
theorem dX11_commonPrefix_21 : decode cX11_commonPrefix 21 = .ok (.iconst (-1), 1) := by decide +kernel
theorem dX11_commonPrefix_22 : decode cX11_commonPrefix 22 = .ok (.ireturn, 1) := by decide +kernel
theorem dX11_commonPrefix_23 : decode cX11_commonPrefix 23 = .ok (.aload_n 0, 1) := by decide +kernel
theorem dX11_commonPrefix_24 : decode cX11_commonPrefix 24 = .ok (.iload_n 1, 1) := by decide +kernel
theorem dX11_commonPrefix_25 : decode cX11_commonPrefix 25 = .ok (.invokevirtual 159, 3) := by decide +kernel
theorem dX11_commonPrefix_28 : decode cX11_commonPrefix 28 = .ok (.aload_n 0, 1) := by decide +kernel
theorem dX11_commonPrefix_29 : decode cX11_commonPrefix 29 = .ok (.iload_n 2, 1) := by decide +kernel
theorem dX11_commonPrefix_30 : decode cX11_commonPrefix 30 = .ok (.invokevirtual 195, 3) := by decide +kernel
theorem dX11_commonPrefix_33 : decode cX11_commonPrefix 33 = .ok (.aload_n 0, 1) := by decide +kernel
theorem dX11_commonPrefix_34 : decode cX11_commonPrefix 34 = .ok (.invokevirtual 229, 3) := by decide +kernel
theorem dX11_commonPrefix_37 : decode cX11_commonPrefix 37 = .ok (.aload_n 0, 1) := by decide +kernel
theorem dX11_commonPrefix_38 : decode cX11_commonPrefix 38 = .ok (.aload_n 0, 1) := by decide +kernel
theorem dX11_commonPrefix_39 : decode cX11_commonPrefix 39 = .ok (.getfield 57, 3) := by decide +kernel
theorem dX11_commonPrefix_42 : decode cX11_commonPrefix 42 = .ok (.aload_n 0, 1) := by decide +kernel
theorem dX11_commonPrefix_43 : decode cX11_commonPrefix 43 = .ok (.getfield 223, 3) := by decide +kernel
theorem dX11_commonPrefix_46 : decode cX11_commonPrefix 46 = .ok (.invokevirtual 162, 3) := by decide +kernel
theorem dX11_commonPrefix_49 : decode cX11_commonPrefix 49 = .ok (.aload_n 0, 1) := by decide +kernel
theorem dX11_commonPrefix_50 : decode cX11_commonPrefix 50 = .ok (.iload_n 3, 1) := by decide +kernel
theorem dX11_commonPrefix_51 : decode cX11_commonPrefix 51 = .ok (.invokevirtual 217, 3) := by decide +kernel
theorem dX11_commonPrefix_54 : decode cX11_commonPrefix 54 = .ok (.ireturn, 1) := by decide +kernel
set_option maxRecDepth 20000 in
theorem ggX11_commonMultiple_X11_isWord : GoodIn wsX11_commonMultiple wsX11_isWord := goodIn_r _ [11, 12, 13, 10, 14] (by decide +kernel) (by decide +kernel)
set_option maxRecDepth 20000 in
theorem gX11_commonMultiple_X11_isWord : GoodIn wsX11_commonMultiple (va_wsS RX11 156 yX11_isWord wsX11_isWord) := goodIn_app (goodIn_of _ (by decide +kernel)) ggX11_commonMultiple_X11_isWord
set_option maxRecDepth 20000 in
theorem ggX11_commonMultiple_X11_takesOne : GoodIn wsX11_commonMultiple wsX11_takesOne := goodIn_r _ [18, 19, 1, 5, 63, 64, 65, 66, 67, 68, 69, 70, 71, 72, 73, 74, 75, 76, 77, 78, 79, 80, 81, 82, 83, 84, 85, 86, 87, 88, 89, 90, 91, 92, 93, 94, 95, 96, 97, 98, 99, 100, 101] (by decide +kernel) (by decide +kernel)
set_option maxRecDepth 20000 in
theorem gX11_commonMultiple_X11_takesOne : GoodIn wsX11_commonMultiple (wsV RX11 159 RX11 yX11_takesOne wsX11_takesOne) := goodIn_app (goodIn_of _ (by decide +kernel)) ggX11_commonMultiple_X11_takesOne
set_option maxRecDepth 20000 in
theorem ggX11_commonMultiple_X11_takesOther : GoodIn wsX11_commonMultiple wsX11_takesOther := goodIn_r _ [23, 19, 2, 6, 63, 64, 65, 66, 67, 68, 69, 70, 71, 72, 73, 74, 75, 76, 77, 78, 79, 80, 81, 82, 83, 84, 85, 86, 87, 88, 89, 90, 91, 92, 93, 94, 95, 96, 97, 98, 99, 100, 101] (by decide +kernel) (by decide +kernel)
set_option maxRecDepth 20000 in
theorem gX11_commonMultiple_X11_takesOther : GoodIn wsX11_commonMultiple (wsV RX11 195 RX11 yX11_takesOther wsX11_takesOther) := goodIn_app (goodIn_of _ (by decide +kernel)) ggX11_commonMultiple_X11_takesOther
set_option maxRecDepth 20000 in
theorem ggX11_commonMultiple_X11_findCommon : GoodIn wsX11_commonMultiple wsX11_findCommon := goodIn_r _ [27, 4, 7, 19, 5, 1, 3, 28, 29, 30, 31, 10, 32, 33, 34, 35, 36, 37, 38, 39, 40, 41, 42, 43, 44, 45, 46, 47, 48, 6, 2, 49, 50, 51, 52, 63, 64, 65, 66, 67, 68, 69, 70, 71, 72, 73, 74, 75, 76, 77, 78, 79, 80, 81, 82, 83, 84, 85, 86, 87, 88, 89, 90, 91, 92, 93, 94, 95, 96, 97, 98, 99, 100, 101] (by decide +kernel) (by decide +kernel)
set_option maxRecDepth 20000 in
theorem gX11_commonMultiple_X11_findCommon : GoodIn wsX11_commonMultiple (wsV RX11 229 RX11 yX11_findCommon wsX11_findCommon) := goodIn_app (goodIn_of _ (by decide +kernel)) ggX11_commonMultiple_X11_findCommon
set_option maxRecDepth 20000 in
theorem ggX11_commonMultiple_X11_areFree : GoodIn wsX11_commonMultiple wsX11_areFree := goodIn_r _ [44, 19, 63, 64, 65, 66, 67, 68, 69, 70, 71, 72, 73, 74, 75, 76, 77, 78, 79, 80, 81, 82, 83, 84, 85, 86, 87, 88, 89, 90, 91, 92, 93, 94, 95, 96, 97, 98, 99, 100, 101] (by decide +kernel) (by decide +kernel)
set_option maxRecDepth 20000 in
theorem gX11_commonMultiple_X11_areFree : GoodIn wsX11_commonMultiple (wsV RX11 114 RX11 yX11_areFree wsX11_areFree) := goodIn_app (goodIn_of _ (by decide +kernel)) ggX11_commonMultiple_X11_areFree
set_option maxRecDepth 20000 in
theorem ggX11_commonMultiple_X11_normalizes : GoodIn wsX11_commonMultiple wsX11_normalizes := goodIn_r _ [56, 57, 3, 58, 29, 30, 31, 10, 32, 33, 34, 35, 36, 37, 38, 39, 40, 41, 42, 43, 44, 19, 63, 64, 65, 66, 67, 68, 69, 70, 71, 72, 73, 74, 75, 76, 77, 78, 79, 80, 81, 82, 83, 84, 85, 86, 87, 88, 89, 90, 91, 92, 93, 94, 95, 96, 97, 98, 99, 100, 101] (by decide +kernel) (by decide +kernel)
set_option maxRecDepth 20000 in
theorem gX11_commonMultiple_X11_normalizes : GoodIn wsX11_commonMultiple (wsV RX11 162 RX11 yX11_normalizes wsX11_normalizes) := goodIn_app (goodIn_of _ (by decide +kernel)) ggX11_commonMultiple_X11_normalizes
set_option maxRecDepth 20000 in
theorem ggX11_commonMultiple_X11_stores : GoodIn wsX11_commonMultiple wsX11_stores := goodIn_r _ [62, 19, 57, 58, 63, 64, 65, 66, 67, 68, 69, 70, 71, 72, 73, 74, 75, 76, 77, 78, 79, 80, 81, 82, 83, 84, 85, 86, 87, 88, 89, 90, 91, 92, 93, 94, 95, 96, 97, 98, 99, 100, 101] (by decide +kernel) (by decide +kernel)
set_option maxRecDepth 20000 in
theorem gX11_commonMultiple_X11_stores : GoodIn wsX11_commonMultiple (wsV RX11 217 RX11 yX11_stores wsX11_stores) := goodIn_app (goodIn_of _ (by decide +kernel)) ggX11_commonMultiple_X11_stores
theorem dX11_commonMultiple_0 : decode cX11_commonMultiple 0 = .ok (.iload_n 1, 1) := by decide +kernel
theorem dX11_commonMultiple_1 : decode cX11_commonMultiple 1 = .ok (.invokestatic 156, 3) := by decide +kernel
theorem dX11_commonMultiple_4 : decode cX11_commonMultiple 4 = .ok (.ifCond .eq 17, 3) := by decide +kernel
theorem dX11_commonMultiple_7 : decode cX11_commonMultiple 7 = .ok (.iload_n 2, 1) := by decide +kernel
theorem dX11_commonMultiple_8 : decode cX11_commonMultiple 8 = .ok (.invokestatic 156, 3) := by decide +kernel
theorem dX11_commonMultiple_11 : decode cX11_commonMultiple 11 = .ok (.ifCond .eq 10, 3) := by decide +kernel
theorem dX11_commonMultiple_14 : decode cX11_commonMultiple 14 = .ok (.iload_n 3, 1) := by decide +kernel
theorem dX11_commonMultiple_15 : decode cX11_commonMultiple 15 = .ok (.invokestatic 156, 3) := by decide +kernel
theorem dX11_commonMultiple_18 : decode cX11_commonMultiple 18 = .ok (.ifCond .ne 5, 3) := by decide +kernel
theorem dX11_commonMultiple_21 : decode cX11_commonMultiple 21 = .ok (.iconst (-1), 1) := by decide +kernel
theorem dX11_commonMultiple_22 : decode cX11_commonMultiple 22 = .ok (.ireturn, 1) := by decide +kernel
theorem dX11_commonMultiple_23 : decode cX11_commonMultiple 23 = .ok (.aload_n 0, 1) := by decide +kernel
theorem dX11_commonMultiple_24 : decode cX11_commonMultiple 24 = .ok (.iload_n 1, 1) := by decide +kernel
theorem dX11_commonMultiple_25 : decode cX11_commonMultiple 25 = .ok (.invokevirtual 159, 3) := by decide +kernel
theorem dX11_commonMultiple_28 : decode cX11_commonMultiple 28 = .ok (.aload_n 0, 1) := by decide +kernel
theorem dX11_commonMultiple_29 : decode cX11_commonMultiple 29 = .ok (.iload_n 2, 1) := by decide +kernel
theorem dX11_commonMultiple_30 : decode cX11_commonMultiple 30 = .ok (.invokevirtual 195, 3) := by decide +kernel
theorem dX11_commonMultiple_33 : decode cX11_commonMultiple 33 = .ok (.aload_n 0, 1) := by decide +kernel
theorem dX11_commonMultiple_34 : decode cX11_commonMultiple 34 = .ok (.invokevirtual 229, 3) := by decide +kernel
theorem dX11_commonMultiple_37 : decode cX11_commonMultiple 37 = .ok (.iconst 1, 1) := by decide +kernel
theorem dX11_commonMultiple_38 : decode cX11_commonMultiple 38 = .ok (.istore 4, 2) := by decide +kernel
theorem dX11_commonMultiple_40 : decode cX11_commonMultiple 40 = .ok (.iconst 0, 1) := by decide +kernel
theorem dX11_commonMultiple_41 : decode cX11_commonMultiple 41 = .ok (.istore 5, 2) := by decide +kernel
theorem dX11_commonMultiple_43 : decode cX11_commonMultiple 43 = .ok (.iload 5, 2) := by decide +kernel
theorem dX11_commonMultiple_45 : decode cX11_commonMultiple 45 = .ok (.aload_n 0, 1) := by decide +kernel
theorem dX11_commonMultiple_46 : decode cX11_commonMultiple 46 = .ok (.getfield 131, 3) := by decide +kernel
theorem dX11_commonMultiple_49 : decode cX11_commonMultiple 49 = .ok (.if_icmp .ge 80, 3) := by decide +kernel
theorem dX11_commonMultiple_52 : decode cX11_commonMultiple 52 = .ok (.iconst 0, 1) := by decide +kernel
theorem dX11_commonMultiple_53 : decode cX11_commonMultiple 53 = .ok (.istore 6, 2) := by decide +kernel
theorem dX11_commonMultiple_55 : decode cX11_commonMultiple 55 = .ok (.iload 6, 2) := by decide +kernel
theorem dX11_commonMultiple_57 : decode cX11_commonMultiple 57 = .ok (.aload_n 0, 1) := by decide +kernel
theorem dX11_commonMultiple_58 : decode cX11_commonMultiple 58 = .ok (.getfield 135, 3) := by decide +kernel
theorem dX11_commonMultiple_61 : decode cX11_commonMultiple 61 = .ok (.if_icmp .ge 62, 3) := by decide +kernel
theorem dX11_commonMultiple_64 : decode cX11_commonMultiple 64 = .ok (.iload 4, 2) := by decide +kernel
theorem dX11_commonMultiple_66 : decode cX11_commonMultiple 66 = .ok (.ifCond .eq 48, 3) := by decide +kernel
theorem dX11_commonMultiple_69 : decode cX11_commonMultiple 69 = .ok (.aload_n 0, 1) := by decide +kernel
theorem dX11_commonMultiple_70 : decode cX11_commonMultiple 70 = .ok (.getfield 36, 3) := by decide +kernel
theorem dX11_commonMultiple_73 : decode cX11_commonMultiple 73 = .ok (.iload 5, 2) := by decide +kernel
theorem dX11_commonMultiple_75 : decode cX11_commonMultiple 75 = .ok (.baload, 1) := by decide +kernel
theorem dX11_commonMultiple_76 : decode cX11_commonMultiple 76 = .ok (.ifCond .ne 34, 3) := by decide +kernel
theorem dX11_commonMultiple_79 : decode cX11_commonMultiple 79 = .ok (.aload_n 0, 1) := by decide +kernel
theorem dX11_commonMultiple_80 : decode cX11_commonMultiple 80 = .ok (.getfield 60, 3) := by decide +kernel
theorem dX11_commonMultiple_83 : decode cX11_commonMultiple 83 = .ok (.iload 6, 2) := by decide +kernel
theorem dX11_commonMultiple_85 : decode cX11_commonMultiple 85 = .ok (.baload, 1) := by decide +kernel
theorem dX11_commonMultiple_86 : decode cX11_commonMultiple 86 = .ok (.ifCond .ne 24, 3) := by decide +kernel
theorem dX11_commonMultiple_89 : decode cX11_commonMultiple 89 = .ok (.aload_n 0, 1) := by decide +kernel
theorem dX11_commonMultiple_90 : decode cX11_commonMultiple 90 = .ok (.aload_n 0, 1) := by decide +kernel
theorem dX11_commonMultiple_91 : decode cX11_commonMultiple 91 = .ok (.getfield 27, 3) := by decide +kernel
theorem dX11_commonMultiple_94 : decode cX11_commonMultiple 94 = .ok (.iload 5, 2) := by decide +kernel
theorem dX11_commonMultiple_96 : decode cX11_commonMultiple 96 = .ok (.iaload, 1) := by decide +kernel
theorem dX11_commonMultiple_97 : decode cX11_commonMultiple 97 = .ok (.aload_n 0, 1) := by decide +kernel
theorem dX11_commonMultiple_98 : decode cX11_commonMultiple 98 = .ok (.getfield 30, 3) := by decide +kernel
theorem dX11_commonMultiple_101 : decode cX11_commonMultiple 101 = .ok (.iload 6, 2) := by decide +kernel
theorem dX11_commonMultiple_103 : decode cX11_commonMultiple 103 = .ok (.iaload, 1) := by decide +kernel
theorem dX11_commonMultiple_104 : decode cX11_commonMultiple 104 = .ok (.invokevirtual 114, 3) := by decide +kernel
theorem dX11_commonMultiple_107 : decode cX11_commonMultiple 107 = .ok (.ifCond .eq 7, 3) := by decide +kernel
theorem dX11_commonMultiple_110 : decode cX11_commonMultiple 110 = .ok (.iconst 1, 1) := by decide +kernel
theorem dX11_commonMultiple_111 : decode cX11_commonMultiple 111 = .ok (.goto 4, 3) := by decide +kernel
theorem dX11_commonMultiple_114 : decode cX11_commonMultiple 114 = .ok (.iconst 0, 1) := by decide +kernel
theorem dX11_commonMultiple_115 : decode cX11_commonMultiple 115 = .ok (.istore 4, 2) := by decide +kernel
theorem dX11_commonMultiple_117 : decode cX11_commonMultiple 117 = .ok (.iinc 6 1, 3) := by decide +kernel
theorem dX11_commonMultiple_120 : decode cX11_commonMultiple 120 = .ok (.goto (-65), 3) := by decide +kernel
theorem dX11_commonMultiple_123 : decode cX11_commonMultiple 123 = .ok (.iinc 5 1, 3) := by decide +kernel
theorem dX11_commonMultiple_126 : decode cX11_commonMultiple 126 = .ok (.goto (-83), 3) := by decide +kernel
theorem dX11_commonMultiple_129 : decode cX11_commonMultiple 129 = .ok (.iload 4, 2) := by decide +kernel
theorem dX11_commonMultiple_131 : decode cX11_commonMultiple 131 = .ok (.ifCond .ne 6, 3) := by decide +kernel
theorem dX11_commonMultiple_134 : decode cX11_commonMultiple 134 = .ok (.bipush (-3), 2) := by decide +kernel
theorem dX11_commonMultiple_136 : decode cX11_commonMultiple 136 = .ok (.ireturn, 1) := by decide +kernel
theorem dX11_commonMultiple_137 : decode cX11_commonMultiple 137 = .ok (.aload_n 0, 1) := by decide +kernel
theorem dX11_commonMultiple_138 : decode cX11_commonMultiple 138 = .ok (.getfield 131, 3) := by decide +kernel
theorem dX11_commonMultiple_141 : decode cX11_commonMultiple 141 = .ok (.aload_n 0, 1) := by decide +kernel
theorem dX11_commonMultiple_142 : decode cX11_commonMultiple 142 = .ok (.getfield 135, 3) := by decide +kernel
theorem dX11_commonMultiple_145 : decode cX11_commonMultiple 145 = .ok (.iadd, 1) := by decide +kernel
theorem dX11_commonMultiple_146 : decode cX11_commonMultiple 146 = .ok (.aload_n 0, 1) := by decide +kernel
theorem dX11_commonMultiple_147 : decode cX11_commonMultiple 147 = .ok (.getfield 223, 3) := by decide +kernel
theorem dX11_commonMultiple_150 : decode cX11_commonMultiple 150 = .ok (.isub, 1) := by decide +kernel
theorem dX11_commonMultiple_151 : decode cX11_commonMultiple 151 = .ok (.bipush 16, 2) := by decide +kernel
theorem dX11_commonMultiple_153 : decode cX11_commonMultiple 153 = .ok (.if_icmp .le 6, 3) := by decide +kernel
theorem dX11_commonMultiple_156 : decode cX11_commonMultiple 156 = .ok (.bipush (-4), 2) := by decide +kernel
theorem dX11_commonMultiple_158 : decode cX11_commonMultiple 158 = .ok (.ireturn, 1) := by decide +kernel
theorem dX11_commonMultiple_159 : decode cX11_commonMultiple 159 = .ok (.iconst 0, 1) := by decide +kernel
theorem dX11_commonMultiple_160 : decode cX11_commonMultiple 160 = .ok (.istore 5, 2) := by decide +kernel
theorem dX11_commonMultiple_162 : decode cX11_commonMultiple 162 = .ok (.iload 5, 2) := by decide +kernel
theorem dX11_commonMultiple_164 : decode cX11_commonMultiple 164 = .ok (.aload_n 0, 1) := by decide +kernel
theorem dX11_commonMultiple_165 : decode cX11_commonMultiple 165 = .ok (.getfield 135, 3) := by decide +kernel
theorem dX11_commonMultiple_168 : decode cX11_commonMultiple 168 = .ok (.if_icmp .ge 45, 3) := by decide +kernel
theorem dX11_commonMultiple_171 : decode cX11_commonMultiple 171 = .ok (.aload_n 0, 1) := by decide +kernel
theorem dX11_commonMultiple_172 : decode cX11_commonMultiple 172 = .ok (.getfield 60, 3) := by decide +kernel
theorem dX11_commonMultiple_175 : decode cX11_commonMultiple 175 = .ok (.iload 5, 2) := by decide +kernel
theorem dX11_commonMultiple_177 : decode cX11_commonMultiple 177 = .ok (.baload, 1) := by decide +kernel
theorem dX11_commonMultiple_178 : decode cX11_commonMultiple 178 = .ok (.ifCond .ne 29, 3) := by decide +kernel
theorem dX11_commonMultiple_181 : decode cX11_commonMultiple 181 = .ok (.aload_n 0, 1) := by decide +kernel
theorem dX11_commonMultiple_182 : decode cX11_commonMultiple 182 = .ok (.getfield 27, 3) := by decide +kernel
theorem dX11_commonMultiple_185 : decode cX11_commonMultiple 185 = .ok (.aload_n 0, 1) := by decide +kernel
theorem dX11_commonMultiple_186 : decode cX11_commonMultiple 186 = .ok (.getfield 131, 3) := by decide +kernel
theorem dX11_commonMultiple_189 : decode cX11_commonMultiple 189 = .ok (.aload_n 0, 1) := by decide +kernel
theorem dX11_commonMultiple_190 : decode cX11_commonMultiple 190 = .ok (.getfield 30, 3) := by decide +kernel
theorem dX11_commonMultiple_193 : decode cX11_commonMultiple 193 = .ok (.iload 5, 2) := by decide +kernel
theorem dX11_commonMultiple_195 : decode cX11_commonMultiple 195 = .ok (.iaload, 1) := by decide +kernel
theorem dX11_commonMultiple_196 : decode cX11_commonMultiple 196 = .ok (.iastore, 1) := by decide +kernel
theorem dX11_commonMultiple_197 : decode cX11_commonMultiple 197 = .ok (.aload_n 0, 1) := by decide +kernel
theorem dX11_commonMultiple_198 : decode cX11_commonMultiple 198 = .ok (.dup, 1) := by decide +kernel
theorem dX11_commonMultiple_199 : decode cX11_commonMultiple 199 = .ok (.getfield 131, 3) := by decide +kernel
theorem dX11_commonMultiple_202 : decode cX11_commonMultiple 202 = .ok (.iconst 1, 1) := by decide +kernel
theorem dX11_commonMultiple_203 : decode cX11_commonMultiple 203 = .ok (.iadd, 1) := by decide +kernel
theorem dX11_commonMultiple_204 : decode cX11_commonMultiple 204 = .ok (.putfield 131, 3) := by decide +kernel
theorem dX11_commonMultiple_207 : decode cX11_commonMultiple 207 = .ok (.iinc 5 1, 3) := by decide +kernel
theorem dX11_commonMultiple_210 : decode cX11_commonMultiple 210 = .ok (.goto (-48), 3) := by decide +kernel
theorem dX11_commonMultiple_213 : decode cX11_commonMultiple 213 = .ok (.aload_n 0, 1) := by decide +kernel
theorem dX11_commonMultiple_214 : decode cX11_commonMultiple 214 = .ok (.aload_n 0, 1) := by decide +kernel
theorem dX11_commonMultiple_215 : decode cX11_commonMultiple 215 = .ok (.getfield 27, 3) := by decide +kernel
theorem dX11_commonMultiple_218 : decode cX11_commonMultiple 218 = .ok (.aload_n 0, 1) := by decide +kernel
theorem dX11_commonMultiple_219 : decode cX11_commonMultiple 219 = .ok (.getfield 131, 3) := by decide +kernel
theorem dX11_commonMultiple_222 : decode cX11_commonMultiple 222 = .ok (.invokevirtual 162, 3) := by decide +kernel
theorem dX11_commonMultiple_225 : decode cX11_commonMultiple 225 = .ok (.aload_n 0, 1) := by decide +kernel
theorem dX11_commonMultiple_226 : decode cX11_commonMultiple 226 = .ok (.iload_n 3, 1) := by decide +kernel
theorem dX11_commonMultiple_227 : decode cX11_commonMultiple 227 = .ok (.invokevirtual 217, 3) := by decide +kernel
theorem dX11_commonMultiple_230 : decode cX11_commonMultiple 230 = .ok (.ireturn, 1) := by decide +kernel
set_option maxRecDepth 20000 in
theorem ggX11_root_X11_isWord : GoodIn wsX11_root wsX11_isWord := goodIn_r _ [7, 8, 9, 6, 10] (by decide +kernel) (by decide +kernel)
set_option maxRecDepth 20000 in
theorem gX11_root_X11_isWord : GoodIn wsX11_root (va_wsS RX11 156 yX11_isWord wsX11_isWord) := goodIn_app (goodIn_of _ (by decide +kernel)) ggX11_root_X11_isWord
set_option maxRecDepth 20000 in
theorem ggX11_root_X11_exponentOf : GoodIn wsX11_root wsX11_exponentOf := goodIn_r _ [14, 1, 15, 16, 17, 6, 18, 19, 20, 21, 3, 2, 22, 23, 24, 25, 26, 27, 28, 29, 30, 31, 32, 33, 34, 35, 36, 37, 38, 39, 40, 41, 42, 43, 44, 45, 46, 47, 48, 49, 50, 61, 62, 63, 64, 65, 66, 67, 68, 69, 70, 71, 72, 73, 74, 75, 76, 77, 78, 79, 80, 81, 82, 83, 84, 85, 86, 87, 88, 89, 90, 91, 92, 93, 94, 95, 96, 97, 98, 99] (by decide +kernel) (by decide +kernel)
set_option maxRecDepth 20000 in
theorem gX11_root_X11_exponentOf : GoodIn wsX11_root (wsV RX11 214 RX11 yX11_exponentOf wsX11_exponentOf) := goodIn_app (goodIn_of _ (by decide +kernel)) ggX11_root_X11_exponentOf
set_option maxRecDepth 20000 in
theorem ggX11_root_X11_normalizes : GoodIn wsX11_root wsX11_normalizes := goodIn_r _ [54, 55, 34, 56, 35, 36, 37, 6, 38, 39, 40, 41, 42, 43, 44, 45, 46, 47, 48, 49, 50, 1, 61, 62, 63, 64, 65, 66, 67, 68, 69, 70, 71, 72, 73, 74, 75, 76, 77, 78, 79, 80, 81, 82, 83, 84, 85, 86, 87, 88, 89, 90, 91, 92, 93, 94, 95, 96, 97, 98, 99] (by decide +kernel) (by decide +kernel)
set_option maxRecDepth 20000 in
theorem gX11_root_X11_normalizes : GoodIn wsX11_root (wsV RX11 162 RX11 yX11_normalizes wsX11_normalizes) := goodIn_app (goodIn_of _ (by decide +kernel)) ggX11_root_X11_normalizes
set_option maxRecDepth 20000 in
theorem ggX11_root_X11_stores : GoodIn wsX11_root wsX11_stores := goodIn_r _ [60, 1, 55, 56, 61, 62, 63, 64, 65, 66, 67, 68, 69, 70, 71, 72, 73, 74, 75, 76, 77, 78, 79, 80, 81, 82, 83, 84, 85, 86, 87, 88, 89, 90, 91, 92, 93, 94, 95, 96, 97, 98, 99] (by decide +kernel) (by decide +kernel)
set_option maxRecDepth 20000 in
theorem gX11_root_X11_stores : GoodIn wsX11_root (wsV RX11 217 RX11 yX11_stores wsX11_stores) := goodIn_app (goodIn_of _ (by decide +kernel)) ggX11_root_X11_stores
theorem dX11_root_0 : decode cX11_root 0 = .ok (.iload_n 1, 1) := by decide +kernel
theorem dX11_root_1 : decode cX11_root 1 = .ok (.invokestatic 156, 3) := by decide +kernel
theorem dX11_root_4 : decode cX11_root 4 = .ok (.ifCond .eq 10, 3) := by decide +kernel
theorem dX11_root_7 : decode cX11_root 7 = .ok (.iload_n 2, 1) := by decide +kernel
theorem dX11_root_8 : decode cX11_root 8 = .ok (.invokestatic 156, 3) := by decide +kernel
theorem dX11_root_11 : decode cX11_root 11 = .ok (.ifCond .ne 5, 3) := by decide +kernel
theorem dX11_root_14 : decode cX11_root 14 = .ok (.iconst (-1), 1) := by decide +kernel
theorem dX11_root_15 : decode cX11_root 15 = .ok (.ireturn, 1) := by decide +kernel
theorem dX11_root_16 : decode cX11_root 16 = .ok (.aload_n 0, 1) := by decide +kernel
theorem dX11_root_17 : decode cX11_root 17 = .ok (.getfield 7, 3) := by decide +kernel
theorem dX11_root_20 : decode cX11_root 20 = .ok (.bipush 7, 2) := by decide +kernel
theorem dX11_root_22 : decode cX11_root 22 = .ok (.iload_n 1, 1) := by decide +kernel
theorem dX11_root_23 : decode cX11_root 23 = .ok (.iadd, 1) := by decide +kernel
theorem dX11_root_24 : decode cX11_root 24 = .ok (.iaload, 1) := by decide +kernel
theorem dX11_root_25 : decode cX11_root 25 = .ok (.ifCond .ne 6, 3) := by decide +kernel
theorem dX11_root_28 : decode cX11_root 28 = .ok (.bipush (-3), 2) := by decide +kernel
theorem dX11_root_30 : decode cX11_root 30 = .ok (.ireturn, 1) := by decide +kernel
theorem dX11_root_31 : decode cX11_root 31 = .ok (.aload_n 0, 1) := by decide +kernel
theorem dX11_root_32 : decode cX11_root 32 = .ok (.iload_n 1, 1) := by decide +kernel
theorem dX11_root_33 : decode cX11_root 33 = .ok (.invokevirtual 214, 3) := by decide +kernel
theorem dX11_root_36 : decode cX11_root 36 = .ok (.istore_n 3, 1) := by decide +kernel
theorem dX11_root_37 : decode cX11_root 37 = .ok (.aload_n 0, 1) := by decide +kernel
theorem dX11_root_38 : decode cX11_root 38 = .ok (.aload_n 0, 1) := by decide +kernel
theorem dX11_root_39 : decode cX11_root 39 = .ok (.getfield 27, 3) := by decide +kernel
theorem dX11_root_42 : decode cX11_root 42 = .ok (.aload_n 0, 1) := by decide +kernel
theorem dX11_root_43 : decode cX11_root 43 = .ok (.getfield 131, 3) := by decide +kernel
theorem dX11_root_46 : decode cX11_root 46 = .ok (.invokevirtual 162, 3) := by decide +kernel
theorem dX11_root_49 : decode cX11_root 49 = .ok (.aload_n 0, 1) := by decide +kernel
theorem dX11_root_50 : decode cX11_root 50 = .ok (.iload_n 2, 1) := by decide +kernel
theorem dX11_root_51 : decode cX11_root 51 = .ok (.invokevirtual 217, 3) := by decide +kernel
theorem dX11_root_54 : decode cX11_root 54 = .ok (.ireturn, 1) := by decide +kernel
set_option maxRecDepth 20000 in
theorem ggX11_reverse_X11_isWord : GoodIn wsX11_reverse wsX11_isWord := goodIn_r _ [7, 8, 9, 6, 10] (by decide +kernel) (by decide +kernel)
set_option maxRecDepth 20000 in
theorem gX11_reverse_X11_isWord : GoodIn wsX11_reverse (va_wsS RX11 156 yX11_isWord wsX11_isWord) := goodIn_app (goodIn_of _ (by decide +kernel)) ggX11_reverse_X11_isWord
set_option maxRecDepth 20000 in
theorem ggX11_reverse_X11_takesOne : GoodIn wsX11_reverse wsX11_takesOne := goodIn_r _ [14, 15, 1, 3, 43, 44, 45, 46, 47, 48, 49, 50, 51, 52, 53, 54, 55, 56, 57, 58, 59, 60, 61, 62, 63, 64, 65, 66, 67, 68, 69, 70, 71, 72, 73, 74, 75, 76, 77, 78, 79, 80, 81] (by decide +kernel) (by decide +kernel)
set_option maxRecDepth 20000 in
theorem gX11_reverse_X11_takesOne : GoodIn wsX11_reverse (wsV RX11 159 RX11 yX11_takesOne wsX11_takesOne) := goodIn_app (goodIn_of _ (by decide +kernel)) ggX11_reverse_X11_takesOne
set_option maxRecDepth 20000 in
theorem ggX11_reverse_X11_normalizes : GoodIn wsX11_reverse wsX11_normalizes := goodIn_r _ [19, 20, 21, 22, 23, 24, 25, 6, 26, 27, 28, 29, 30, 31, 32, 33, 34, 35, 36, 37, 38, 15, 43, 44, 45, 46, 47, 48, 49, 50, 51, 52, 53, 54, 55, 56, 57, 58, 59, 60, 61, 62, 63, 64, 65, 66, 67, 68, 69, 70, 71, 72, 73, 74, 75, 76, 77, 78, 79, 80, 81] (by decide +kernel) (by decide +kernel)
set_option maxRecDepth 20000 in
theorem gX11_reverse_X11_normalizes : GoodIn wsX11_reverse (wsV RX11 162 RX11 yX11_normalizes wsX11_normalizes) := goodIn_app (goodIn_of _ (by decide +kernel)) ggX11_reverse_X11_normalizes
set_option maxRecDepth 20000 in
theorem ggX11_reverse_X11_stores : GoodIn wsX11_reverse wsX11_stores := goodIn_r _ [42, 15, 20, 22, 43, 44, 45, 46, 47, 48, 49, 50, 51, 52, 53, 54, 55, 56, 57, 58, 59, 60, 61, 62, 63, 64, 65, 66, 67, 68, 69, 70, 71, 72, 73, 74, 75, 76, 77, 78, 79, 80, 81] (by decide +kernel) (by decide +kernel)
set_option maxRecDepth 20000 in
theorem gX11_reverse_X11_stores : GoodIn wsX11_reverse (wsV RX11 217 RX11 yX11_stores wsX11_stores) := goodIn_app (goodIn_of _ (by decide +kernel)) ggX11_reverse_X11_stores
theorem dX11_reverse_0 : decode cX11_reverse 0 = .ok (.iload_n 1, 1) := by decide +kernel
theorem dX11_reverse_1 : decode cX11_reverse 1 = .ok (.invokestatic 156, 3) := by decide +kernel
theorem dX11_reverse_4 : decode cX11_reverse 4 = .ok (.ifCond .eq 10, 3) := by decide +kernel
theorem dX11_reverse_7 : decode cX11_reverse 7 = .ok (.iload_n 2, 1) := by decide +kernel
theorem dX11_reverse_8 : decode cX11_reverse 8 = .ok (.invokestatic 156, 3) := by decide +kernel
theorem dX11_reverse_11 : decode cX11_reverse 11 = .ok (.ifCond .ne 5, 3) := by decide +kernel
theorem dX11_reverse_14 : decode cX11_reverse 14 = .ok (.iconst (-1), 1) := by decide +kernel
theorem dX11_reverse_15 : decode cX11_reverse 15 = .ok (.ireturn, 1) := by decide +kernel
theorem dX11_reverse_16 : decode cX11_reverse 16 = .ok (.aload_n 0, 1) := by decide +kernel
theorem dX11_reverse_17 : decode cX11_reverse 17 = .ok (.iload_n 1, 1) := by decide +kernel
theorem dX11_reverse_18 : decode cX11_reverse 18 = .ok (.invokevirtual 159, 3) := by decide +kernel
theorem dX11_reverse_21 : decode cX11_reverse 21 = .ok (.iconst 0, 1) := by decide +kernel
theorem dX11_reverse_22 : decode cX11_reverse 22 = .ok (.istore_n 3, 1) := by decide +kernel
theorem dX11_reverse_23 : decode cX11_reverse 23 = .ok (.iload_n 3, 1) := by decide +kernel
theorem dX11_reverse_24 : decode cX11_reverse 24 = .ok (.aload_n 0, 1) := by decide +kernel
theorem dX11_reverse_25 : decode cX11_reverse 25 = .ok (.getfield 131, 3) := by decide +kernel
theorem dX11_reverse_28 : decode cX11_reverse 28 = .ok (.if_icmp .ge 28, 3) := by decide +kernel
theorem dX11_reverse_31 : decode cX11_reverse 31 = .ok (.aload_n 0, 1) := by decide +kernel
theorem dX11_reverse_32 : decode cX11_reverse 32 = .ok (.getfield 30, 3) := by decide +kernel
theorem dX11_reverse_35 : decode cX11_reverse 35 = .ok (.iload_n 3, 1) := by decide +kernel
theorem dX11_reverse_36 : decode cX11_reverse 36 = .ok (.aload_n 0, 1) := by decide +kernel
theorem dX11_reverse_37 : decode cX11_reverse 37 = .ok (.getfield 27, 3) := by decide +kernel
theorem dX11_reverse_40 : decode cX11_reverse 40 = .ok (.aload_n 0, 1) := by decide +kernel
theorem dX11_reverse_41 : decode cX11_reverse 41 = .ok (.getfield 131, 3) := by decide +kernel
theorem dX11_reverse_44 : decode cX11_reverse 44 = .ok (.iconst 1, 1) := by decide +kernel
theorem dX11_reverse_45 : decode cX11_reverse 45 = .ok (.isub, 1) := by decide +kernel
theorem dX11_reverse_46 : decode cX11_reverse 46 = .ok (.iload_n 3, 1) := by decide +kernel
theorem dX11_reverse_47 : decode cX11_reverse 47 = .ok (.isub, 1) := by decide +kernel
theorem dX11_reverse_48 : decode cX11_reverse 48 = .ok (.iaload, 1) := by decide +kernel
theorem dX11_reverse_49 : decode cX11_reverse 49 = .ok (.iastore, 1) := by decide +kernel
theorem dX11_reverse_50 : decode cX11_reverse 50 = .ok (.iinc 3 1, 3) := by decide +kernel
theorem dX11_reverse_53 : decode cX11_reverse 53 = .ok (.goto (-30), 3) := by decide +kernel
theorem dX11_reverse_56 : decode cX11_reverse 56 = .ok (.aload_n 0, 1) := by decide +kernel
theorem dX11_reverse_57 : decode cX11_reverse 57 = .ok (.aload_n 0, 1) := by decide +kernel
theorem dX11_reverse_58 : decode cX11_reverse 58 = .ok (.getfield 30, 3) := by decide +kernel
theorem dX11_reverse_61 : decode cX11_reverse 61 = .ok (.aload_n 0, 1) := by decide +kernel
theorem dX11_reverse_62 : decode cX11_reverse 62 = .ok (.getfield 131, 3) := by decide +kernel
theorem dX11_reverse_65 : decode cX11_reverse 65 = .ok (.invokevirtual 162, 3) := by decide +kernel
theorem dX11_reverse_68 : decode cX11_reverse 68 = .ok (.aload_n 0, 1) := by decide +kernel
theorem dX11_reverse_69 : decode cX11_reverse 69 = .ok (.iload_n 2, 1) := by decide +kernel
theorem dX11_reverse_70 : decode cX11_reverse 70 = .ok (.invokevirtual 217, 3) := by decide +kernel
theorem dX11_reverse_73 : decode cX11_reverse 73 = .ok (.ireturn, 1) := by decide +kernel
set_option maxRecDepth 20000 in
theorem ggX11_append_X11_in : GoodIn wsX11_append wsX11_in := goodIn_r _ [6] (by decide +kernel) (by decide +kernel)
set_option maxRecDepth 20000 in
theorem gX11_append_X11_in : GoodIn wsX11_append (va_wsS RX11 102 yX11_in wsX11_in) := goodIn_app (goodIn_of _ (by decide +kernel)) ggX11_append_X11_in
theorem dX11_append_0 : decode cX11_append 0 = .ok (.iload_n 1, 1) := by decide +kernel
theorem dX11_append_1 : decode cX11_append 1 = .ok (.iconst 0, 1) := by decide +kernel
theorem dX11_append_2 : decode cX11_append 2 = .ok (.bipush 127, 2) := by decide +kernel
theorem dX11_append_4 : decode cX11_append 4 = .ok (.invokestatic 102, 3) := by decide +kernel
theorem dX11_append_7 : decode cX11_append 7 = .ok (.ifCond .ne 6, 3) := by decide +kernel
theorem dX11_append_10 : decode cX11_append 10 = .ok (.bipush (-2), 2) := by decide +kernel
theorem dX11_append_12 : decode cX11_append 12 = .ok (.ireturn, 1) := by decide +kernel
theorem dX11_append_13 : decode cX11_append 13 = .ok (.aload_n 0, 1) := by decide +kernel
theorem dX11_append_14 : decode cX11_append 14 = .ok (.getfield 232, 3) := by decide +kernel
theorem dX11_append_17 : decode cX11_append 17 = .ok (.bipush 80, 2) := by decide +kernel
theorem dX11_append_19 : decode cX11_append 19 = .ok (.if_icmp .ne 6, 3) := by decide +kernel
theorem dX11_append_22 : decode cX11_append 22 = .ok (.bipush (-4), 2) := by decide +kernel
theorem dX11_append_24 : decode cX11_append 24 = .ok (.ireturn, 1) := by decide +kernel
theorem dX11_append_25 : decode cX11_append 25 = .ok (.aload_n 0, 1) := by decide +kernel
theorem dX11_append_26 : decode cX11_append 26 = .ok (.getfield 20, 3) := by decide +kernel
theorem dX11_append_29 : decode cX11_append 29 = .ok (.aload_n 0, 1) := by decide +kernel
theorem dX11_append_30 : decode cX11_append 30 = .ok (.getfield 232, 3) := by decide +kernel
theorem dX11_append_33 : decode cX11_append 33 = .ok (.iload_n 1, 1) := by decide +kernel
theorem dX11_append_34 : decode cX11_append 34 = .ok (.iastore, 1) := by decide +kernel
theorem dX11_append_35 : decode cX11_append 35 = .ok (.aload_n 0, 1) := by decide +kernel
theorem dX11_append_36 : decode cX11_append 36 = .ok (.dup, 1) := by decide +kernel
theorem dX11_append_37 : decode cX11_append 37 = .ok (.getfield 232, 3) := by decide +kernel
theorem dX11_append_40 : decode cX11_append 40 = .ok (.iconst 1, 1) := by decide +kernel
theorem dX11_append_41 : decode cX11_append 41 = .ok (.iadd, 1) := by decide +kernel
theorem dX11_append_42 : decode cX11_append 42 = .ok (.putfield 232, 3) := by decide +kernel
theorem dX11_append_45 : decode cX11_append 45 = .ok (.aload_n 0, 1) := by decide +kernel
theorem dX11_append_46 : decode cX11_append 46 = .ok (.getfield 232, 3) := by decide +kernel
theorem dX11_append_49 : decode cX11_append 49 = .ok (.ireturn, 1) := by decide +kernel
theorem dX11_clearText_0 : decode cX11_clearText 0 = .ok (.aload_n 0, 1) := by decide +kernel
theorem dX11_clearText_1 : decode cX11_clearText 1 = .ok (.getfield 232, 3) := by decide +kernel
theorem dX11_clearText_4 : decode cX11_clearText 4 = .ok (.istore_n 1, 1) := by decide +kernel
theorem dX11_clearText_5 : decode cX11_clearText 5 = .ok (.aload_n 0, 1) := by decide +kernel
theorem dX11_clearText_6 : decode cX11_clearText 6 = .ok (.iconst 0, 1) := by decide +kernel
theorem dX11_clearText_7 : decode cX11_clearText 7 = .ok (.putfield 232, 3) := by decide +kernel
theorem dX11_clearText_10 : decode cX11_clearText 10 = .ok (.iload_n 1, 1) := by decide +kernel
theorem dX11_clearText_11 : decode cX11_clearText 11 = .ok (.ireturn, 1) := by decide +kernel
set_option maxRecDepth 20000 in
theorem ggX11_isAtomAt_X11_isLetter : GoodIn wsX11_isAtomAt wsX11_isLetter := goodIn_r _ [5, 6, 7, 8, 4, 9, 10, 11, 12, 13, 14, 15, 16, 17, 18, 19, 20, 21, 22, 23, 24, 25, 26, 27, 28, 29, 30, 31, 32, 33, 34, 35, 36, 37, 38, 39, 40, 41, 42, 43, 44, 45, 46, 47, 48] (by decide +kernel) (by decide +kernel)
set_option maxRecDepth 20000 in
theorem gX11_isAtomAt_X11_isLetter : GoodIn wsX11_isAtomAt (wsV RX11 110 RX11 yX11_isLetter wsX11_isLetter) := goodIn_app (goodIn_of _ (by decide +kernel)) ggX11_isAtomAt_X11_isLetter
theorem dX11_isAtomAt_0 : decode cX11_isAtomAt 0 = .ok (.iload_n 1, 1) := by decide +kernel
theorem dX11_isAtomAt_1 : decode cX11_isAtomAt 1 = .ok (.bipush 49, 2) := by decide +kernel
theorem dX11_isAtomAt_3 : decode cX11_isAtomAt 3 = .ok (.if_icmp .eq 20, 3) := by decide +kernel
theorem dX11_isAtomAt_6 : decode cX11_isAtomAt 6 = .ok (.iload_n 1, 1) := by decide +kernel
theorem dX11_isAtomAt_7 : decode cX11_isAtomAt 7 = .ok (.bipush 40, 2) := by decide +kernel
theorem dX11_isAtomAt_9 : decode cX11_isAtomAt 9 = .ok (.if_icmp .eq 14, 3) := by decide +kernel
theorem dX11_isAtomAt_12 : decode cX11_isAtomAt 12 = .ok (.aload_n 0, 1) := by decide +kernel
theorem dX11_isAtomAt_13 : decode cX11_isAtomAt 13 = .ok (.iload_n 1, 1) := by decide +kernel
theorem dX11_isAtomAt_14 : decode cX11_isAtomAt 14 = .ok (.bipush 97, 2) := by decide +kernel
theorem dX11_isAtomAt_16 : decode cX11_isAtomAt 16 = .ok (.isub, 1) := by decide +kernel
theorem dX11_isAtomAt_17 : decode cX11_isAtomAt 17 = .ok (.invokevirtual 110, 3) := by decide +kernel
theorem dX11_isAtomAt_20 : decode cX11_isAtomAt 20 = .ok (.ifCond .eq 7, 3) := by decide +kernel
theorem dX11_isAtomAt_23 : decode cX11_isAtomAt 23 = .ok (.iconst 1, 1) := by decide +kernel
theorem dX11_isAtomAt_24 : decode cX11_isAtomAt 24 = .ok (.goto 4, 3) := by decide +kernel
theorem dX11_isAtomAt_27 : decode cX11_isAtomAt 27 = .ok (.iconst 0, 1) := by decide +kernel
theorem dX11_isAtomAt_28 : decode cX11_isAtomAt 28 = .ok (.ireturn, 1) := by decide +kernel
set_option maxRecDepth 20000 in
theorem ggX11_fault_X11_isAtomAt : GoodIn wsX11_fault wsX11_isAtomAt := goodIn_r _ [7, 8, 9, 10, 6, 11, 12, 13, 14, 15, 16, 17, 18, 19, 20, 21, 22, 23, 24, 25, 26, 27, 28, 29, 30, 31, 32, 33, 34, 35, 36, 37, 38, 39, 40, 41, 42, 43, 44, 45, 46, 47, 48, 49, 50, 51, 52, 53, 54] (by decide +kernel) (by decide +kernel)
set_option maxRecDepth 20000 in
theorem gX11_fault_X11_isAtomAt : GoodIn wsX11_fault (wsV RX11 235 RX11 yX11_isAtomAt wsX11_isAtomAt) := goodIn_app (goodIn_of _ (by decide +kernel)) ggX11_fault_X11_isAtomAt
theorem dX11_fault_0 : decode cX11_fault 0 = .ok (.iconst 0, 1) := by decide +kernel
theorem dX11_fault_1 : decode cX11_fault 1 = .ok (.istore_n 1, 1) := by decide +kernel
theorem dX11_fault_2 : decode cX11_fault 2 = .ok (.iconst 1, 1) := by decide +kernel
theorem dX11_fault_3 : decode cX11_fault 3 = .ok (.istore_n 2, 1) := by decide +kernel
theorem dX11_fault_4 : decode cX11_fault 4 = .ok (.iconst 0, 1) := by decide +kernel
theorem dX11_fault_5 : decode cX11_fault 5 = .ok (.istore_n 3, 1) := by decide +kernel
theorem dX11_fault_6 : decode cX11_fault 6 = .ok (.iload_n 3, 1) := by decide +kernel
theorem dX11_fault_7 : decode cX11_fault 7 = .ok (.aload_n 0, 1) := by decide +kernel
theorem dX11_fault_8 : decode cX11_fault 8 = .ok (.getfield 232, 3) := by decide +kernel
theorem dX11_fault_11 : decode cX11_fault 11 = .ok (.if_icmp .ge 115, 3) := by decide +kernel
theorem dX11_fault_14 : decode cX11_fault 14 = .ok (.aload_n 0, 1) := by decide +kernel
theorem dX11_fault_15 : decode cX11_fault 15 = .ok (.getfield 20, 3) := by decide +kernel
theorem dX11_fault_18 : decode cX11_fault 18 = .ok (.iload_n 3, 1) := by decide +kernel
theorem dX11_fault_19 : decode cX11_fault 19 = .ok (.iaload, 1) := by decide +kernel
theorem dX11_fault_20 : decode cX11_fault 20 = .ok (.istore 4, 2) := by decide +kernel
theorem dX11_fault_22 : decode cX11_fault 22 = .ok (.aload_n 0, 1) := by decide +kernel
theorem dX11_fault_23 : decode cX11_fault 23 = .ok (.iload 4, 2) := by decide +kernel
theorem dX11_fault_25 : decode cX11_fault 25 = .ok (.invokevirtual 235, 3) := by decide +kernel
theorem dX11_fault_28 : decode cX11_fault 28 = .ok (.ifCond .ne 32, 3) := by decide +kernel
theorem dX11_fault_31 : decode cX11_fault 31 = .ok (.iload_n 2, 1) := by decide +kernel
theorem dX11_fault_32 : decode cX11_fault 32 = .ok (.ifCond .ne 32, 3) := by decide +kernel
theorem dX11_fault_35 : decode cX11_fault 35 = .ok (.iload 4, 2) := by decide +kernel
theorem dX11_fault_37 : decode cX11_fault 37 = .ok (.bipush 43, 2) := by decide +kernel
theorem dX11_fault_39 : decode cX11_fault 39 = .ok (.if_icmp .eq 21, 3) := by decide +kernel
theorem dX11_fault_42 : decode cX11_fault 42 = .ok (.iload 4, 2) := by decide +kernel
theorem dX11_fault_44 : decode cX11_fault 44 = .ok (.bipush 42, 2) := by decide +kernel
theorem dX11_fault_46 : decode cX11_fault 46 = .ok (.if_icmp .eq 14, 3) := by decide +kernel
theorem dX11_fault_49 : decode cX11_fault 49 = .ok (.iload 4, 2) := by decide +kernel
theorem dX11_fault_51 : decode cX11_fault 51 = .ok (.bipush 41, 2) := by decide +kernel
theorem dX11_fault_53 : decode cX11_fault 53 = .ok (.if_icmp .ne 11, 3) := by decide +kernel
theorem dX11_fault_56 : decode cX11_fault 56 = .ok (.iload_n 1, 1) := by decide +kernel
theorem dX11_fault_57 : decode cX11_fault 57 = .ok (.ifCond .le 7, 3) := by decide +kernel
theorem dX11_fault_60 : decode cX11_fault 60 = .ok (.iconst 1, 1) := by decide +kernel
theorem dX11_fault_61 : decode cX11_fault 61 = .ok (.goto 4, 3) := by decide +kernel
theorem dX11_fault_64 : decode cX11_fault 64 = .ok (.iconst 0, 1) := by decide +kernel
theorem dX11_fault_65 : decode cX11_fault 65 = .ok (.istore 5, 2) := by decide +kernel
theorem dX11_fault_67 : decode cX11_fault 67 = .ok (.iload 5, 2) := by decide +kernel
theorem dX11_fault_69 : decode cX11_fault 69 = .ok (.ifCond .ne 5, 3) := by decide +kernel
theorem dX11_fault_72 : decode cX11_fault 72 = .ok (.iload_n 3, 1) := by decide +kernel
theorem dX11_fault_73 : decode cX11_fault 73 = .ok (.ireturn, 1) := by decide +kernel
theorem dX11_fault_74 : decode cX11_fault 74 = .ok (.iload_n 1, 1) := by decide +kernel
theorem dX11_fault_75 : decode cX11_fault 75 = .ok (.iload 4, 2) := by decide +kernel
theorem dX11_fault_77 : decode cX11_fault 77 = .ok (.bipush 40, 2) := by decide +kernel
theorem dX11_fault_79 : decode cX11_fault 79 = .ok (.if_icmp .ne 7, 3) := by decide +kernel
theorem dX11_fault_82 : decode cX11_fault 82 = .ok (.iconst 1, 1) := by decide +kernel
theorem dX11_fault_83 : decode cX11_fault 83 = .ok (.goto 15, 3) := by decide +kernel
theorem dX11_fault_86 : decode cX11_fault 86 = .ok (.iload 4, 2) := by decide +kernel
theorem dX11_fault_88 : decode cX11_fault 88 = .ok (.bipush 41, 2) := by decide +kernel
theorem dX11_fault_90 : decode cX11_fault 90 = .ok (.if_icmp .ne 7, 3) := by decide +kernel
theorem dX11_fault_93 : decode cX11_fault 93 = .ok (.iconst (-1), 1) := by decide +kernel
theorem dX11_fault_94 : decode cX11_fault 94 = .ok (.goto 4, 3) := by decide +kernel
theorem dX11_fault_97 : decode cX11_fault 97 = .ok (.iconst 0, 1) := by decide +kernel
theorem dX11_fault_98 : decode cX11_fault 98 = .ok (.iadd, 1) := by decide +kernel
theorem dX11_fault_99 : decode cX11_fault 99 = .ok (.istore_n 1, 1) := by decide +kernel
theorem dX11_fault_100 : decode cX11_fault 100 = .ok (.iload 4, 2) := by decide +kernel
theorem dX11_fault_102 : decode cX11_fault 102 = .ok (.bipush 40, 2) := by decide +kernel
theorem dX11_fault_104 : decode cX11_fault 104 = .ok (.if_icmp .eq 10, 3) := by decide +kernel
theorem dX11_fault_107 : decode cX11_fault 107 = .ok (.iload 4, 2) := by decide +kernel
theorem dX11_fault_109 : decode cX11_fault 109 = .ok (.bipush 43, 2) := by decide +kernel
theorem dX11_fault_111 : decode cX11_fault 111 = .ok (.if_icmp .ne 7, 3) := by decide +kernel
theorem dX11_fault_114 : decode cX11_fault 114 = .ok (.iconst 1, 1) := by decide +kernel
theorem dX11_fault_115 : decode cX11_fault 115 = .ok (.goto 4, 3) := by decide +kernel
theorem dX11_fault_118 : decode cX11_fault 118 = .ok (.iconst 0, 1) := by decide +kernel
theorem dX11_fault_119 : decode cX11_fault 119 = .ok (.istore_n 2, 1) := by decide +kernel
theorem dX11_fault_120 : decode cX11_fault 120 = .ok (.iinc 3 1, 3) := by decide +kernel
theorem dX11_fault_123 : decode cX11_fault 123 = .ok (.goto (-117), 3) := by decide +kernel
theorem dX11_fault_126 : decode cX11_fault 126 = .ok (.iload_n 2, 1) := by decide +kernel
theorem dX11_fault_127 : decode cX11_fault 127 = .ok (.ifCond .ne 7, 3) := by decide +kernel
theorem dX11_fault_130 : decode cX11_fault 130 = .ok (.iload_n 1, 1) := by decide +kernel
theorem dX11_fault_131 : decode cX11_fault 131 = .ok (.ifCond .le 10, 3) := by decide +kernel
theorem dX11_fault_134 : decode cX11_fault 134 = .ok (.aload_n 0, 1) := by decide +kernel
theorem dX11_fault_135 : decode cX11_fault 135 = .ok (.getfield 232, 3) := by decide +kernel
theorem dX11_fault_138 : decode cX11_fault 138 = .ok (.goto 4, 3) := by decide +kernel
theorem dX11_fault_141 : decode cX11_fault 141 = .ok (.iconst (-1), 1) := by decide +kernel
theorem dX11_fault_142 : decode cX11_fault 142 = .ok (.ireturn, 1) := by decide +kernel
set_option maxRecDepth 20000 in
theorem ggX11_faultPosition_X11_fault : GoodIn wsX11_faultPosition wsX11_fault := goodIn_r _ [5, 6, 7, 8, 9, 10, 4, 11, 12, 13, 14, 15, 16, 17, 18, 19, 20, 21, 22, 23, 24, 25, 26, 27, 28, 29, 30, 31, 32, 33, 34, 35, 36, 37, 38, 39, 40, 41, 42, 43, 44, 45, 46, 47, 48, 49, 50, 51, 52, 53, 54, 55, 56, 57, 58] (by decide +kernel) (by decide +kernel)
set_option maxRecDepth 20000 in
theorem gX11_faultPosition_X11_fault : GoodIn wsX11_faultPosition (wsV RX11 238 RX11 yX11_fault wsX11_fault) := goodIn_app (goodIn_of _ (by decide +kernel)) ggX11_faultPosition_X11_fault
theorem dX11_faultPosition_0 : decode cX11_faultPosition 0 = .ok (.aload_n 0, 1) := by decide +kernel
theorem dX11_faultPosition_1 : decode cX11_faultPosition 1 = .ok (.invokevirtual 238, 3) := by decide +kernel
theorem dX11_faultPosition_4 : decode cX11_faultPosition 4 = .ok (.istore_n 1, 1) := by decide +kernel
theorem dX11_faultPosition_5 : decode cX11_faultPosition 5 = .ok (.iload_n 1, 1) := by decide +kernel
theorem dX11_faultPosition_6 : decode cX11_faultPosition 6 = .ok (.ifCond .ge 8, 3) := by decide +kernel
theorem dX11_faultPosition_9 : decode cX11_faultPosition 9 = .ok (.bipush (-5), 2) := by decide +kernel
theorem dX11_faultPosition_11 : decode cX11_faultPosition 11 = .ok (.goto 4, 3) := by decide +kernel
theorem dX11_faultPosition_14 : decode cX11_faultPosition 14 = .ok (.iload_n 1, 1) := by decide +kernel
theorem dX11_faultPosition_15 : decode cX11_faultPosition 15 = .ok (.ireturn, 1) := by decide +kernel
theorem dX11_puts_0 : decode cX11_puts 0 = .ok (.aload_n 0, 1) := by decide +kernel
theorem dX11_puts_1 : decode cX11_puts 1 = .ok (.getfield 63, 3) := by decide +kernel
theorem dX11_puts_4 : decode cX11_puts 4 = .ok (.aload_n 0, 1) := by decide +kernel
theorem dX11_puts_5 : decode cX11_puts 5 = .ok (.getfield 241, 3) := by decide +kernel
theorem dX11_puts_8 : decode cX11_puts 8 = .ok (.iload_n 1, 1) := by decide +kernel
theorem dX11_puts_9 : decode cX11_puts 9 = .ok (.iastore, 1) := by decide +kernel
theorem dX11_puts_10 : decode cX11_puts 10 = .ok (.aload_n 0, 1) := by decide +kernel
theorem dX11_puts_11 : decode cX11_puts 11 = .ok (.dup, 1) := by decide +kernel
theorem dX11_puts_12 : decode cX11_puts 12 = .ok (.getfield 241, 3) := by decide +kernel
theorem dX11_puts_15 : decode cX11_puts 15 = .ok (.iconst 1, 1) := by decide +kernel
theorem dX11_puts_16 : decode cX11_puts 16 = .ok (.iadd, 1) := by decide +kernel
theorem dX11_puts_17 : decode cX11_puts 17 = .ok (.putfield 241, 3) := by decide +kernel
theorem dX11_puts_20 : decode cX11_puts 20 = .ok (.return_, 1) := by decide +kernel
set_option maxRecDepth 20000 in
theorem ggX11_putsTighter_X11_puts : GoodIn wsX11_putsTighter wsX11_puts := goodIn_r _ [7, 8, 9, 10, 11, 12, 13, 14, 15, 16, 17, 18, 19, 20, 21, 22, 23, 24, 25, 26, 27, 28, 29, 30, 31, 32, 33, 34, 35, 36, 37, 38, 39, 40, 41, 42, 43, 44, 45, 46, 47, 48] (by decide +kernel) (by decide +kernel)
set_option maxRecDepth 20000 in
theorem gX11_putsTighter_X11_puts : GoodIn wsX11_putsTighter (wsV RX11 247 RX11 yX11_puts wsX11_puts) := goodIn_app (goodIn_of _ (by decide +kernel)) ggX11_putsTighter_X11_puts
theorem dX11_putsTighter_0 : decode cX11_putsTighter 0 = .ok (.aload_n 0, 1) := by decide +kernel
theorem dX11_putsTighter_1 : decode cX11_putsTighter 1 = .ok (.getfield 244, 3) := by decide +kernel
theorem dX11_putsTighter_4 : decode cX11_putsTighter 4 = .ok (.ifCond .le 44, 3) := by decide +kernel
theorem dX11_putsTighter_7 : decode cX11_putsTighter 7 = .ok (.aload_n 0, 1) := by decide +kernel
theorem dX11_putsTighter_8 : decode cX11_putsTighter 8 = .ok (.getfield 66, 3) := by decide +kernel
theorem dX11_putsTighter_11 : decode cX11_putsTighter 11 = .ok (.aload_n 0, 1) := by decide +kernel
theorem dX11_putsTighter_12 : decode cX11_putsTighter 12 = .ok (.getfield 244, 3) := by decide +kernel
theorem dX11_putsTighter_15 : decode cX11_putsTighter 15 = .ok (.iconst 1, 1) := by decide +kernel
theorem dX11_putsTighter_16 : decode cX11_putsTighter 16 = .ok (.isub, 1) := by decide +kernel
theorem dX11_putsTighter_17 : decode cX11_putsTighter 17 = .ok (.iaload, 1) := by decide +kernel
theorem dX11_putsTighter_18 : decode cX11_putsTighter 18 = .ok (.iload_n 1, 1) := by decide +kernel
theorem dX11_putsTighter_19 : decode cX11_putsTighter 19 = .ok (.if_icmp .gt 29, 3) := by decide +kernel
theorem dX11_putsTighter_22 : decode cX11_putsTighter 22 = .ok (.aload_n 0, 1) := by decide +kernel
theorem dX11_putsTighter_23 : decode cX11_putsTighter 23 = .ok (.dup, 1) := by decide +kernel
theorem dX11_putsTighter_24 : decode cX11_putsTighter 24 = .ok (.getfield 244, 3) := by decide +kernel
theorem dX11_putsTighter_27 : decode cX11_putsTighter 27 = .ok (.iconst 1, 1) := by decide +kernel
theorem dX11_putsTighter_28 : decode cX11_putsTighter 28 = .ok (.isub, 1) := by decide +kernel
theorem dX11_putsTighter_29 : decode cX11_putsTighter 29 = .ok (.putfield 244, 3) := by decide +kernel
theorem dX11_putsTighter_32 : decode cX11_putsTighter 32 = .ok (.aload_n 0, 1) := by decide +kernel
theorem dX11_putsTighter_33 : decode cX11_putsTighter 33 = .ok (.aload_n 0, 1) := by decide +kernel
theorem dX11_putsTighter_34 : decode cX11_putsTighter 34 = .ok (.getfield 66, 3) := by decide +kernel
theorem dX11_putsTighter_37 : decode cX11_putsTighter 37 = .ok (.aload_n 0, 1) := by decide +kernel
theorem dX11_putsTighter_38 : decode cX11_putsTighter 38 = .ok (.getfield 244, 3) := by decide +kernel
theorem dX11_putsTighter_41 : decode cX11_putsTighter 41 = .ok (.iaload, 1) := by decide +kernel
theorem dX11_putsTighter_42 : decode cX11_putsTighter 42 = .ok (.invokevirtual 247, 3) := by decide +kernel
theorem dX11_putsTighter_45 : decode cX11_putsTighter 45 = .ok (.goto (-45), 3) := by decide +kernel
theorem dX11_putsTighter_48 : decode cX11_putsTighter 48 = .ok (.return_, 1) := by decide +kernel
theorem dX11_waitsFor_0 : decode cX11_waitsFor 0 = .ok (.aload_n 0, 1) := by decide +kernel
theorem dX11_waitsFor_1 : decode cX11_waitsFor 1 = .ok (.getfield 66, 3) := by decide +kernel
theorem dX11_waitsFor_4 : decode cX11_waitsFor 4 = .ok (.aload_n 0, 1) := by decide +kernel
theorem dX11_waitsFor_5 : decode cX11_waitsFor 5 = .ok (.getfield 244, 3) := by decide +kernel
theorem dX11_waitsFor_8 : decode cX11_waitsFor 8 = .ok (.iload_n 1, 1) := by decide +kernel
theorem dX11_waitsFor_9 : decode cX11_waitsFor 9 = .ok (.iastore, 1) := by decide +kernel
theorem dX11_waitsFor_10 : decode cX11_waitsFor 10 = .ok (.aload_n 0, 1) := by decide +kernel
theorem dX11_waitsFor_11 : decode cX11_waitsFor 11 = .ok (.dup, 1) := by decide +kernel
theorem dX11_waitsFor_12 : decode cX11_waitsFor 12 = .ok (.getfield 244, 3) := by decide +kernel
theorem dX11_waitsFor_15 : decode cX11_waitsFor 15 = .ok (.iconst 1, 1) := by decide +kernel
theorem dX11_waitsFor_16 : decode cX11_waitsFor 16 = .ok (.iadd, 1) := by decide +kernel
theorem dX11_waitsFor_17 : decode cX11_waitsFor 17 = .ok (.putfield 244, 3) := by decide +kernel
theorem dX11_waitsFor_20 : decode cX11_waitsFor 20 = .ok (.return_, 1) := by decide +kernel
set_option maxRecDepth 20000 in
theorem ggX11_findForm_X11_isAtomAt : GoodIn wsX11_findForm wsX11_isAtomAt := goodIn_r _ [9, 10, 11, 12, 8, 13, 14, 15, 16, 17, 32, 33, 34, 35, 36, 37, 38, 39, 40, 41, 42, 43, 44, 45, 46, 47, 48, 49, 50, 51, 52, 53, 54, 55, 56, 57, 58, 59, 60, 61, 62, 63, 64, 65, 66, 67, 68, 69, 70] (by decide +kernel) (by decide +kernel)
set_option maxRecDepth 20000 in
theorem gX11_findForm_X11_isAtomAt : GoodIn wsX11_findForm (wsV RX11 235 RX11 yX11_isAtomAt wsX11_isAtomAt) := goodIn_app (goodIn_of _ (by decide +kernel)) ggX11_findForm_X11_isAtomAt
set_option maxRecDepth 20000 in
theorem ggX11_findForm_X11_putsTighter : GoodIn wsX11_findForm wsX11_putsTighter := goodIn_r _ [21, 2, 22, 23, 24, 25, 8, 26, 27, 1, 32, 33, 34, 35, 36, 37, 38, 39, 40, 41, 42, 43, 44, 45, 46, 47, 48, 49, 50, 51, 52, 53, 54, 55, 56, 57, 58, 59, 60, 61, 62, 63, 64, 65, 66, 67, 68, 69, 70] (by decide +kernel) (by decide +kernel)
set_option maxRecDepth 20000 in
theorem gX11_findForm_X11_putsTighter : GoodIn wsX11_findForm (wsV RX11 250 RX11 yX11_putsTighter wsX11_putsTighter) := goodIn_app (goodIn_of _ (by decide +kernel)) ggX11_findForm_X11_putsTighter
set_option maxRecDepth 20000 in
theorem ggX11_findForm_X11_waitsFor : GoodIn wsX11_findForm wsX11_waitsFor := goodIn_r _ [31, 22, 2, 32, 33, 34, 35, 36, 37, 38, 39, 40, 41, 42, 43, 44, 45, 46, 47, 48, 49, 50, 51, 52, 53, 54, 55, 56, 57, 58, 59, 60, 61, 62, 63, 64, 65, 66, 67, 68, 69, 70] (by decide +kernel) (by decide +kernel)
set_option maxRecDepth 20000 in
theorem gX11_findForm_X11_waitsFor : GoodIn wsX11_findForm (wsV RX11 253 RX11 yX11_waitsFor wsX11_waitsFor) := goodIn_app (goodIn_of _ (by decide +kernel)) ggX11_findForm_X11_waitsFor
set_option maxRecDepth 20000 in
theorem ggX11_findForm_X11_puts : GoodIn wsX11_findForm wsX11_puts := goodIn_r _ [26, 27, 1, 32, 33, 34, 35, 36, 37, 38, 39, 40, 41, 42, 43, 44, 45, 46, 47, 48, 49, 50, 51, 52, 53, 54, 55, 56, 57, 58, 59, 60, 61, 62, 63, 64, 65, 66, 67, 68, 69, 70] (by decide +kernel) (by decide +kernel)
set_option maxRecDepth 20000 in
theorem gX11_findForm_X11_puts : GoodIn wsX11_findForm (wsV RX11 247 RX11 yX11_puts wsX11_puts) := goodIn_app (goodIn_of _ (by decide +kernel)) ggX11_findForm_X11_puts
theorem dX11_findForm_0 : decode cX11_findForm 0 = .ok (.aload_n 0, 1) := by decide +kernel
theorem dX11_findForm_1 : decode cX11_findForm 1 = .ok (.iconst 0, 1) := by decide +kernel
theorem dX11_findForm_2 : decode cX11_findForm 2 = .ok (.putfield 241, 3) := by decide +kernel
theorem dX11_findForm_5 : decode cX11_findForm 5 = .ok (.aload_n 0, 1) := by decide +kernel
theorem dX11_findForm_6 : decode cX11_findForm 6 = .ok (.iconst 0, 1) := by decide +kernel
theorem dX11_findForm_7 : decode cX11_findForm 7 = .ok (.putfield 244, 3) := by decide +kernel
theorem dX11_findForm_10 : decode cX11_findForm 10 = .ok (.iconst 0, 1) := by decide +kernel
theorem dX11_findForm_11 : decode cX11_findForm 11 = .ok (.istore_n 1, 1) := by decide +kernel
theorem dX11_findForm_12 : decode cX11_findForm 12 = .ok (.iconst 0, 1) := by decide +kernel
theorem dX11_findForm_13 : decode cX11_findForm 13 = .ok (.istore_n 2, 1) := by decide +kernel
theorem dX11_findForm_14 : decode cX11_findForm 14 = .ok (.iload_n 2, 1) := by decide +kernel
theorem dX11_findForm_15 : decode cX11_findForm 15 = .ok (.aload_n 0, 1) := by decide +kernel
theorem dX11_findForm_16 : decode cX11_findForm 16 = .ok (.getfield 232, 3) := by decide +kernel
theorem dX11_findForm_19 : decode cX11_findForm 19 = .ok (.if_icmp .ge 149, 3) := by decide +kernel
theorem dX11_findForm_22 : decode cX11_findForm 22 = .ok (.aload_n 0, 1) := by decide +kernel
theorem dX11_findForm_23 : decode cX11_findForm 23 = .ok (.getfield 20, 3) := by decide +kernel
theorem dX11_findForm_26 : decode cX11_findForm 26 = .ok (.iload_n 2, 1) := by decide +kernel
theorem dX11_findForm_27 : decode cX11_findForm 27 = .ok (.iaload, 1) := by decide +kernel
theorem dX11_findForm_28 : decode cX11_findForm 28 = .ok (.istore_n 3, 1) := by decide +kernel
theorem dX11_findForm_29 : decode cX11_findForm 29 = .ok (.aload_n 0, 1) := by decide +kernel
theorem dX11_findForm_30 : decode cX11_findForm 30 = .ok (.iload_n 3, 1) := by decide +kernel
theorem dX11_findForm_31 : decode cX11_findForm 31 = .ok (.invokevirtual 235, 3) := by decide +kernel
theorem dX11_findForm_34 : decode cX11_findForm 34 = .ok (.ifCond .eq 19, 3) := by decide +kernel
theorem dX11_findForm_37 : decode cX11_findForm 37 = .ok (.iload_n 1, 1) := by decide +kernel
theorem dX11_findForm_38 : decode cX11_findForm 38 = .ok (.ifCond .eq 15, 3) := by decide +kernel
theorem dX11_findForm_41 : decode cX11_findForm 41 = .ok (.aload_n 0, 1) := by decide +kernel
theorem dX11_findForm_42 : decode cX11_findForm 42 = .ok (.bipush 11, 2) := by decide +kernel
theorem dX11_findForm_44 : decode cX11_findForm 44 = .ok (.invokevirtual 250, 3) := by decide +kernel
theorem dX11_findForm_47 : decode cX11_findForm 47 = .ok (.aload_n 0, 1) := by decide +kernel
theorem dX11_findForm_48 : decode cX11_findForm 48 = .ok (.bipush 11, 2) := by decide +kernel
theorem dX11_findForm_50 : decode cX11_findForm 50 = .ok (.invokevirtual 253, 3) := by decide +kernel
theorem dX11_findForm_53 : decode cX11_findForm 53 = .ok (.iload_n 3, 1) := by decide +kernel
theorem dX11_findForm_54 : decode cX11_findForm 54 = .ok (.bipush 40, 2) := by decide +kernel
theorem dX11_findForm_56 : decode cX11_findForm 56 = .ok (.if_icmp .ne 12, 3) := by decide +kernel
theorem dX11_findForm_59 : decode cX11_findForm 59 = .ok (.aload_n 0, 1) := by decide +kernel
theorem dX11_findForm_60 : decode cX11_findForm 60 = .ok (.bipush 14, 2) := by decide +kernel
theorem dX11_findForm_62 : decode cX11_findForm 62 = .ok (.invokevirtual 253, 3) := by decide +kernel
theorem dX11_findForm_65 : decode cX11_findForm 65 = .ok (.goto 79, 3) := by decide +kernel
theorem dX11_findForm_68 : decode cX11_findForm 68 = .ok (.iload_n 3, 1) := by decide +kernel
theorem dX11_findForm_69 : decode cX11_findForm 69 = .ok (.bipush 41, 2) := by decide +kernel
theorem dX11_findForm_71 : decode cX11_findForm 71 = .ok (.if_icmp .ne 22, 3) := by decide +kernel
theorem dX11_findForm_74 : decode cX11_findForm 74 = .ok (.aload_n 0, 1) := by decide +kernel
theorem dX11_findForm_75 : decode cX11_findForm 75 = .ok (.bipush 12, 2) := by decide +kernel
theorem dX11_findForm_77 : decode cX11_findForm 77 = .ok (.invokevirtual 250, 3) := by decide +kernel
theorem dX11_findForm_80 : decode cX11_findForm 80 = .ok (.aload_n 0, 1) := by decide +kernel
theorem dX11_findForm_81 : decode cX11_findForm 81 = .ok (.dup, 1) := by decide +kernel
theorem dX11_findForm_82 : decode cX11_findForm 82 = .ok (.getfield 244, 3) := by decide +kernel
theorem dX11_findForm_85 : decode cX11_findForm 85 = .ok (.iconst 1, 1) := by decide +kernel
theorem dX11_findForm_86 : decode cX11_findForm 86 = .ok (.isub, 1) := by decide +kernel
theorem dX11_findForm_87 : decode cX11_findForm 87 = .ok (.putfield 244, 3) := by decide +kernel
theorem dX11_findForm_90 : decode cX11_findForm 90 = .ok (.goto 54, 3) := by decide +kernel
theorem dX11_findForm_93 : decode cX11_findForm 93 = .ok (.iload_n 3, 1) := by decide +kernel
theorem dX11_findForm_94 : decode cX11_findForm 94 = .ok (.bipush 43, 2) := by decide +kernel
theorem dX11_findForm_96 : decode cX11_findForm 96 = .ok (.if_icmp .ne 18, 3) := by decide +kernel
theorem dX11_findForm_99 : decode cX11_findForm 99 = .ok (.aload_n 0, 1) := by decide +kernel
theorem dX11_findForm_100 : decode cX11_findForm 100 = .ok (.bipush 12, 2) := by decide +kernel
theorem dX11_findForm_102 : decode cX11_findForm 102 = .ok (.invokevirtual 250, 3) := by decide +kernel
theorem dX11_findForm_105 : decode cX11_findForm 105 = .ok (.aload_n 0, 1) := by decide +kernel
theorem dX11_findForm_106 : decode cX11_findForm 106 = .ok (.bipush 12, 2) := by decide +kernel
theorem dX11_findForm_108 : decode cX11_findForm 108 = .ok (.invokevirtual 253, 3) := by decide +kernel
theorem dX11_findForm_111 : decode cX11_findForm 111 = .ok (.goto 33, 3) := by decide +kernel
theorem dX11_findForm_114 : decode cX11_findForm 114 = .ok (.aload_n 0, 1) := by decide +kernel
theorem dX11_findForm_115 : decode cX11_findForm 115 = .ok (.iload_n 3, 1) := by decide +kernel
theorem dX11_findForm_116 : decode cX11_findForm 116 = .ok (.bipush 42, 2) := by decide +kernel
theorem dX11_findForm_118 : decode cX11_findForm 118 = .ok (.if_icmp .ne 8, 3) := by decide +kernel
theorem dX11_findForm_121 : decode cX11_findForm 121 = .ok (.bipush 13, 2) := by decide +kernel
theorem dX11_findForm_123 : decode cX11_findForm 123 = .ok (.goto 18, 3) := by decide +kernel
theorem dX11_findForm_126 : decode cX11_findForm 126 = .ok (.iload_n 3, 1) := by decide +kernel
theorem dX11_findForm_127 : decode cX11_findForm 127 = .ok (.bipush 49, 2) := by decide +kernel
theorem dX11_findForm_129 : decode cX11_findForm 129 = .ok (.if_icmp .ne 8, 3) := by decide +kernel
theorem dX11_findForm_132 : decode cX11_findForm 132 = .ok (.bipush 10, 2) := by decide +kernel
theorem dX11_findForm_134 : decode cX11_findForm 134 = .ok (.goto 7, 3) := by decide +kernel
theorem dX11_findForm_137 : decode cX11_findForm 137 = .ok (.iload_n 3, 1) := by decide +kernel
theorem dX11_findForm_138 : decode cX11_findForm 138 = .ok (.bipush 97, 2) := by decide +kernel
theorem dX11_findForm_140 : decode cX11_findForm 140 = .ok (.isub, 1) := by decide +kernel
theorem dX11_findForm_141 : decode cX11_findForm 141 = .ok (.invokevirtual 247, 3) := by decide +kernel
theorem dX11_findForm_144 : decode cX11_findForm 144 = .ok (.iload_n 3, 1) := by decide +kernel
theorem dX11_findForm_145 : decode cX11_findForm 145 = .ok (.bipush 40, 2) := by decide +kernel
theorem dX11_findForm_147 : decode cX11_findForm 147 = .ok (.if_icmp .eq 13, 3) := by decide +kernel
theorem dX11_findForm_150 : decode cX11_findForm 150 = .ok (.iload_n 3, 1) := by decide +kernel
theorem dX11_findForm_151 : decode cX11_findForm 151 = .ok (.bipush 43, 2) := by decide +kernel
theorem dX11_findForm_153 : decode cX11_findForm 153 = .ok (.if_icmp .eq 7, 3) := by decide +kernel
theorem dX11_findForm_156 : decode cX11_findForm 156 = .ok (.iconst 1, 1) := by decide +kernel
theorem dX11_findForm_157 : decode cX11_findForm 157 = .ok (.goto 4, 3) := by decide +kernel
theorem dX11_findForm_160 : decode cX11_findForm 160 = .ok (.iconst 0, 1) := by decide +kernel
theorem dX11_findForm_161 : decode cX11_findForm 161 = .ok (.istore_n 1, 1) := by decide +kernel
theorem dX11_findForm_162 : decode cX11_findForm 162 = .ok (.iinc 2 1, 3) := by decide +kernel
theorem dX11_findForm_165 : decode cX11_findForm 165 = .ok (.goto (-151), 3) := by decide +kernel
theorem dX11_findForm_168 : decode cX11_findForm 168 = .ok (.aload_n 0, 1) := by decide +kernel
theorem dX11_findForm_169 : decode cX11_findForm 169 = .ok (.bipush 12, 2) := by decide +kernel
theorem dX11_findForm_171 : decode cX11_findForm 171 = .ok (.invokevirtual 250, 3) := by decide +kernel
theorem dX11_findForm_174 : decode cX11_findForm 174 = .ok (.return_, 1) := by decide +kernel
theorem dX11_state_0 : decode cX11_state 0 = .ok (.aload_n 0, 1) := by decide +kernel
theorem dX11_state_1 : decode cX11_state 1 = .ok (.getfield 69, 3) := by decide +kernel
theorem dX11_state_4 : decode cX11_state 4 = .ok (.aload_n 0, 1) := by decide +kernel
theorem dX11_state_5 : decode cX11_state 5 = .ok (.getfield 256, 3) := by decide +kernel
theorem dX11_state_8 : decode cX11_state 8 = .ok (.iconst (-1), 1) := by decide +kernel
theorem dX11_state_9 : decode cX11_state 9 = .ok (.iastore, 1) := by decide +kernel
theorem dX11_state_10 : decode cX11_state 10 = .ok (.aload_n 0, 1) := by decide +kernel
theorem dX11_state_11 : decode cX11_state 11 = .ok (.getfield 75, 3) := by decide +kernel
theorem dX11_state_14 : decode cX11_state 14 = .ok (.aload_n 0, 1) := by decide +kernel
theorem dX11_state_15 : decode cX11_state 15 = .ok (.getfield 256, 3) := by decide +kernel
theorem dX11_state_18 : decode cX11_state 18 = .ok (.iconst (-1), 1) := by decide +kernel
theorem dX11_state_19 : decode cX11_state 19 = .ok (.iastore, 1) := by decide +kernel
theorem dX11_state_20 : decode cX11_state 20 = .ok (.aload_n 0, 1) := by decide +kernel
theorem dX11_state_21 : decode cX11_state 21 = .ok (.getfield 78, 3) := by decide +kernel
theorem dX11_state_24 : decode cX11_state 24 = .ok (.aload_n 0, 1) := by decide +kernel
theorem dX11_state_25 : decode cX11_state 25 = .ok (.getfield 256, 3) := by decide +kernel
theorem dX11_state_28 : decode cX11_state 28 = .ok (.iconst (-1), 1) := by decide +kernel
theorem dX11_state_29 : decode cX11_state 29 = .ok (.iastore, 1) := by decide +kernel
theorem dX11_state_30 : decode cX11_state 30 = .ok (.aload_n 0, 1) := by decide +kernel
theorem dX11_state_31 : decode cX11_state 31 = .ok (.dup, 1) := by decide +kernel
theorem dX11_state_32 : decode cX11_state 32 = .ok (.getfield 256, 3) := by decide +kernel
theorem dX11_state_35 : decode cX11_state 35 = .ok (.iconst 1, 1) := by decide +kernel
theorem dX11_state_36 : decode cX11_state 36 = .ok (.iadd, 1) := by decide +kernel
theorem dX11_state_37 : decode cX11_state 37 = .ok (.putfield 256, 3) := by decide +kernel
theorem dX11_state_40 : decode cX11_state 40 = .ok (.aload_n 0, 1) := by decide +kernel
theorem dX11_state_41 : decode cX11_state 41 = .ok (.getfield 256, 3) := by decide +kernel
theorem dX11_state_44 : decode cX11_state 44 = .ok (.iconst 1, 1) := by decide +kernel
theorem dX11_state_45 : decode cX11_state 45 = .ok (.isub, 1) := by decide +kernel
theorem dX11_state_46 : decode cX11_state 46 = .ok (.ireturn, 1) := by decide +kernel
theorem dX11_joins_0 : decode cX11_joins 0 = .ok (.aload_n 0, 1) := by decide +kernel
theorem dX11_joins_1 : decode cX11_joins 1 = .ok (.getfield 75, 3) := by decide +kernel
theorem dX11_joins_4 : decode cX11_joins 4 = .ok (.iload_n 1, 1) := by decide +kernel
theorem dX11_joins_5 : decode cX11_joins 5 = .ok (.iaload, 1) := by decide +kernel
theorem dX11_joins_6 : decode cX11_joins 6 = .ok (.ifCond .ge 13, 3) := by decide +kernel
theorem dX11_joins_9 : decode cX11_joins 9 = .ok (.aload_n 0, 1) := by decide +kernel
theorem dX11_joins_10 : decode cX11_joins 10 = .ok (.getfield 75, 3) := by decide +kernel
theorem dX11_joins_13 : decode cX11_joins 13 = .ok (.iload_n 1, 1) := by decide +kernel
theorem dX11_joins_14 : decode cX11_joins 14 = .ok (.iload_n 2, 1) := by decide +kernel
theorem dX11_joins_15 : decode cX11_joins 15 = .ok (.iastore, 1) := by decide +kernel
theorem dX11_joins_16 : decode cX11_joins 16 = .ok (.goto 10, 3) := by decide +kernel
theorem dX11_joins_19 : decode cX11_joins 19 = .ok (.aload_n 0, 1) := by decide +kernel
theorem dX11_joins_20 : decode cX11_joins 20 = .ok (.getfield 78, 3) := by decide +kernel
theorem dX11_joins_23 : decode cX11_joins 23 = .ok (.iload_n 1, 1) := by decide +kernel
theorem dX11_joins_24 : decode cX11_joins 24 = .ok (.iload_n 2, 1) := by decide +kernel
theorem dX11_joins_25 : decode cX11_joins 25 = .ok (.iastore, 1) := by decide +kernel
theorem dX11_joins_26 : decode cX11_joins 26 = .ok (.return_, 1) := by decide +kernel
set_option maxRecDepth 20000 in
theorem ggX11_builds_X11_state : GoodIn wsX11_builds wsX11_state := goodIn_r _ [12, 6, 1, 13, 14, 27, 28, 29, 30, 31, 32, 33, 34, 35, 36, 37, 38, 39, 40, 41, 42, 43, 44, 45, 46, 47, 48, 49, 50, 51, 52, 53, 54, 55, 56, 57, 58, 59, 60, 61, 62, 63, 64, 65] (by decide +kernel) (by decide +kernel)
set_option maxRecDepth 20000 in
theorem gX11_builds_X11_state : GoodIn wsX11_builds (wsV RX11 259 RX11 yX11_state wsX11_state) := goodIn_app (goodIn_of _ (by decide +kernel)) ggX11_builds_X11_state
set_option maxRecDepth 20000 in
theorem ggX11_builds_X11_joins : GoodIn wsX11_builds wsX11_joins := goodIn_r _ [18, 13, 14, 27, 28, 29, 30, 31, 32, 33, 34, 35, 36, 37, 38, 39, 40, 41, 42, 43, 44, 45, 46, 47, 48, 49, 50, 51, 52, 53, 54, 55, 56, 57, 58, 59, 60, 61, 62, 63, 64, 65] (by decide +kernel) (by decide +kernel)
set_option maxRecDepth 20000 in
theorem gX11_builds_X11_joins : GoodIn wsX11_builds (wsV RX11 262 RX11 yX11_joins wsX11_joins) := goodIn_app (goodIn_of _ (by decide +kernel)) ggX11_builds_X11_joins
set_option maxRecDepth 20000 in
theorem ggX11_builds_X11_sums : GoodIn wsX11_builds wsX11_sums := goodIn_r _ [22, 4, 5, 8, 9, 10, 11, 12, 6, 1, 13, 14, 15, 16, 17, 18, 27, 28, 29, 30, 31, 32, 33, 34, 35, 36, 37, 38, 39, 40, 41, 42, 43, 44, 45, 46, 47, 48, 49, 50, 51, 52, 53, 54, 55, 56, 57, 58, 59, 60, 61, 62, 63, 64, 65] (by decide +kernel) (by decide +kernel)
set_option maxRecDepth 20000 in
theorem gX11_builds_X11_sums : GoodIn wsX11_builds (wsV RX11 265 RX11 yX11_sums wsX11_sums) := goodIn_app (goodIn_of _ (by decide +kernel)) ggX11_builds_X11_sums
set_option maxRecDepth 20000 in
theorem ggX11_builds_X11_stars : GoodIn wsX11_builds wsX11_stars := goodIn_r _ [26, 4, 5, 8, 9, 10, 11, 12, 6, 1, 13, 14, 15, 16, 17, 18, 27, 28, 29, 30, 31, 32, 33, 34, 35, 36, 37, 38, 39, 40, 41, 42, 43, 44, 45, 46, 47, 48, 49, 50, 51, 52, 53, 54, 55, 56, 57, 58, 59, 60, 61, 62, 63, 64, 65] (by decide +kernel) (by decide +kernel)
set_option maxRecDepth 20000 in
theorem gX11_builds_X11_stars : GoodIn wsX11_builds (wsV RX11 268 RX11 yX11_stars wsX11_stars) := goodIn_app (goodIn_of _ (by decide +kernel)) ggX11_builds_X11_stars
theorem dX11_builds_0 : decode cX11_builds 0 = .ok (.aload_n 0, 1) := by decide +kernel
theorem dX11_builds_1 : decode cX11_builds 1 = .ok (.iconst 0, 1) := by decide +kernel
theorem dX11_builds_2 : decode cX11_builds 2 = .ok (.putfield 256, 3) := by decide +kernel
theorem dX11_builds_5 : decode cX11_builds 5 = .ok (.iconst 0, 1) := by decide +kernel
theorem dX11_builds_6 : decode cX11_builds 6 = .ok (.istore_n 1, 1) := by decide +kernel
theorem dX11_builds_7 : decode cX11_builds 7 = .ok (.iconst 0, 1) := by decide +kernel
theorem dX11_builds_8 : decode cX11_builds 8 = .ok (.istore_n 2, 1) := by decide +kernel
theorem dX11_builds_9 : decode cX11_builds 9 = .ok (.iload_n 2, 1) := by decide +kernel
theorem dX11_builds_10 : decode cX11_builds 10 = .ok (.aload_n 0, 1) := by decide +kernel
theorem dX11_builds_11 : decode cX11_builds 11 = .ok (.getfield 241, 3) := by decide +kernel
theorem dX11_builds_14 : decode cX11_builds 14 = .ok (.if_icmp .ge 170, 3) := by decide +kernel
theorem dX11_builds_17 : decode cX11_builds 17 = .ok (.aload_n 0, 1) := by decide +kernel
theorem dX11_builds_18 : decode cX11_builds 18 = .ok (.getfield 63, 3) := by decide +kernel
theorem dX11_builds_21 : decode cX11_builds 21 = .ok (.iload_n 2, 1) := by decide +kernel
theorem dX11_builds_22 : decode cX11_builds 22 = .ok (.iaload, 1) := by decide +kernel
theorem dX11_builds_23 : decode cX11_builds 23 = .ok (.istore_n 3, 1) := by decide +kernel
theorem dX11_builds_24 : decode cX11_builds 24 = .ok (.iload_n 3, 1) := by decide +kernel
theorem dX11_builds_25 : decode cX11_builds 25 = .ok (.bipush 11, 2) := by decide +kernel
theorem dX11_builds_27 : decode cX11_builds 27 = .ok (.if_icmp .ge 83, 3) := by decide +kernel
theorem dX11_builds_30 : decode cX11_builds 30 = .ok (.aload_n 0, 1) := by decide +kernel
theorem dX11_builds_31 : decode cX11_builds 31 = .ok (.getfield 81, 3) := by decide +kernel
theorem dX11_builds_34 : decode cX11_builds 34 = .ok (.iload_n 1, 1) := by decide +kernel
theorem dX11_builds_35 : decode cX11_builds 35 = .ok (.aload_n 0, 1) := by decide +kernel
theorem dX11_builds_36 : decode cX11_builds 36 = .ok (.invokevirtual 259, 3) := by decide +kernel
theorem dX11_builds_39 : decode cX11_builds 39 = .ok (.iastore, 1) := by decide +kernel
theorem dX11_builds_40 : decode cX11_builds 40 = .ok (.aload_n 0, 1) := by decide +kernel
theorem dX11_builds_41 : decode cX11_builds 41 = .ok (.getfield 84, 3) := by decide +kernel
theorem dX11_builds_44 : decode cX11_builds 44 = .ok (.iload_n 1, 1) := by decide +kernel
theorem dX11_builds_45 : decode cX11_builds 45 = .ok (.aload_n 0, 1) := by decide +kernel
theorem dX11_builds_46 : decode cX11_builds 46 = .ok (.invokevirtual 259, 3) := by decide +kernel
theorem dX11_builds_49 : decode cX11_builds 49 = .ok (.iastore, 1) := by decide +kernel
theorem dX11_builds_50 : decode cX11_builds 50 = .ok (.iload_n 3, 1) := by decide +kernel
theorem dX11_builds_51 : decode cX11_builds 51 = .ok (.bipush 10, 2) := by decide +kernel
theorem dX11_builds_53 : decode cX11_builds 53 = .ok (.if_icmp .ne 22, 3) := by decide +kernel
theorem dX11_builds_56 : decode cX11_builds 56 = .ok (.aload_n 0, 1) := by decide +kernel
theorem dX11_builds_57 : decode cX11_builds 57 = .ok (.aload_n 0, 1) := by decide +kernel
theorem dX11_builds_58 : decode cX11_builds 58 = .ok (.getfield 81, 3) := by decide +kernel
theorem dX11_builds_61 : decode cX11_builds 61 = .ok (.iload_n 1, 1) := by decide +kernel
theorem dX11_builds_62 : decode cX11_builds 62 = .ok (.iaload, 1) := by decide +kernel
theorem dX11_builds_63 : decode cX11_builds 63 = .ok (.aload_n 0, 1) := by decide +kernel
theorem dX11_builds_64 : decode cX11_builds 64 = .ok (.getfield 84, 3) := by decide +kernel
theorem dX11_builds_67 : decode cX11_builds 67 = .ok (.iload_n 1, 1) := by decide +kernel
theorem dX11_builds_68 : decode cX11_builds 68 = .ok (.iaload, 1) := by decide +kernel
theorem dX11_builds_69 : decode cX11_builds 69 = .ok (.invokevirtual 262, 3) := by decide +kernel
theorem dX11_builds_72 : decode cX11_builds 72 = .ok (.goto 32, 3) := by decide +kernel
theorem dX11_builds_75 : decode cX11_builds 75 = .ok (.aload_n 0, 1) := by decide +kernel
theorem dX11_builds_76 : decode cX11_builds 76 = .ok (.getfield 69, 3) := by decide +kernel
