theorem dX0_init_0 : decode cX0_init 0 = .ok (.aload_n 0, 1) := by decide +kernel
theorem dX0_init_1 : decode cX0_init 1 = .ok (.invokespecial 3, 3) := by decide +kernel
theorem dX0_init_4 : decode cX0_init 4 = .ok (.aload_n 0, 1) := by decide +kernel
theorem dX0_init_5 : decode cX0_init 5 = .ok (.bipush 6, 2) := by decide +kernel
theorem dX0_init_7 : decode cX0_init 7 = .ok (.newarray .int, 2) := by decide +kernel
theorem dX0_init_9 : decode cX0_init 9 = .ok (.putfield 9, 3) := by decide +kernel
theorem dX0_init_12 : decode cX0_init 12 = .ok (.return_, 1) := by decide +kernel
set_option maxRecDepth 20000 in
theorem ggX0_begin_J7_fill_53178 : GoodIn wsX0_begin wsJ7_fill_53178 := goodIn_r _ [6] (by decide +kernel) (by decide +kernel)
set_option maxRecDepth 20000 in
theorem gX0_begin_J7_fill_53178 : GoodIn wsX0_begin (va_wsS RX0 19 yJ7_fill_53178 wsJ7_fill_53178) := goodIn_app (goodIn_of _ (by decide +kernel)) ggX0_begin_J7_fill_53178
theorem dX0_begin_0 : decode cX0_begin 0 = .ok (.aload_n 0, 1) := by decide +kernel
theorem dX0_begin_1 : decode cX0_begin 1 = .ok (.iload_n 1, 1) := by decide +kernel
theorem dX0_begin_2 : decode cX0_begin 2 = .ok (.putfield 15, 3) := by decide +kernel
theorem dX0_begin_5 : decode cX0_begin 5 = .ok (.aload_n 0, 1) := by decide +kernel
theorem dX0_begin_6 : decode cX0_begin 6 = .ok (.getfield 9, 3) := by decide +kernel
theorem dX0_begin_9 : decode cX0_begin 9 = .ok (.iconst 0, 1) := by decide +kernel
theorem dX0_begin_10 : decode cX0_begin 10 = .ok (.invokestatic 19, 3) := by decide +kernel
theorem dX0_begin_13 : decode cX0_begin 13 = .ok (.return_, 1) := by decide +kernel
theorem dX0_become_0 : decode cX0_become 0 = .ok (.aload_n 0, 1) := by decide +kernel
theorem dX0_become_1 : decode cX0_become 1 = .ok (.aload_n 1, 1) := by decide +kernel
theorem dX0_become_2 : decode cX0_become 2 = .ok (.getfield 15, 3) := by decide +kernel
theorem dX0_become_5 : decode cX0_become 5 = .ok (.putfield 15, 3) := by decide +kernel
theorem dX0_become_8 : decode cX0_become 8 = .ok (.iconst 0, 1) := by decide +kernel
theorem dX0_become_9 : decode cX0_become 9 = .ok (.istore_n 2, 1) := by decide +kernel
theorem dX0_become_10 : decode cX0_become 10 = .ok (.iload_n 2, 1) := by decide +kernel
theorem dX0_become_11 : decode cX0_become 11 = .ok (.bipush 6, 2) := by decide +kernel
theorem dX0_become_13 : decode cX0_become 13 = .ok (.if_icmp .ge 21, 3) := by decide +kernel
theorem dX0_become_16 : decode cX0_become 16 = .ok (.aload_n 0, 1) := by decide +kernel
theorem dX0_become_17 : decode cX0_become 17 = .ok (.getfield 9, 3) := by decide +kernel
theorem dX0_become_20 : decode cX0_become 20 = .ok (.iload_n 2, 1) := by decide +kernel
theorem dX0_become_21 : decode cX0_become 21 = .ok (.aload_n 1, 1) := by decide +kernel
theorem dX0_become_22 : decode cX0_become 22 = .ok (.getfield 9, 3) := by decide +kernel
theorem dX0_become_25 : decode cX0_become 25 = .ok (.iload_n 2, 1) := by decide +kernel
theorem dX0_become_26 : decode cX0_become 26 = .ok (.iaload, 1) := by decide +kernel
theorem dX0_become_27 : decode cX0_become 27 = .ok (.iastore, 1) := by decide +kernel
theorem dX0_become_28 : decode cX0_become 28 = .ok (.iinc 2 1, 3) := by decide +kernel
theorem dX0_become_31 : decode cX0_become 31 = .ok (.goto (-21), 3) := by decide +kernel
theorem dX0_become_34 : decode cX0_become 34 = .ok (.return_, 1) := by decide +kernel
theorem dX0_has_0 : decode cX0_has 0 = .ok (.iload_n 1, 1) := by decide +kernel
theorem dX0_has_1 : decode cX0_has 1 = .ok (.ifCond .lt 21, 3) := by decide +kernel
theorem dX0_has_4 : decode cX0_has 4 = .ok (.iload_n 1, 1) := by decide +kernel
theorem dX0_has_5 : decode cX0_has 5 = .ok (.aload_n 0, 1) := by decide +kernel
theorem dX0_has_6 : decode cX0_has 6 = .ok (.getfield 15, 3) := by decide +kernel
theorem dX0_has_9 : decode cX0_has 9 = .ok (.if_icmp .ge 13, 3) := by decide +kernel
theorem dX0_has_12 : decode cX0_has 12 = .ok (.iload_n 1, 1) := by decide +kernel
theorem dX0_has_13 : decode cX0_has 13 = .ok (.bipush 6, 2) := by decide +kernel
theorem dX0_has_15 : decode cX0_has 15 = .ok (.if_icmp .ge 7, 3) := by decide +kernel
theorem dX0_has_18 : decode cX0_has 18 = .ok (.iconst 1, 1) := by decide +kernel
theorem dX0_has_19 : decode cX0_has 19 = .ok (.goto 4, 3) := by decide +kernel
theorem dX0_has_22 : decode cX0_has 22 = .ok (.iconst 0, 1) := by decide +kernel
theorem dX0_has_23 : decode cX0_has 23 = .ok (.ireturn, 1) := by decide +kernel
theorem dX0_freeOf_0 : decode cX0_freeOf 0 = .ok (.iload_n 1, 1) := by decide +kernel
theorem dX0_freeOf_1 : decode cX0_freeOf 1 = .ok (.ifCond .lt 18, 3) := by decide +kernel
theorem dX0_freeOf_4 : decode cX0_freeOf 4 = .ok (.iload_n 1, 1) := by decide +kernel
theorem dX0_freeOf_5 : decode cX0_freeOf 5 = .ok (.bipush 6, 2) := by decide +kernel
theorem dX0_freeOf_7 : decode cX0_freeOf 7 = .ok (.if_icmp .ge 12, 3) := by decide +kernel
theorem dX0_freeOf_10 : decode cX0_freeOf 10 = .ok (.aload_n 0, 1) := by decide +kernel
theorem dX0_freeOf_11 : decode cX0_freeOf 11 = .ok (.getfield 9, 3) := by decide +kernel
theorem dX0_freeOf_14 : decode cX0_freeOf 14 = .ok (.iload_n 1, 1) := by decide +kernel
theorem dX0_freeOf_15 : decode cX0_freeOf 15 = .ok (.iaload, 1) := by decide +kernel
theorem dX0_freeOf_16 : decode cX0_freeOf 16 = .ok (.goto 4, 3) := by decide +kernel
theorem dX0_freeOf_19 : decode cX0_freeOf 19 = .ok (.iconst 0, 1) := by decide +kernel
theorem dX0_freeOf_20 : decode cX0_freeOf 20 = .ok (.ireturn, 1) := by decide +kernel
set_option maxRecDepth 20000 in
theorem ggX0_areFree_X0_has : GoodIn wsX0_areFree wsX0_has := goodIn_r _ [5, 6, 12, 13] (by decide +kernel) (by decide +kernel)
set_option maxRecDepth 20000 in
theorem gX0_areFree_X0_has : GoodIn wsX0_areFree (wsV RX0 25 RX0 yX0_has wsX0_has) := goodIn_app (goodIn_of _ (by decide +kernel)) ggX0_areFree_X0_has
set_option maxRecDepth 20000 in
theorem ggX0_areFree_X0_freeOf : GoodIn wsX0_areFree wsX0_freeOf := goodIn_r _ [10, 11, 12, 13] (by decide +kernel) (by decide +kernel)
set_option maxRecDepth 20000 in
theorem gX0_areFree_X0_freeOf : GoodIn wsX0_areFree (wsV RX0 29 RX0 yX0_freeOf wsX0_freeOf) := goodIn_app (goodIn_of _ (by decide +kernel)) ggX0_areFree_X0_freeOf
theorem dX0_areFree_0 : decode cX0_areFree 0 = .ok (.aload_n 0, 1) := by decide +kernel
theorem dX0_areFree_1 : decode cX0_areFree 1 = .ok (.iload_n 2, 1) := by decide +kernel
theorem dX0_areFree_2 : decode cX0_areFree 2 = .ok (.invokevirtual 25, 3) := by decide +kernel
theorem dX0_areFree_5 : decode cX0_areFree 5 = .ok (.ifCond .eq 19, 3) := by decide +kernel
theorem dX0_areFree_8 : decode cX0_areFree 8 = .ok (.aload_n 0, 1) := by decide +kernel
theorem dX0_areFree_9 : decode cX0_areFree 9 = .ok (.iload_n 1, 1) := by decide +kernel
theorem dX0_areFree_10 : decode cX0_areFree 10 = .ok (.invokevirtual 29, 3) := by decide +kernel
theorem dX0_areFree_13 : decode cX0_areFree 13 = .ok (.iload_n 2, 1) := by decide +kernel
theorem dX0_areFree_14 : decode cX0_areFree 14 = .ok (.ishr, 1) := by decide +kernel
theorem dX0_areFree_15 : decode cX0_areFree 15 = .ok (.iconst 1, 1) := by decide +kernel
theorem dX0_areFree_16 : decode cX0_areFree 16 = .ok (.iand, 1) := by decide +kernel
theorem dX0_areFree_17 : decode cX0_areFree 17 = .ok (.ifCond .eq 7, 3) := by decide +kernel
theorem dX0_areFree_20 : decode cX0_areFree 20 = .ok (.iconst 1, 1) := by decide +kernel
theorem dX0_areFree_21 : decode cX0_areFree 21 = .ok (.goto 4, 3) := by decide +kernel
theorem dX0_areFree_24 : decode cX0_areFree 24 = .ok (.iconst 0, 1) := by decide +kernel
theorem dX0_areFree_25 : decode cX0_areFree 25 = .ok (.ireturn, 1) := by decide +kernel
set_option maxRecDepth 20000 in
theorem ggX0_join_X0_has : GoodIn wsX0_join wsX0_has := goodIn_r _ [6, 7, 8, 9] (by decide +kernel) (by decide +kernel)
set_option maxRecDepth 20000 in
theorem gX0_join_X0_has : GoodIn wsX0_join (wsV RX0 25 RX0 yX0_has wsX0_has) := goodIn_app (goodIn_of _ (by decide +kernel)) ggX0_join_X0_has
theorem dX0_join_0 : decode cX0_join 0 = .ok (.aload_n 0, 1) := by decide +kernel
theorem dX0_join_1 : decode cX0_join 1 = .ok (.iload_n 1, 1) := by decide +kernel
theorem dX0_join_2 : decode cX0_join 2 = .ok (.invokevirtual 25, 3) := by decide +kernel
theorem dX0_join_5 : decode cX0_join 5 = .ok (.ifCond .eq 16, 3) := by decide +kernel
theorem dX0_join_8 : decode cX0_join 8 = .ok (.aload_n 0, 1) := by decide +kernel
theorem dX0_join_9 : decode cX0_join 9 = .ok (.iload_n 2, 1) := by decide +kernel
theorem dX0_join_10 : decode cX0_join 10 = .ok (.invokevirtual 25, 3) := by decide +kernel
theorem dX0_join_13 : decode cX0_join 13 = .ok (.ifCond .eq 8, 3) := by decide +kernel
theorem dX0_join_16 : decode cX0_join 16 = .ok (.iload_n 1, 1) := by decide +kernel
theorem dX0_join_17 : decode cX0_join 17 = .ok (.iload_n 2, 1) := by decide +kernel
theorem dX0_join_18 : decode cX0_join 18 = .ok (.if_icmp .ne 4, 3) := by decide +kernel
theorem dX0_join_21 : decode cX0_join 21 = .ok (.return_, 1) := by decide +kernel
theorem dX0_join_22 : decode cX0_join 22 = .ok (.iload_n 3, 1) := by decide +kernel
theorem dX0_join_23 : decode cX0_join 23 = .ok (.ifCond .eq 30, 3) := by decide +kernel
theorem dX0_join_26 : decode cX0_join 26 = .ok (.aload_n 0, 1) := by decide +kernel
theorem dX0_join_27 : decode cX0_join 27 = .ok (.getfield 9, 3) := by decide +kernel
theorem dX0_join_30 : decode cX0_join 30 = .ok (.iload_n 1, 1) := by decide +kernel
theorem dX0_join_31 : decode cX0_join 31 = .ok (.dup2, 1) := by decide +kernel
theorem dX0_join_32 : decode cX0_join 32 = .ok (.iaload, 1) := by decide +kernel
theorem dX0_join_33 : decode cX0_join 33 = .ok (.iconst 1, 1) := by decide +kernel
theorem dX0_join_34 : decode cX0_join 34 = .ok (.iload_n 2, 1) := by decide +kernel
theorem dX0_join_35 : decode cX0_join 35 = .ok (.ishl, 1) := by decide +kernel
theorem dX0_join_36 : decode cX0_join 36 = .ok (.ior, 1) := by decide +kernel
theorem dX0_join_37 : decode cX0_join 37 = .ok (.iastore, 1) := by decide +kernel
theorem dX0_join_38 : decode cX0_join 38 = .ok (.aload_n 0, 1) := by decide +kernel
theorem dX0_join_39 : decode cX0_join 39 = .ok (.getfield 9, 3) := by decide +kernel
theorem dX0_join_42 : decode cX0_join 42 = .ok (.iload_n 2, 1) := by decide +kernel
theorem dX0_join_43 : decode cX0_join 43 = .ok (.dup2, 1) := by decide +kernel
theorem dX0_join_44 : decode cX0_join 44 = .ok (.iaload, 1) := by decide +kernel
theorem dX0_join_45 : decode cX0_join 45 = .ok (.iconst 1, 1) := by decide +kernel
theorem dX0_join_46 : decode cX0_join 46 = .ok (.iload_n 1, 1) := by decide +kernel
theorem dX0_join_47 : decode cX0_join 47 = .ok (.ishl, 1) := by decide +kernel
theorem dX0_join_48 : decode cX0_join 48 = .ok (.ior, 1) := by decide +kernel
theorem dX0_join_49 : decode cX0_join 49 = .ok (.iastore, 1) := by decide +kernel
theorem dX0_join_50 : decode cX0_join 50 = .ok (.goto 31, 3) := by decide +kernel
theorem dX0_join_53 : decode cX0_join 53 = .ok (.aload_n 0, 1) := by decide +kernel
theorem dX0_join_54 : decode cX0_join 54 = .ok (.getfield 9, 3) := by decide +kernel
theorem dX0_join_57 : decode cX0_join 57 = .ok (.iload_n 1, 1) := by decide +kernel
theorem dX0_join_58 : decode cX0_join 58 = .ok (.dup2, 1) := by decide +kernel
theorem dX0_join_59 : decode cX0_join 59 = .ok (.iaload, 1) := by decide +kernel
theorem dX0_join_60 : decode cX0_join 60 = .ok (.iconst 1, 1) := by decide +kernel
theorem dX0_join_61 : decode cX0_join 61 = .ok (.iload_n 2, 1) := by decide +kernel
theorem dX0_join_62 : decode cX0_join 62 = .ok (.ishl, 1) := by decide +kernel
theorem dX0_join_63 : decode cX0_join 63 = .ok (.iconst (-1), 1) := by decide +kernel
theorem dX0_join_64 : decode cX0_join 64 = .ok (.ixor, 1) := by decide +kernel
theorem dX0_join_65 : decode cX0_join 65 = .ok (.iand, 1) := by decide +kernel
theorem dX0_join_66 : decode cX0_join 66 = .ok (.iastore, 1) := by decide +kernel
theorem dX0_join_67 : decode cX0_join 67 = .ok (.aload_n 0, 1) := by decide +kernel
theorem dX0_join_68 : decode cX0_join 68 = .ok (.getfield 9, 3) := by decide +kernel
theorem dX0_join_71 : decode cX0_join 71 = .ok (.iload_n 2, 1) := by decide +kernel
theorem dX0_join_72 : decode cX0_join 72 = .ok (.dup2, 1) := by decide +kernel
theorem dX0_join_73 : decode cX0_join 73 = .ok (.iaload, 1) := by decide +kernel
theorem dX0_join_74 : decode cX0_join 74 = .ok (.iconst 1, 1) := by decide +kernel
theorem dX0_join_75 : decode cX0_join 75 = .ok (.iload_n 1, 1) := by decide +kernel
theorem dX0_join_76 : decode cX0_join 76 = .ok (.ishl, 1) := by decide +kernel
theorem dX0_join_77 : decode cX0_join 77 = .ok (.iconst (-1), 1) := by decide +kernel
theorem dX0_join_78 : decode cX0_join 78 = .ok (.ixor, 1) := by decide +kernel
theorem dX0_join_79 : decode cX0_join 79 = .ok (.iand, 1) := by decide +kernel
theorem dX0_join_80 : decode cX0_join 80 = .ok (.iastore, 1) := by decide +kernel
theorem dX0_join_81 : decode cX0_join 81 = .ok (.return_, 1) := by decide +kernel
set_option maxRecDepth 20000 in
theorem ggX0_areAllFree_X0_freeOf : GoodIn wsX0_areAllFree wsX0_freeOf := goodIn_r _ [6, 7, 8, 9] (by decide +kernel) (by decide +kernel)
set_option maxRecDepth 20000 in
theorem gX0_areAllFree_X0_freeOf : GoodIn wsX0_areAllFree (wsV RX0 29 RX0 yX0_freeOf wsX0_freeOf) := goodIn_app (goodIn_of _ (by decide +kernel)) ggX0_areAllFree_X0_freeOf
theorem dX0_areAllFree_0 : decode cX0_areAllFree 0 = .ok (.iconst 0, 1) := by decide +kernel
theorem dX0_areAllFree_1 : decode cX0_areAllFree 1 = .ok (.istore_n 3, 1) := by decide +kernel
theorem dX0_areAllFree_2 : decode cX0_areAllFree 2 = .ok (.iload_n 3, 1) := by decide +kernel
theorem dX0_areAllFree_3 : decode cX0_areAllFree 3 = .ok (.aload_n 0, 1) := by decide +kernel
theorem dX0_areAllFree_4 : decode cX0_areAllFree 4 = .ok (.getfield 15, 3) := by decide +kernel
theorem dX0_areAllFree_7 : decode cX0_areAllFree 7 = .ok (.if_icmp .ge 31, 3) := by decide +kernel
theorem dX0_areAllFree_10 : decode cX0_areAllFree 10 = .ok (.iload_n 1, 1) := by decide +kernel
theorem dX0_areAllFree_11 : decode cX0_areAllFree 11 = .ok (.iload_n 3, 1) := by decide +kernel
theorem dX0_areAllFree_12 : decode cX0_areAllFree 12 = .ok (.ishr, 1) := by decide +kernel
theorem dX0_areAllFree_13 : decode cX0_areAllFree 13 = .ok (.iconst 1, 1) := by decide +kernel
theorem dX0_areAllFree_14 : decode cX0_areAllFree 14 = .ok (.iand, 1) := by decide +kernel
theorem dX0_areAllFree_15 : decode cX0_areAllFree 15 = .ok (.ifCond .eq 17, 3) := by decide +kernel
theorem dX0_areAllFree_18 : decode cX0_areAllFree 18 = .ok (.iload_n 2, 1) := by decide +kernel
theorem dX0_areAllFree_19 : decode cX0_areAllFree 19 = .ok (.aload_n 0, 1) := by decide +kernel
theorem dX0_areAllFree_20 : decode cX0_areAllFree 20 = .ok (.iload_n 3, 1) := by decide +kernel
theorem dX0_areAllFree_21 : decode cX0_areAllFree 21 = .ok (.invokevirtual 29, 3) := by decide +kernel
theorem dX0_areAllFree_24 : decode cX0_areAllFree 24 = .ok (.iconst (-1), 1) := by decide +kernel
theorem dX0_areAllFree_25 : decode cX0_areAllFree 25 = .ok (.ixor, 1) := by decide +kernel
theorem dX0_areAllFree_26 : decode cX0_areAllFree 26 = .ok (.iand, 1) := by decide +kernel
theorem dX0_areAllFree_27 : decode cX0_areAllFree 27 = .ok (.ifCond .eq 5, 3) := by decide +kernel
theorem dX0_areAllFree_30 : decode cX0_areAllFree 30 = .ok (.iconst 0, 1) := by decide +kernel
theorem dX0_areAllFree_31 : decode cX0_areAllFree 31 = .ok (.ireturn, 1) := by decide +kernel
theorem dX0_areAllFree_32 : decode cX0_areAllFree 32 = .ok (.iinc 3 1, 3) := by decide +kernel
theorem dX0_areAllFree_35 : decode cX0_areAllFree 35 = .ok (.goto (-33), 3) := by decide +kernel
theorem dX0_areAllFree_38 : decode cX0_areAllFree 38 = .ok (.iconst 1, 1) := by decide +kernel
theorem dX0_areAllFree_39 : decode cX0_areAllFree 39 = .ok (.ireturn, 1) := by decide +kernel
set_option maxRecDepth 20000 in
theorem ggX0_isConnected_X0_freeOf : GoodIn wsX0_isConnected wsX0_freeOf := goodIn_r _ [6, 7, 8, 9] (by decide +kernel) (by decide +kernel)
set_option maxRecDepth 20000 in
theorem gX0_isConnected_X0_freeOf : GoodIn wsX0_isConnected (wsV RX0 29 RX0 yX0_freeOf wsX0_freeOf) := goodIn_app (goodIn_of _ (by decide +kernel)) ggX0_isConnected_X0_freeOf
theorem dX0_isConnected_0 : decode cX0_isConnected 0 = .ok (.iload_n 1, 1) := by decide +kernel
theorem dX0_isConnected_1 : decode cX0_isConnected 1 = .ok (.iload_n 1, 1) := by decide +kernel
theorem dX0_isConnected_2 : decode cX0_isConnected 2 = .ok (.ineg, 1) := by decide +kernel
theorem dX0_isConnected_3 : decode cX0_isConnected 3 = .ok (.iand, 1) := by decide +kernel
theorem dX0_isConnected_4 : decode cX0_isConnected 4 = .ok (.istore_n 2, 1) := by decide +kernel
theorem dX0_isConnected_5 : decode cX0_isConnected 5 = .ok (.iconst 0, 1) := by decide +kernel
theorem dX0_isConnected_6 : decode cX0_isConnected 6 = .ok (.istore_n 3, 1) := by decide +kernel
theorem dX0_isConnected_7 : decode cX0_isConnected 7 = .ok (.iload_n 3, 1) := by decide +kernel
theorem dX0_isConnected_8 : decode cX0_isConnected 8 = .ok (.aload_n 0, 1) := by decide +kernel
theorem dX0_isConnected_9 : decode cX0_isConnected 9 = .ok (.getfield 15, 3) := by decide +kernel
theorem dX0_isConnected_12 : decode cX0_isConnected 12 = .ok (.if_icmp .ge 57, 3) := by decide +kernel
theorem dX0_isConnected_15 : decode cX0_isConnected 15 = .ok (.iload_n 2, 1) := by decide +kernel
theorem dX0_isConnected_16 : decode cX0_isConnected 16 = .ok (.istore 4, 2) := by decide +kernel
theorem dX0_isConnected_18 : decode cX0_isConnected 18 = .ok (.iconst 0, 1) := by decide +kernel
theorem dX0_isConnected_19 : decode cX0_isConnected 19 = .ok (.istore 5, 2) := by decide +kernel
theorem dX0_isConnected_21 : decode cX0_isConnected 21 = .ok (.iload 5, 2) := by decide +kernel
theorem dX0_isConnected_23 : decode cX0_isConnected 23 = .ok (.aload_n 0, 1) := by decide +kernel
theorem dX0_isConnected_24 : decode cX0_isConnected 24 = .ok (.getfield 15, 3) := by decide +kernel
theorem dX0_isConnected_27 : decode cX0_isConnected 27 = .ok (.if_icmp .ge 33, 3) := by decide +kernel
theorem dX0_isConnected_30 : decode cX0_isConnected 30 = .ok (.iload_n 2, 1) := by decide +kernel
theorem dX0_isConnected_31 : decode cX0_isConnected 31 = .ok (.iload 5, 2) := by decide +kernel
theorem dX0_isConnected_33 : decode cX0_isConnected 33 = .ok (.ishr, 1) := by decide +kernel
theorem dX0_isConnected_34 : decode cX0_isConnected 34 = .ok (.iconst 1, 1) := by decide +kernel
theorem dX0_isConnected_35 : decode cX0_isConnected 35 = .ok (.iand, 1) := by decide +kernel
theorem dX0_isConnected_36 : decode cX0_isConnected 36 = .ok (.ifCond .eq 18, 3) := by decide +kernel
theorem dX0_isConnected_39 : decode cX0_isConnected 39 = .ok (.iload 4, 2) := by decide +kernel
theorem dX0_isConnected_41 : decode cX0_isConnected 41 = .ok (.iload_n 1, 1) := by decide +kernel
theorem dX0_isConnected_42 : decode cX0_isConnected 42 = .ok (.aload_n 0, 1) := by decide +kernel
theorem dX0_isConnected_43 : decode cX0_isConnected 43 = .ok (.iload 5, 2) := by decide +kernel
theorem dX0_isConnected_45 : decode cX0_isConnected 45 = .ok (.invokevirtual 29, 3) := by decide +kernel
theorem dX0_isConnected_48 : decode cX0_isConnected 48 = .ok (.iconst (-1), 1) := by decide +kernel
theorem dX0_isConnected_49 : decode cX0_isConnected 49 = .ok (.ixor, 1) := by decide +kernel
theorem dX0_isConnected_50 : decode cX0_isConnected 50 = .ok (.iand, 1) := by decide +kernel
theorem dX0_isConnected_51 : decode cX0_isConnected 51 = .ok (.ior, 1) := by decide +kernel
theorem dX0_isConnected_52 : decode cX0_isConnected 52 = .ok (.istore 4, 2) := by decide +kernel
theorem dX0_isConnected_54 : decode cX0_isConnected 54 = .ok (.iinc 5 1, 3) := by decide +kernel
theorem dX0_isConnected_57 : decode cX0_isConnected 57 = .ok (.goto (-36), 3) := by decide +kernel
theorem dX0_isConnected_60 : decode cX0_isConnected 60 = .ok (.iload 4, 2) := by decide +kernel
theorem dX0_isConnected_62 : decode cX0_isConnected 62 = .ok (.istore_n 2, 1) := by decide +kernel
theorem dX0_isConnected_63 : decode cX0_isConnected 63 = .ok (.iinc 3 1, 3) := by decide +kernel
theorem dX0_isConnected_66 : decode cX0_isConnected 66 = .ok (.goto (-59), 3) := by decide +kernel
theorem dX0_isConnected_69 : decode cX0_isConnected 69 = .ok (.iload_n 2, 1) := by decide +kernel
theorem dX0_isConnected_70 : decode cX0_isConnected 70 = .ok (.iload_n 1, 1) := by decide +kernel
theorem dX0_isConnected_71 : decode cX0_isConnected 71 = .ok (.if_icmp .ne 7, 3) := by decide +kernel
theorem dX0_isConnected_74 : decode cX0_isConnected 74 = .ok (.iconst 1, 1) := by decide +kernel
theorem dX0_isConnected_75 : decode cX0_isConnected 75 = .ok (.goto 4, 3) := by decide +kernel
theorem dX0_isConnected_78 : decode cX0_isConnected 78 = .ok (.iconst 0, 1) := by decide +kernel
theorem dX0_isConnected_79 : decode cX0_isConnected 79 = .ok (.ireturn, 1) := by decide +kernel
set_option maxRecDepth 20000 in
theorem ggX0_connectedSets_X0_isConnected : GoodIn wsX0_connectedSets wsX0_isConnected := goodIn_r _ [6, 1, 7, 8, 9, 5, 10, 11, 12, 13] (by decide +kernel) (by decide +kernel)
set_option maxRecDepth 20000 in
theorem gX0_connectedSets_X0_isConnected : GoodIn wsX0_connectedSets (wsV RX0 33 RX0 yX0_isConnected wsX0_isConnected) := goodIn_app (goodIn_of _ (by decide +kernel)) ggX0_connectedSets_X0_isConnected
theorem dX0_connectedSets_0 : decode cX0_connectedSets 0 = .ok (.lconst 0, 1) := by decide +kernel
theorem dX0_connectedSets_1 : decode cX0_connectedSets 1 = .ok (.lstore_n 1, 1) := by decide +kernel
theorem dX0_connectedSets_2 : decode cX0_connectedSets 2 = .ok (.iconst 0, 1) := by decide +kernel
theorem dX0_connectedSets_3 : decode cX0_connectedSets 3 = .ok (.istore_n 3, 1) := by decide +kernel
theorem dX0_connectedSets_4 : decode cX0_connectedSets 4 = .ok (.iload_n 3, 1) := by decide +kernel
theorem dX0_connectedSets_5 : decode cX0_connectedSets 5 = .ok (.iconst 1, 1) := by decide +kernel
theorem dX0_connectedSets_6 : decode cX0_connectedSets 6 = .ok (.aload_n 0, 1) := by decide +kernel
theorem dX0_connectedSets_7 : decode cX0_connectedSets 7 = .ok (.getfield 15, 3) := by decide +kernel
theorem dX0_connectedSets_10 : decode cX0_connectedSets 10 = .ok (.ishl, 1) := by decide +kernel
theorem dX0_connectedSets_11 : decode cX0_connectedSets 11 = .ok (.if_icmp .ge 29, 3) := by decide +kernel
theorem dX0_connectedSets_14 : decode cX0_connectedSets 14 = .ok (.iload_n 3, 1) := by decide +kernel
theorem dX0_connectedSets_15 : decode cX0_connectedSets 15 = .ok (.bipush 64, 2) := by decide +kernel
theorem dX0_connectedSets_17 : decode cX0_connectedSets 17 = .ok (.if_icmp .ge 23, 3) := by decide +kernel
theorem dX0_connectedSets_20 : decode cX0_connectedSets 20 = .ok (.aload_n 0, 1) := by decide +kernel
theorem dX0_connectedSets_21 : decode cX0_connectedSets 21 = .ok (.iload_n 3, 1) := by decide +kernel
theorem dX0_connectedSets_22 : decode cX0_connectedSets 22 = .ok (.invokevirtual 33, 3) := by decide +kernel
theorem dX0_connectedSets_25 : decode cX0_connectedSets 25 = .ok (.ifCond .eq 9, 3) := by decide +kernel
theorem dX0_connectedSets_28 : decode cX0_connectedSets 28 = .ok (.lload_n 1, 1) := by decide +kernel
theorem dX0_connectedSets_29 : decode cX0_connectedSets 29 = .ok (.lconst 1, 1) := by decide +kernel
theorem dX0_connectedSets_30 : decode cX0_connectedSets 30 = .ok (.iload_n 3, 1) := by decide +kernel
theorem dX0_connectedSets_31 : decode cX0_connectedSets 31 = .ok (.lshl, 1) := by decide +kernel
theorem dX0_connectedSets_32 : decode cX0_connectedSets 32 = .ok (.lor, 1) := by decide +kernel
theorem dX0_connectedSets_33 : decode cX0_connectedSets 33 = .ok (.lstore_n 1, 1) := by decide +kernel
theorem dX0_connectedSets_34 : decode cX0_connectedSets 34 = .ok (.iinc 3 1, 3) := by decide +kernel
theorem dX0_connectedSets_37 : decode cX0_connectedSets 37 = .ok (.goto (-33), 3) := by decide +kernel
theorem dX0_connectedSets_40 : decode cX0_connectedSets 40 = .ok (.lload_n 1, 1) := by decide +kernel
theorem dX0_connectedSets_41 : decode cX0_connectedSets 41 = .ok (.lreturn, 1) := by decide +kernel
set_option maxRecDepth 20000 in
theorem ggX0_countDifferent_X0_countCliques : GoodIn wsX0_countDifferent wsX0_countCliques := goodIn_r _ [6, 1, 7, 8, 9, 10, 5, 11, 12, 13, 14, 15, 16, 17, 18, 19, 20, 21, 22, 23, 24, 25] (by decide +kernel) (by decide +kernel)
set_option maxRecDepth 20000 in
theorem gX0_countDifferent_X0_countCliques : GoodIn wsX0_countDifferent (wsV RX0 36 RX0 yX0_countCliques wsX0_countCliques) := goodIn_app (goodIn_of _ (by decide +kernel)) ggX0_countDifferent_X0_countCliques
theorem dX0_countDifferent_0 : decode cX0_countDifferent 0 = .ok (.iload_n 1, 1) := by decide +kernel
theorem dX0_countDifferent_1 : decode cX0_countDifferent 1 = .ok (.ifCond .lt 9, 3) := by decide +kernel
theorem dX0_countDifferent_4 : decode cX0_countDifferent 4 = .ok (.iload_n 1, 1) := by decide +kernel
theorem dX0_countDifferent_5 : decode cX0_countDifferent 5 = .ok (.bipush 16, 2) := by decide +kernel
theorem dX0_countDifferent_7 : decode cX0_countDifferent 7 = .ok (.if_icmp .le 5, 3) := by decide +kernel
theorem dX0_countDifferent_10 : decode cX0_countDifferent 10 = .ok (.lconst 0, 1) := by decide +kernel
theorem dX0_countDifferent_11 : decode cX0_countDifferent 11 = .ok (.lreturn, 1) := by decide +kernel
theorem dX0_countDifferent_12 : decode cX0_countDifferent 12 = .ok (.aload_n 0, 1) := by decide +kernel
theorem dX0_countDifferent_13 : decode cX0_countDifferent 13 = .ok (.invokevirtual 36, 3) := by decide +kernel
theorem dX0_countDifferent_16 : decode cX0_countDifferent 16 = .ok (.astore_n 2, 1) := by decide +kernel
theorem dX0_countDifferent_17 : decode cX0_countDifferent 17 = .ok (.bipush 17, 2) := by decide +kernel
theorem dX0_countDifferent_19 : decode cX0_countDifferent 19 = .ok (.newarray .long, 2) := by decide +kernel
theorem dX0_countDifferent_21 : decode cX0_countDifferent 21 = .ok (.astore_n 3, 1) := by decide +kernel
theorem dX0_countDifferent_22 : decode cX0_countDifferent 22 = .ok (.aload_n 3, 1) := by decide +kernel
theorem dX0_countDifferent_23 : decode cX0_countDifferent 23 = .ok (.iconst 0, 1) := by decide +kernel
theorem dX0_countDifferent_24 : decode cX0_countDifferent 24 = .ok (.lconst 1, 1) := by decide +kernel
theorem dX0_countDifferent_25 : decode cX0_countDifferent 25 = .ok (.lastore, 1) := by decide +kernel
theorem dX0_countDifferent_26 : decode cX0_countDifferent 26 = .ok (.iconst 1, 1) := by decide +kernel
theorem dX0_countDifferent_27 : decode cX0_countDifferent 27 = .ok (.istore 4, 2) := by decide +kernel
theorem dX0_countDifferent_29 : decode cX0_countDifferent 29 = .ok (.iload 4, 2) := by decide +kernel
theorem dX0_countDifferent_31 : decode cX0_countDifferent 31 = .ok (.iload_n 1, 1) := by decide +kernel
theorem dX0_countDifferent_32 : decode cX0_countDifferent 32 = .ok (.if_icmp .gt 75, 3) := by decide +kernel
theorem dX0_countDifferent_35 : decode cX0_countDifferent 35 = .ok (.lconst 0, 1) := by decide +kernel
theorem dX0_countDifferent_36 : decode cX0_countDifferent 36 = .ok (.lstore 5, 2) := by decide +kernel
theorem dX0_countDifferent_38 : decode cX0_countDifferent 38 = .ok (.iconst 1, 1) := by decide +kernel
theorem dX0_countDifferent_39 : decode cX0_countDifferent 39 = .ok (.istore 7, 2) := by decide +kernel
theorem dX0_countDifferent_41 : decode cX0_countDifferent 41 = .ok (.iload 7, 2) := by decide +kernel
theorem dX0_countDifferent_43 : decode cX0_countDifferent 43 = .ok (.iload 4, 2) := by decide +kernel
theorem dX0_countDifferent_45 : decode cX0_countDifferent 45 = .ok (.if_icmp .gt 50, 3) := by decide +kernel
theorem dX0_countDifferent_48 : decode cX0_countDifferent 48 = .ok (.iload 7, 2) := by decide +kernel
theorem dX0_countDifferent_50 : decode cX0_countDifferent 50 = .ok (.bipush 6, 2) := by decide +kernel
theorem dX0_countDifferent_52 : decode cX0_countDifferent 52 = .ok (.if_icmp .gt 43, 3) := by decide +kernel
theorem dX0_countDifferent_55 : decode cX0_countDifferent 55 = .ok (.aload_n 2, 1) := by decide +kernel
theorem dX0_countDifferent_56 : decode cX0_countDifferent 56 = .ok (.iload 7, 2) := by decide +kernel
theorem dX0_countDifferent_58 : decode cX0_countDifferent 58 = .ok (.laload, 1) := by decide +kernel
theorem dX0_countDifferent_59 : decode cX0_countDifferent 59 = .ok (.aload_n 3, 1) := by decide +kernel
theorem dX0_countDifferent_60 : decode cX0_countDifferent 60 = .ok (.iload 4, 2) := by decide +kernel
theorem dX0_countDifferent_62 : decode cX0_countDifferent 62 = .ok (.iload 7, 2) := by decide +kernel
theorem dX0_countDifferent_64 : decode cX0_countDifferent 64 = .ok (.isub, 1) := by decide +kernel
theorem dX0_countDifferent_65 : decode cX0_countDifferent 65 = .ok (.laload, 1) := by decide +kernel
theorem dX0_countDifferent_66 : decode cX0_countDifferent 66 = .ok (.lmul, 1) := by decide +kernel
theorem dX0_countDifferent_67 : decode cX0_countDifferent 67 = .ok (.lstore 8, 2) := by decide +kernel
theorem dX0_countDifferent_69 : decode cX0_countDifferent 69 = .ok (.lload 5, 2) := by decide +kernel
theorem dX0_countDifferent_71 : decode cX0_countDifferent 71 = .ok (.iload 7, 2) := by decide +kernel
theorem dX0_countDifferent_73 : decode cX0_countDifferent 73 = .ok (.iconst 1, 1) := by decide +kernel
theorem dX0_countDifferent_74 : decode cX0_countDifferent 74 = .ok (.iand, 1) := by decide +kernel
theorem dX0_countDifferent_75 : decode cX0_countDifferent 75 = .ok (.ifCond .eq 8, 3) := by decide +kernel
theorem dX0_countDifferent_78 : decode cX0_countDifferent 78 = .ok (.lload 8, 2) := by decide +kernel
theorem dX0_countDifferent_80 : decode cX0_countDifferent 80 = .ok (.goto 6, 3) := by decide +kernel
theorem dX0_countDifferent_83 : decode cX0_countDifferent 83 = .ok (.lload 8, 2) := by decide +kernel
theorem dX0_countDifferent_85 : decode cX0_countDifferent 85 = .ok (.lneg, 1) := by decide +kernel
theorem dX0_countDifferent_86 : decode cX0_countDifferent 86 = .ok (.ladd, 1) := by decide +kernel
theorem dX0_countDifferent_87 : decode cX0_countDifferent 87 = .ok (.lstore 5, 2) := by decide +kernel
theorem dX0_countDifferent_89 : decode cX0_countDifferent 89 = .ok (.iinc 7 1, 3) := by decide +kernel
theorem dX0_countDifferent_92 : decode cX0_countDifferent 92 = .ok (.goto (-51), 3) := by decide +kernel
theorem dX0_countDifferent_95 : decode cX0_countDifferent 95 = .ok (.aload_n 3, 1) := by decide +kernel
theorem dX0_countDifferent_96 : decode cX0_countDifferent 96 = .ok (.iload 4, 2) := by decide +kernel
theorem dX0_countDifferent_98 : decode cX0_countDifferent 98 = .ok (.lload 5, 2) := by decide +kernel
theorem dX0_countDifferent_100 : decode cX0_countDifferent 100 = .ok (.lastore, 1) := by decide +kernel
theorem dX0_countDifferent_101 : decode cX0_countDifferent 101 = .ok (.iinc 4 1, 3) := by decide +kernel
theorem dX0_countDifferent_104 : decode cX0_countDifferent 104 = .ok (.goto (-75), 3) := by decide +kernel
theorem dX0_countDifferent_107 : decode cX0_countDifferent 107 = .ok (.aload_n 3, 1) := by decide +kernel
theorem dX0_countDifferent_108 : decode cX0_countDifferent 108 = .ok (.iload_n 1, 1) := by decide +kernel
theorem dX0_countDifferent_109 : decode cX0_countDifferent 109 = .ok (.laload, 1) := by decide +kernel
theorem dX0_countDifferent_110 : decode cX0_countDifferent 110 = .ok (.lreturn, 1) := by decide +kernel
set_option maxRecDepth 20000 in
theorem ggX0_countCliques_X0_isClique : GoodIn wsX0_countCliques wsX0_isClique := goodIn_r _ [7, 2, 8, 9, 10, 6, 11, 12, 20, 21] (by decide +kernel) (by decide +kernel)
set_option maxRecDepth 20000 in
theorem gX0_countCliques_X0_isClique : GoodIn wsX0_countCliques (wsV RX0 40 RX0 yX0_isClique wsX0_isClique) := goodIn_app (goodIn_of _ (by decide +kernel)) ggX0_countCliques_X0_isClique
set_option maxRecDepth 20000 in
theorem ggX0_countCliques_J6_bitCount_0f7a4 : GoodIn wsX0_countCliques wsJ6_bitCount_0f7a4 := goodIn_r _ [16, 17, 18, 19] (by decide +kernel) (by decide +kernel)
set_option maxRecDepth 20000 in
theorem gX0_countCliques_J6_bitCount_0f7a4 : GoodIn wsX0_countCliques (va_wsS RX0 43 yJ6_bitCount_0f7a4 wsJ6_bitCount_0f7a4) := goodIn_app (goodIn_of _ (by decide +kernel)) ggX0_countCliques_J6_bitCount_0f7a4
theorem dX0_countCliques_0 : decode cX0_countCliques 0 = .ok (.bipush 7, 2) := by decide +kernel
theorem dX0_countCliques_2 : decode cX0_countCliques 2 = .ok (.newarray .long, 2) := by decide +kernel
theorem dX0_countCliques_4 : decode cX0_countCliques 4 = .ok (.astore_n 1, 1) := by decide +kernel
theorem dX0_countCliques_5 : decode cX0_countCliques 5 = .ok (.iconst 0, 1) := by decide +kernel
theorem dX0_countCliques_6 : decode cX0_countCliques 6 = .ok (.istore_n 2, 1) := by decide +kernel
theorem dX0_countCliques_7 : decode cX0_countCliques 7 = .ok (.iload_n 2, 1) := by decide +kernel
theorem dX0_countCliques_8 : decode cX0_countCliques 8 = .ok (.iconst 1, 1) := by decide +kernel
theorem dX0_countCliques_9 : decode cX0_countCliques 9 = .ok (.aload_n 0, 1) := by decide +kernel
theorem dX0_countCliques_10 : decode cX0_countCliques 10 = .ok (.getfield 15, 3) := by decide +kernel
theorem dX0_countCliques_13 : decode cX0_countCliques 13 = .ok (.ishl, 1) := by decide +kernel
theorem dX0_countCliques_14 : decode cX0_countCliques 14 = .ok (.if_icmp .ge 33, 3) := by decide +kernel
theorem dX0_countCliques_17 : decode cX0_countCliques 17 = .ok (.iload_n 2, 1) := by decide +kernel
theorem dX0_countCliques_18 : decode cX0_countCliques 18 = .ok (.bipush 64, 2) := by decide +kernel
theorem dX0_countCliques_20 : decode cX0_countCliques 20 = .ok (.if_icmp .ge 27, 3) := by decide +kernel
theorem dX0_countCliques_23 : decode cX0_countCliques 23 = .ok (.aload_n 0, 1) := by decide +kernel
theorem dX0_countCliques_24 : decode cX0_countCliques 24 = .ok (.iload_n 2, 1) := by decide +kernel
theorem dX0_countCliques_25 : decode cX0_countCliques 25 = .ok (.invokevirtual 40, 3) := by decide +kernel
theorem dX0_countCliques_28 : decode cX0_countCliques 28 = .ok (.ifCond .eq 13, 3) := by decide +kernel
theorem dX0_countCliques_31 : decode cX0_countCliques 31 = .ok (.aload_n 1, 1) := by decide +kernel
theorem dX0_countCliques_32 : decode cX0_countCliques 32 = .ok (.iload_n 2, 1) := by decide +kernel
theorem dX0_countCliques_33 : decode cX0_countCliques 33 = .ok (.invokestatic 43, 3) := by decide +kernel
theorem dX0_countCliques_36 : decode cX0_countCliques 36 = .ok (.dup2, 1) := by decide +kernel
theorem dX0_countCliques_37 : decode cX0_countCliques 37 = .ok (.laload, 1) := by decide +kernel
theorem dX0_countCliques_38 : decode cX0_countCliques 38 = .ok (.lconst 1, 1) := by decide +kernel
theorem dX0_countCliques_39 : decode cX0_countCliques 39 = .ok (.ladd, 1) := by decide +kernel
theorem dX0_countCliques_40 : decode cX0_countCliques 40 = .ok (.lastore, 1) := by decide +kernel
theorem dX0_countCliques_41 : decode cX0_countCliques 41 = .ok (.iinc 2 1, 3) := by decide +kernel
theorem dX0_countCliques_44 : decode cX0_countCliques 44 = .ok (.goto (-37), 3) := by decide +kernel
theorem dX0_countCliques_47 : decode cX0_countCliques 47 = .ok (.aload_n 1, 1) := by decide +kernel
theorem dX0_countCliques_48 : decode cX0_countCliques 48 = .ok (.areturn, 1) := by decide +kernel
set_option maxRecDepth 20000 in
theorem ggX0_isClique_X0_freeOf : GoodIn wsX0_isClique wsX0_freeOf := goodIn_r _ [6, 7, 8, 9] (by decide +kernel) (by decide +kernel)
set_option maxRecDepth 20000 in
theorem gX0_isClique_X0_freeOf : GoodIn wsX0_isClique (wsV RX0 29 RX0 yX0_freeOf wsX0_freeOf) := goodIn_app (goodIn_of _ (by decide +kernel)) ggX0_isClique_X0_freeOf
theorem dX0_isClique_0 : decode cX0_isClique 0 = .ok (.iconst 0, 1) := by decide +kernel
theorem dX0_isClique_1 : decode cX0_isClique 1 = .ok (.istore_n 2, 1) := by decide +kernel
theorem dX0_isClique_2 : decode cX0_isClique 2 = .ok (.iload_n 2, 1) := by decide +kernel
theorem dX0_isClique_3 : decode cX0_isClique 3 = .ok (.aload_n 0, 1) := by decide +kernel
theorem dX0_isClique_4 : decode cX0_isClique 4 = .ok (.getfield 15, 3) := by decide +kernel
theorem dX0_isClique_7 : decode cX0_isClique 7 = .ok (.if_icmp .ge 36, 3) := by decide +kernel
theorem dX0_isClique_10 : decode cX0_isClique 10 = .ok (.iload_n 1, 1) := by decide +kernel
theorem dX0_isClique_11 : decode cX0_isClique 11 = .ok (.iconst 1, 1) := by decide +kernel
theorem dX0_isClique_12 : decode cX0_isClique 12 = .ok (.iload_n 2, 1) := by decide +kernel
theorem dX0_isClique_13 : decode cX0_isClique 13 = .ok (.ishl, 1) := by decide +kernel
theorem dX0_isClique_14 : decode cX0_isClique 14 = .ok (.iconst (-1), 1) := by decide +kernel
theorem dX0_isClique_15 : decode cX0_isClique 15 = .ok (.ixor, 1) := by decide +kernel
theorem dX0_isClique_16 : decode cX0_isClique 16 = .ok (.iand, 1) := by decide +kernel
theorem dX0_isClique_17 : decode cX0_isClique 17 = .ok (.istore_n 3, 1) := by decide +kernel
theorem dX0_isClique_18 : decode cX0_isClique 18 = .ok (.iload_n 3, 1) := by decide +kernel
theorem dX0_isClique_19 : decode cX0_isClique 19 = .ok (.iload_n 1, 1) := by decide +kernel
theorem dX0_isClique_20 : decode cX0_isClique 20 = .ok (.if_icmp .eq 17, 3) := by decide +kernel
theorem dX0_isClique_23 : decode cX0_isClique 23 = .ok (.iload_n 3, 1) := by decide +kernel
theorem dX0_isClique_24 : decode cX0_isClique 24 = .ok (.aload_n 0, 1) := by decide +kernel
theorem dX0_isClique_25 : decode cX0_isClique 25 = .ok (.iload_n 2, 1) := by decide +kernel
theorem dX0_isClique_26 : decode cX0_isClique 26 = .ok (.invokevirtual 29, 3) := by decide +kernel
theorem dX0_isClique_29 : decode cX0_isClique 29 = .ok (.iconst (-1), 1) := by decide +kernel
theorem dX0_isClique_30 : decode cX0_isClique 30 = .ok (.ixor, 1) := by decide +kernel
theorem dX0_isClique_31 : decode cX0_isClique 31 = .ok (.iand, 1) := by decide +kernel
theorem dX0_isClique_32 : decode cX0_isClique 32 = .ok (.ifCond .eq 5, 3) := by decide +kernel
theorem dX0_isClique_35 : decode cX0_isClique 35 = .ok (.iconst 0, 1) := by decide +kernel
theorem dX0_isClique_36 : decode cX0_isClique 36 = .ok (.ireturn, 1) := by decide +kernel
theorem dX0_isClique_37 : decode cX0_isClique 37 = .ok (.iinc 2 1, 3) := by decide +kernel
theorem dX0_isClique_40 : decode cX0_isClique 40 = .ok (.goto (-38), 3) := by decide +kernel
theorem dX0_isClique_43 : decode cX0_isClique 43 = .ok (.iconst 1, 1) := by decide +kernel
theorem dX0_isClique_44 : decode cX0_isClique 44 = .ok (.ireturn, 1) := by decide +kernel
theorem dX1_init_0 : decode cX1_init 0 = .ok (.aload_n 0, 1) := by decide +kernel
theorem dX1_init_1 : decode cX1_init 1 = .ok (.invokespecial 3, 3) := by decide +kernel
theorem dX1_init_4 : decode cX1_init 4 = .ok (.aload_n 0, 1) := by decide +kernel
theorem dX1_init_5 : decode cX1_init 5 = .ok (.sipush 13824, 3) := by decide +kernel
theorem dX1_init_8 : decode cX1_init 8 = .ok (.newarray .long, 2) := by decide +kernel
theorem dX1_init_10 : decode cX1_init 10 = .ok (.putfield 9, 3) := by decide +kernel
theorem dX1_init_13 : decode cX1_init 13 = .ok (.return_, 1) := by decide +kernel
set_option maxRecDepth 20000 in
theorem ggX1_spread_X4_grow : GoodIn wsX1_spread wsX4_grow := goodIn_r _ [7, 8, 9, 10, 11, 12, 13, 14, 6, 15, 16, 17, 18, 19, 20, 21, 22, 23, 24, 25, 26, 27, 28, 49, 50, 51, 52, 53, 56, 57, 58, 59, 60, 61, 62] (by decide +kernel) (by decide +kernel)
set_option maxRecDepth 20000 in
theorem gX1_spread_X4_grow : GoodIn wsX1_spread (wsV RX1 27 RX4 yX4_grow wsX4_grow) := goodIn_app (goodIn_of _ (by decide +kernel)) ggX1_spread_X4_grow
set_option maxRecDepth 20000 in
theorem ggX1_spread_X1_pass : GoodIn wsX1_spread wsX1_pass := goodIn_r _ [33, 1, 34, 35, 36, 32, 37, 38, 39, 40, 41, 42, 43, 44, 45, 46, 47, 48, 63, 64, 65, 66, 54, 55] (by decide +kernel) (by decide +kernel)
set_option maxRecDepth 20000 in
theorem gX1_spread_X1_pass : GoodIn wsX1_spread (wsV RX1 31 RX1 yX1_pass wsX1_pass) := goodIn_app (goodIn_of _ (by decide +kernel)) ggX1_spread_X1_pass
theorem dX1_spread_0 : decode cX1_spread 0 = .ok (.iconst 0, 1) := by decide +kernel
theorem dX1_spread_1 : decode cX1_spread 1 = .ok (.istore_n 3, 1) := by decide +kernel
theorem dX1_spread_2 : decode cX1_spread 2 = .ok (.iload_n 3, 1) := by decide +kernel
theorem dX1_spread_3 : decode cX1_spread 3 = .ok (.aload_n 1, 1) := by decide +kernel
theorem dX1_spread_4 : decode cX1_spread 4 = .ok (.getfield 15, 3) := by decide +kernel
theorem dX1_spread_7 : decode cX1_spread 7 = .ok (.bipush 6, 2) := by decide +kernel
theorem dX1_spread_9 : decode cX1_spread 9 = .ok (.imul, 1) := by decide +kernel
theorem dX1_spread_10 : decode cX1_spread 10 = .ok (.if_icmp .ge 25, 3) := by decide +kernel
theorem dX1_spread_13 : decode cX1_spread 13 = .ok (.iload_n 3, 1) := by decide +kernel
theorem dX1_spread_14 : decode cX1_spread 14 = .ok (.aload_n 0, 1) := by decide +kernel
theorem dX1_spread_15 : decode cX1_spread 15 = .ok (.getfield 9, 3) := by decide +kernel
theorem dX1_spread_18 : decode cX1_spread 18 = .ok (.arraylength, 1) := by decide +kernel
theorem dX1_spread_19 : decode cX1_spread 19 = .ok (.if_icmp .ge 16, 3) := by decide +kernel
theorem dX1_spread_22 : decode cX1_spread 22 = .ok (.aload_n 0, 1) := by decide +kernel
theorem dX1_spread_23 : decode cX1_spread 23 = .ok (.getfield 9, 3) := by decide +kernel
theorem dX1_spread_26 : decode cX1_spread 26 = .ok (.iload_n 3, 1) := by decide +kernel
theorem dX1_spread_27 : decode cX1_spread 27 = .ok (.lconst 0, 1) := by decide +kernel
theorem dX1_spread_28 : decode cX1_spread 28 = .ok (.lastore, 1) := by decide +kernel
theorem dX1_spread_29 : decode cX1_spread 29 = .ok (.iinc 3 1, 3) := by decide +kernel
theorem dX1_spread_32 : decode cX1_spread 32 = .ok (.goto (-30), 3) := by decide +kernel
theorem dX1_spread_35 : decode cX1_spread 35 = .ok (.aload_n 0, 1) := by decide +kernel
theorem dX1_spread_36 : decode cX1_spread 36 = .ok (.getfield 9, 3) := by decide +kernel
theorem dX1_spread_39 : decode cX1_spread 39 = .ok (.iconst 0, 1) := by decide +kernel
theorem dX1_spread_40 : decode cX1_spread 40 = .ok (.lconst 1, 1) := by decide +kernel
theorem dX1_spread_41 : decode cX1_spread 41 = .ok (.lastore, 1) := by decide +kernel
theorem dX1_spread_42 : decode cX1_spread 42 = .ok (.aload_n 0, 1) := by decide +kernel
theorem dX1_spread_43 : decode cX1_spread 43 = .ok (.aload_n 1, 1) := by decide +kernel
theorem dX1_spread_44 : decode cX1_spread 44 = .ok (.getfield 15, 3) := by decide +kernel
theorem dX1_spread_47 : decode cX1_spread 47 = .ok (.iconst 1, 1) := by decide +kernel
theorem dX1_spread_48 : decode cX1_spread 48 = .ok (.isub, 1) := by decide +kernel
theorem dX1_spread_49 : decode cX1_spread 49 = .ok (.putfield 21, 3) := by decide +kernel
theorem dX1_spread_52 : decode cX1_spread 52 = .ok (.iconst 0, 1) := by decide +kernel
theorem dX1_spread_53 : decode cX1_spread 53 = .ok (.istore_n 3, 1) := by decide +kernel
theorem dX1_spread_54 : decode cX1_spread 54 = .ok (.iload_n 3, 1) := by decide +kernel
theorem dX1_spread_55 : decode cX1_spread 55 = .ok (.aload_n 1, 1) := by decide +kernel
theorem dX1_spread_56 : decode cX1_spread 56 = .ok (.getfield 15, 3) := by decide +kernel
theorem dX1_spread_59 : decode cX1_spread 59 = .ok (.if_icmp .ge 52, 3) := by decide +kernel
theorem dX1_spread_62 : decode cX1_spread 62 = .ok (.iconst 0, 1) := by decide +kernel
theorem dX1_spread_63 : decode cX1_spread 63 = .ok (.istore 4, 2) := by decide +kernel
theorem dX1_spread_65 : decode cX1_spread 65 = .ok (.iload 4, 2) := by decide +kernel
theorem dX1_spread_67 : decode cX1_spread 67 = .ok (.aload_n 1, 1) := by decide +kernel
theorem dX1_spread_68 : decode cX1_spread 68 = .ok (.getfield 24, 3) := by decide +kernel
theorem dX1_spread_71 : decode cX1_spread 71 = .ok (.if_icmp .ge 34, 3) := by decide +kernel
theorem dX1_spread_74 : decode cX1_spread 74 = .ok (.aload_n 1, 1) := by decide +kernel
theorem dX1_spread_75 : decode cX1_spread 75 = .ok (.iload_n 3, 1) := by decide +kernel
theorem dX1_spread_76 : decode cX1_spread 76 = .ok (.iload 4, 2) := by decide +kernel
theorem dX1_spread_78 : decode cX1_spread 78 = .ok (.invokevirtual 27, 3) := by decide +kernel
theorem dX1_spread_81 : decode cX1_spread 81 = .ok (.istore 5, 2) := by decide +kernel
theorem dX1_spread_83 : decode cX1_spread 83 = .ok (.iload 5, 2) := by decide +kernel
theorem dX1_spread_85 : decode cX1_spread 85 = .ok (.iconst (-1), 1) := by decide +kernel
theorem dX1_spread_86 : decode cX1_spread 86 = .ok (.if_icmp .eq 13, 3) := by decide +kernel
theorem dX1_spread_89 : decode cX1_spread 89 = .ok (.aload_n 0, 1) := by decide +kernel
theorem dX1_spread_90 : decode cX1_spread 90 = .ok (.iload_n 3, 1) := by decide +kernel
theorem dX1_spread_91 : decode cX1_spread 91 = .ok (.iload 5, 2) := by decide +kernel
theorem dX1_spread_93 : decode cX1_spread 93 = .ok (.iload 4, 2) := by decide +kernel
theorem dX1_spread_95 : decode cX1_spread 95 = .ok (.aload_n 2, 1) := by decide +kernel
theorem dX1_spread_96 : decode cX1_spread 96 = .ok (.invokevirtual 31, 3) := by decide +kernel
theorem dX1_spread_99 : decode cX1_spread 99 = .ok (.iinc 4 1, 3) := by decide +kernel
theorem dX1_spread_102 : decode cX1_spread 102 = .ok (.goto (-37), 3) := by decide +kernel
theorem dX1_spread_105 : decode cX1_spread 105 = .ok (.iinc 3 1, 3) := by decide +kernel
theorem dX1_spread_108 : decode cX1_spread 108 = .ok (.goto (-54), 3) := by decide +kernel
theorem dX1_spread_111 : decode cX1_spread 111 = .ok (.return_, 1) := by decide +kernel
set_option maxRecDepth 20000 in
theorem ggX1_pass_X1_countAt : GoodIn wsX1_pass wsX1_countAt := goodIn_r _ [6, 1, 22, 23] (by decide +kernel) (by decide +kernel)
set_option maxRecDepth 20000 in
theorem gX1_pass_X1_countAt : GoodIn wsX1_pass (wsV RX1 40 RX1 yX1_countAt wsX1_countAt) := goodIn_app (goodIn_of _ (by decide +kernel)) ggX1_pass_X1_countAt
set_option maxRecDepth 20000 in
theorem ggX1_pass_X5_step : GoodIn wsX1_pass wsX5_step := goodIn_r _ [11, 12, 13, 14, 15, 10, 16, 17, 18, 19, 20, 21] (by decide +kernel) (by decide +kernel)
set_option maxRecDepth 20000 in
theorem gX1_pass_X5_step : GoodIn wsX1_pass (wsV RX1 44 RX5 yX5_step wsX5_step) := goodIn_app (goodIn_of _ (by decide +kernel)) ggX1_pass_X5_step
theorem dX1_pass_0 : decode cX1_pass 0 = .ok (.iconst 0, 1) := by decide +kernel
theorem dX1_pass_1 : decode cX1_pass 1 = .ok (.istore 5, 2) := by decide +kernel
theorem dX1_pass_3 : decode cX1_pass 3 = .ok (.iload 5, 2) := by decide +kernel
theorem dX1_pass_5 : decode cX1_pass 5 = .ok (.aload 4, 2) := by decide +kernel
theorem dX1_pass_7 : decode cX1_pass 7 = .ok (.getfield 35, 3) := by decide +kernel
theorem dX1_pass_10 : decode cX1_pass 10 = .ok (.if_icmp .ge 67, 3) := by decide +kernel
theorem dX1_pass_13 : decode cX1_pass 13 = .ok (.aload_n 0, 1) := by decide +kernel
theorem dX1_pass_14 : decode cX1_pass 14 = .ok (.iload_n 1, 1) := by decide +kernel
theorem dX1_pass_15 : decode cX1_pass 15 = .ok (.iload 5, 2) := by decide +kernel
theorem dX1_pass_17 : decode cX1_pass 17 = .ok (.invokevirtual 40, 3) := by decide +kernel
theorem dX1_pass_20 : decode cX1_pass 20 = .ok (.lstore 6, 2) := by decide +kernel
theorem dX1_pass_22 : decode cX1_pass 22 = .ok (.iload_n 2, 1) := by decide +kernel
theorem dX1_pass_23 : decode cX1_pass 23 = .ok (.bipush 6, 2) := by decide +kernel
theorem dX1_pass_25 : decode cX1_pass 25 = .ok (.imul, 1) := by decide +kernel
theorem dX1_pass_26 : decode cX1_pass 26 = .ok (.aload 4, 2) := by decide +kernel
theorem dX1_pass_28 : decode cX1_pass 28 = .ok (.iload 5, 2) := by decide +kernel
theorem dX1_pass_30 : decode cX1_pass 30 = .ok (.iload_n 3, 1) := by decide +kernel
theorem dX1_pass_31 : decode cX1_pass 31 = .ok (.invokevirtual 44, 3) := by decide +kernel
theorem dX1_pass_34 : decode cX1_pass 34 = .ok (.iadd, 1) := by decide +kernel
theorem dX1_pass_35 : decode cX1_pass 35 = .ok (.istore 8, 2) := by decide +kernel
theorem dX1_pass_37 : decode cX1_pass 37 = .ok (.lload 6, 2) := by decide +kernel
theorem dX1_pass_39 : decode cX1_pass 39 = .ok (.lconst 0, 1) := by decide +kernel
theorem dX1_pass_40 : decode cX1_pass 40 = .ok (.lcmp, 1) := by decide +kernel
theorem dX1_pass_41 : decode cX1_pass 41 = .ok (.ifCond .eq 30, 3) := by decide +kernel
theorem dX1_pass_44 : decode cX1_pass 44 = .ok (.iload 8, 2) := by decide +kernel
theorem dX1_pass_46 : decode cX1_pass 46 = .ok (.ifCond .lt 25, 3) := by decide +kernel
theorem dX1_pass_49 : decode cX1_pass 49 = .ok (.iload 8, 2) := by decide +kernel
theorem dX1_pass_51 : decode cX1_pass 51 = .ok (.aload_n 0, 1) := by decide +kernel
theorem dX1_pass_52 : decode cX1_pass 52 = .ok (.getfield 9, 3) := by decide +kernel
theorem dX1_pass_55 : decode cX1_pass 55 = .ok (.arraylength, 1) := by decide +kernel
theorem dX1_pass_56 : decode cX1_pass 56 = .ok (.if_icmp .ge 15, 3) := by decide +kernel
theorem dX1_pass_59 : decode cX1_pass 59 = .ok (.aload_n 0, 1) := by decide +kernel
theorem dX1_pass_60 : decode cX1_pass 60 = .ok (.getfield 9, 3) := by decide +kernel
theorem dX1_pass_63 : decode cX1_pass 63 = .ok (.iload 8, 2) := by decide +kernel
theorem dX1_pass_65 : decode cX1_pass 65 = .ok (.dup2, 1) := by decide +kernel
theorem dX1_pass_66 : decode cX1_pass 66 = .ok (.laload, 1) := by decide +kernel
theorem dX1_pass_67 : decode cX1_pass 67 = .ok (.lload 6, 2) := by decide +kernel
theorem dX1_pass_69 : decode cX1_pass 69 = .ok (.ladd, 1) := by decide +kernel
theorem dX1_pass_70 : decode cX1_pass 70 = .ok (.lastore, 1) := by decide +kernel
theorem dX1_pass_71 : decode cX1_pass 71 = .ok (.iinc 5 1, 3) := by decide +kernel
theorem dX1_pass_74 : decode cX1_pass 74 = .ok (.goto (-71), 3) := by decide +kernel
theorem dX1_pass_77 : decode cX1_pass 77 = .ok (.return_, 1) := by decide +kernel
theorem dX1_countAt_0 : decode cX1_countAt 0 = .ok (.iload_n 1, 1) := by decide +kernel
theorem dX1_countAt_1 : decode cX1_countAt 1 = .ok (.bipush 6, 2) := by decide +kernel
theorem dX1_countAt_3 : decode cX1_countAt 3 = .ok (.imul, 1) := by decide +kernel
theorem dX1_countAt_4 : decode cX1_countAt 4 = .ok (.iload_n 2, 1) := by decide +kernel
theorem dX1_countAt_5 : decode cX1_countAt 5 = .ok (.iadd, 1) := by decide +kernel
theorem dX1_countAt_6 : decode cX1_countAt 6 = .ok (.istore_n 3, 1) := by decide +kernel
theorem dX1_countAt_7 : decode cX1_countAt 7 = .ok (.iload_n 3, 1) := by decide +kernel
theorem dX1_countAt_8 : decode cX1_countAt 8 = .ok (.ifCond .lt 21, 3) := by decide +kernel
theorem dX1_countAt_11 : decode cX1_countAt 11 = .ok (.iload_n 3, 1) := by decide +kernel
theorem dX1_countAt_12 : decode cX1_countAt 12 = .ok (.aload_n 0, 1) := by decide +kernel
theorem dX1_countAt_13 : decode cX1_countAt 13 = .ok (.getfield 9, 3) := by decide +kernel
theorem dX1_countAt_16 : decode cX1_countAt 16 = .ok (.arraylength, 1) := by decide +kernel
theorem dX1_countAt_17 : decode cX1_countAt 17 = .ok (.if_icmp .ge 12, 3) := by decide +kernel
theorem dX1_countAt_20 : decode cX1_countAt 20 = .ok (.aload_n 0, 1) := by decide +kernel
theorem dX1_countAt_21 : decode cX1_countAt 21 = .ok (.getfield 9, 3) := by decide +kernel
theorem dX1_countAt_24 : decode cX1_countAt 24 = .ok (.iload_n 3, 1) := by decide +kernel
theorem dX1_countAt_25 : decode cX1_countAt 25 = .ok (.laload, 1) := by decide +kernel
theorem dX1_countAt_26 : decode cX1_countAt 26 = .ok (.goto 4, 3) := by decide +kernel
theorem dX1_countAt_29 : decode cX1_countAt 29 = .ok (.lconst 0, 1) := by decide +kernel
theorem dX1_countAt_30 : decode cX1_countAt 30 = .ok (.lreturn, 1) := by decide +kernel
set_option maxRecDepth 20000 in
theorem ggX1_countAll_X1_countAt : GoodIn wsX1_countAll wsX1_countAt := goodIn_r _ [6, 7, 8, 9] (by decide +kernel) (by decide +kernel)
set_option maxRecDepth 20000 in
theorem gX1_countAll_X1_countAt : GoodIn wsX1_countAll (wsV RX1 40 RX1 yX1_countAt wsX1_countAt) := goodIn_app (goodIn_of _ (by decide +kernel)) ggX1_countAll_X1_countAt
theorem dX1_countAll_0 : decode cX1_countAll 0 = .ok (.lconst 0, 1) := by decide +kernel
theorem dX1_countAll_1 : decode cX1_countAll 1 = .ok (.lstore_n 1, 1) := by decide +kernel
theorem dX1_countAll_2 : decode cX1_countAll 2 = .ok (.iconst 0, 1) := by decide +kernel
theorem dX1_countAll_3 : decode cX1_countAll 3 = .ok (.istore_n 3, 1) := by decide +kernel
theorem dX1_countAll_4 : decode cX1_countAll 4 = .ok (.iload_n 3, 1) := by decide +kernel
theorem dX1_countAll_5 : decode cX1_countAll 5 = .ok (.bipush 6, 2) := by decide +kernel
theorem dX1_countAll_7 : decode cX1_countAll 7 = .ok (.if_icmp .ge 21, 3) := by decide +kernel
theorem dX1_countAll_10 : decode cX1_countAll 10 = .ok (.lload_n 1, 1) := by decide +kernel
theorem dX1_countAll_11 : decode cX1_countAll 11 = .ok (.aload_n 0, 1) := by decide +kernel
theorem dX1_countAll_12 : decode cX1_countAll 12 = .ok (.aload_n 0, 1) := by decide +kernel
theorem dX1_countAll_13 : decode cX1_countAll 13 = .ok (.getfield 21, 3) := by decide +kernel
theorem dX1_countAll_16 : decode cX1_countAll 16 = .ok (.iload_n 3, 1) := by decide +kernel
theorem dX1_countAll_17 : decode cX1_countAll 17 = .ok (.invokevirtual 40, 3) := by decide +kernel
theorem dX1_countAll_20 : decode cX1_countAll 20 = .ok (.ladd, 1) := by decide +kernel
theorem dX1_countAll_21 : decode cX1_countAll 21 = .ok (.lstore_n 1, 1) := by decide +kernel
theorem dX1_countAll_22 : decode cX1_countAll 22 = .ok (.iinc 3 1, 3) := by decide +kernel
theorem dX1_countAll_25 : decode cX1_countAll 25 = .ok (.goto (-21), 3) := by decide +kernel
theorem dX1_countAll_28 : decode cX1_countAll 28 = .ok (.lload_n 1, 1) := by decide +kernel
theorem dX1_countAll_29 : decode cX1_countAll 29 = .ok (.lreturn, 1) := by decide +kernel
set_option maxRecDepth 20000 in
theorem ggX1_countAccepted_X5_accepts : GoodIn wsX1_countAccepted wsX5_accepts := goodIn_r _ [6, 7, 8, 9, 10, 5, 11, 12, 21, 22, 23, 24] (by decide +kernel) (by decide +kernel)
set_option maxRecDepth 20000 in
theorem gX1_countAccepted_X5_accepts : GoodIn wsX1_countAccepted (wsV RX1 47 RX5 yX5_accepts wsX5_accepts) := goodIn_app (goodIn_of _ (by decide +kernel)) ggX1_countAccepted_X5_accepts
set_option maxRecDepth 20000 in
theorem ggX1_countAccepted_X1_countAt : GoodIn wsX1_countAccepted wsX1_countAt := goodIn_r _ [17, 18, 19, 20] (by decide +kernel) (by decide +kernel)
set_option maxRecDepth 20000 in
theorem gX1_countAccepted_X1_countAt : GoodIn wsX1_countAccepted (wsV RX1 40 RX1 yX1_countAt wsX1_countAt) := goodIn_app (goodIn_of _ (by decide +kernel)) ggX1_countAccepted_X1_countAt
theorem dX1_countAccepted_0 : decode cX1_countAccepted 0 = .ok (.lconst 0, 1) := by decide +kernel
theorem dX1_countAccepted_1 : decode cX1_countAccepted 1 = .ok (.lstore_n 2, 1) := by decide +kernel
theorem dX1_countAccepted_2 : decode cX1_countAccepted 2 = .ok (.iconst 0, 1) := by decide +kernel
theorem dX1_countAccepted_3 : decode cX1_countAccepted 3 = .ok (.istore 4, 2) := by decide +kernel
theorem dX1_countAccepted_5 : decode cX1_countAccepted 5 = .ok (.iload 4, 2) := by decide +kernel
theorem dX1_countAccepted_7 : decode cX1_countAccepted 7 = .ok (.bipush 6, 2) := by decide +kernel
theorem dX1_countAccepted_9 : decode cX1_countAccepted 9 = .ok (.if_icmp .ge 31, 3) := by decide +kernel
theorem dX1_countAccepted_12 : decode cX1_countAccepted 12 = .ok (.aload_n 1, 1) := by decide +kernel
theorem dX1_countAccepted_13 : decode cX1_countAccepted 13 = .ok (.iload 4, 2) := by decide +kernel
theorem dX1_countAccepted_15 : decode cX1_countAccepted 15 = .ok (.invokevirtual 47, 3) := by decide +kernel
theorem dX1_countAccepted_18 : decode cX1_countAccepted 18 = .ok (.ifCond .eq 16, 3) := by decide +kernel
theorem dX1_countAccepted_21 : decode cX1_countAccepted 21 = .ok (.lload_n 2, 1) := by decide +kernel
theorem dX1_countAccepted_22 : decode cX1_countAccepted 22 = .ok (.aload_n 0, 1) := by decide +kernel
theorem dX1_countAccepted_23 : decode cX1_countAccepted 23 = .ok (.aload_n 0, 1) := by decide +kernel
theorem dX1_countAccepted_24 : decode cX1_countAccepted 24 = .ok (.getfield 21, 3) := by decide +kernel
theorem dX1_countAccepted_27 : decode cX1_countAccepted 27 = .ok (.iload 4, 2) := by decide +kernel
theorem dX1_countAccepted_29 : decode cX1_countAccepted 29 = .ok (.invokevirtual 40, 3) := by decide +kernel
theorem dX1_countAccepted_32 : decode cX1_countAccepted 32 = .ok (.ladd, 1) := by decide +kernel
theorem dX1_countAccepted_33 : decode cX1_countAccepted 33 = .ok (.lstore_n 2, 1) := by decide +kernel
theorem dX1_countAccepted_34 : decode cX1_countAccepted 34 = .ok (.iinc 4 1, 3) := by decide +kernel
theorem dX1_countAccepted_37 : decode cX1_countAccepted 37 = .ok (.goto (-32), 3) := by decide +kernel
theorem dX1_countAccepted_40 : decode cX1_countAccepted 40 = .ok (.lload_n 2, 1) := by decide +kernel
theorem dX1_countAccepted_41 : decode cX1_countAccepted 41 = .ok (.lreturn, 1) := by decide +kernel
theorem dX2_init_0 : decode cX2_init 0 = .ok (.aload_n 0, 1) := by decide +kernel
theorem dX2_init_1 : decode cX2_init 1 = .ok (.invokespecial 3, 3) := by decide +kernel
theorem dX2_init_4 : decode cX2_init 4 = .ok (.aload_n 0, 1) := by decide +kernel
theorem dX2_init_5 : decode cX2_init 5 = .ok (.sipush 320, 3) := by decide +kernel
theorem dX2_init_8 : decode cX2_init 8 = .ok (.newarray .long, 2) := by decide +kernel
theorem dX2_init_10 : decode cX2_init 10 = .ok (.putfield 11, 3) := by decide +kernel
theorem dX2_init_13 : decode cX2_init 13 = .ok (.aload_n 0, 1) := by decide +kernel
theorem dX2_init_14 : decode cX2_init 14 = .ok (.sipush 320, 3) := by decide +kernel
theorem dX2_init_17 : decode cX2_init 17 = .ok (.newarray .long, 2) := by decide +kernel
theorem dX2_init_19 : decode cX2_init 19 = .ok (.putfield 15, 3) := by decide +kernel
theorem dX2_init_22 : decode cX2_init 22 = .ok (.aload_n 0, 1) := by decide +kernel
theorem dX2_init_23 : decode cX2_init 23 = .ok (.sipush 160, 3) := by decide +kernel
theorem dX2_init_26 : decode cX2_init 26 = .ok (.newarray .long, 2) := by decide +kernel
theorem dX2_init_28 : decode cX2_init 28 = .ok (.putfield 18, 3) := by decide +kernel
theorem dX2_init_31 : decode cX2_init 31 = .ok (.aload_n 0, 1) := by decide +kernel
theorem dX2_init_32 : decode cX2_init 32 = .ok (.bipush 12, 2) := by decide +kernel
theorem dX2_init_34 : decode cX2_init 34 = .ok (.newarray .long, 2) := by decide +kernel
theorem dX2_init_36 : decode cX2_init 36 = .ok (.putfield 21, 3) := by decide +kernel
theorem dX2_init_39 : decode cX2_init 39 = .ok (.aload_n 0, 1) := by decide +kernel
theorem dX2_init_40 : decode cX2_init 40 = .ok (.sipush 4608, 3) := by decide +kernel
theorem dX2_init_43 : decode cX2_init 43 = .ok (.newarray .long, 2) := by decide +kernel
theorem dX2_init_45 : decode cX2_init 45 = .ok (.putfield 24, 3) := by decide +kernel
theorem dX2_init_48 : decode cX2_init 48 = .ok (.aload_n 0, 1) := by decide +kernel
theorem dX2_init_49 : decode cX2_init 49 = .ok (.iconst 2, 1) := by decide +kernel
theorem dX2_init_50 : decode cX2_init 50 = .ok (.newarray .long, 2) := by decide +kernel
theorem dX2_init_52 : decode cX2_init 52 = .ok (.putfield 27, 3) := by decide +kernel
theorem dX2_init_55 : decode cX2_init 55 = .ok (.return_, 1) := by decide +kernel
set_option maxRecDepth 20000 in
theorem ggX2_fits_X8_isNode : GoodIn wsX2_fits wsX8_isNode := goodIn_r _ [6, 7, 94, 95, 96, 97, 98, 99, 100, 101, 102, 103, 104] (by decide +kernel) (by decide +kernel)
set_option maxRecDepth 20000 in
theorem gX2_fits_X8_isNode_n36 : GoodIn wsX2_fits (wsX8_isNode) := ggX2_fits_X8_isNode
set_option maxRecDepth 20000 in
theorem ggX2_fits_X8_leastLength : GoodIn wsX2_fits wsX8_leastLength := goodIn_r _ [11, 12, 13, 14, 15, 4, 16, 17, 18, 3, 5, 6, 7, 94, 95, 96, 97, 98, 99, 100, 101, 102, 103, 104] (by decide +kernel) (by decide +kernel)
set_option maxRecDepth 20000 in
theorem gX2_fits_X8_leastLength : GoodIn wsX2_fits (wsV RX2 45 RX8 yX8_leastLength wsX8_leastLength) := goodIn_app (goodIn_of _ (by decide +kernel)) ggX2_fits_X8_leastLength
set_option maxRecDepth 20000 in
theorem ggX2_fits_X2_findSpots : GoodIn wsX2_fits wsX2_findSpots := goodIn_r _ [23, 24, 25, 2, 26, 27, 28, 29, 30, 31, 32, 33, 34, 22, 35, 36, 37, 38, 39, 40, 41, 42, 43, 44, 45, 46, 47, 48, 49, 50, 51, 52, 53, 54, 55, 14, 4, 15, 16, 17, 18, 3, 5, 6, 7, 110, 111, 112, 113, 114, 115, 116, 94, 95, 96, 97, 98, 99, 100, 101, 102, 103, 104] (by decide +kernel) (by decide +kernel)
set_option maxRecDepth 20000 in
theorem gX2_fits_X2_findSpots : GoodIn wsX2_fits (wsV RX2 49 RX2 yX2_findSpots wsX2_findSpots) := goodIn_app (goodIn_of _ (by decide +kernel)) ggX2_fits_X2_findSpots
set_option maxRecDepth 20000 in
theorem ggX2_fits_X2_findNext : GoodIn wsX2_fits wsX2_findNext := goodIn_r _ [59, 60, 25, 24, 1, 26, 28, 29, 30, 31, 46, 47, 22, 48, 43, 44, 45, 53, 54, 55, 110, 111, 112, 113, 114, 115, 116] (by decide +kernel) (by decide +kernel)
set_option maxRecDepth 20000 in
theorem gX2_fits_X2_findNext : GoodIn wsX2_fits (wsV RX2 53 RX2 yX2_findNext wsX2_findNext) := goodIn_app (goodIn_of _ (by decide +kernel)) ggX2_fits_X2_findNext
set_option maxRecDepth 20000 in
theorem ggX2_fits_X2_readLetter : GoodIn wsX2_fits wsX2_readLetter := goodIn_r _ [64, 60, 27, 1, 65, 66, 22, 67, 43, 44, 45, 68, 69, 70, 71, 72, 73, 74, 75, 76, 77, 78, 79, 80, 81, 82, 83, 84, 85, 86, 87, 88, 89, 90, 91, 92, 93, 110, 111, 112, 113, 114, 115, 116, 105, 106, 107, 108, 109, 117, 118, 119, 120, 121, 122, 123] (by decide +kernel) (by decide +kernel)
set_option maxRecDepth 20000 in
theorem gX2_fits_X2_readLetter : GoodIn wsX2_fits (wsV RX2 60 RX2 yX2_readLetter wsX2_readLetter) := goodIn_app (goodIn_of _ (by decide +kernel)) ggX2_fits_X2_readLetter
set_option maxRecDepth 20000 in
theorem ggX2_fits_X2_shares : GoodIn wsX2_fits wsX2_shares := goodIn_r _ [67, 43, 44, 22, 45] (by decide +kernel) (by decide +kernel)
set_option maxRecDepth 20000 in
theorem gX2_fits_X2_shares : GoodIn wsX2_fits (va_wsS RX2 64 yX2_shares wsX2_shares) := goodIn_app (goodIn_of _ (by decide +kernel)) ggX2_fits_X2_shares
theorem dX2_fits_0 : decode cX2_fits 0 = .ok (.aload_n 1, 1) := by decide +kernel
theorem dX2_fits_1 : decode cX2_fits 1 = .ok (.aload_n 1, 1) := by decide +kernel
theorem dX2_fits_2 : decode cX2_fits 2 = .ok (.getfield 30, 3) := by decide +kernel
theorem dX2_fits_5 : decode cX2_fits 5 = .ok (.invokevirtual 36, 3) := by decide +kernel
theorem dX2_fits_8 : decode cX2_fits 8 = .ok (.ifCond .ne 5, 3) := by decide +kernel
theorem dX2_fits_11 : decode cX2_fits 11 = .ok (.iconst 0, 1) := by decide +kernel
theorem dX2_fits_12 : decode cX2_fits 12 = .ok (.ireturn, 1) := by decide +kernel
theorem dX2_fits_13 : decode cX2_fits 13 = .ok (.aload_n 2, 1) := by decide +kernel
theorem dX2_fits_14 : decode cX2_fits 14 = .ok (.getfield 40, 3) := by decide +kernel
theorem dX2_fits_17 : decode cX2_fits 17 = .ok (.iconst 1, 1) := by decide +kernel
theorem dX2_fits_18 : decode cX2_fits 18 = .ok (.isub, 1) := by decide +kernel
theorem dX2_fits_19 : decode cX2_fits 19 = .ok (.istore_n 3, 1) := by decide +kernel
theorem dX2_fits_20 : decode cX2_fits 20 = .ok (.iload_n 3, 1) := by decide +kernel
theorem dX2_fits_21 : decode cX2_fits 21 = .ok (.ifCond .gt 16, 3) := by decide +kernel
theorem dX2_fits_24 : decode cX2_fits 24 = .ok (.aload_n 1, 1) := by decide +kernel
theorem dX2_fits_25 : decode cX2_fits 25 = .ok (.invokevirtual 45, 3) := by decide +kernel
theorem dX2_fits_28 : decode cX2_fits 28 = .ok (.ifCond .ne 7, 3) := by decide +kernel
theorem dX2_fits_31 : decode cX2_fits 31 = .ok (.iconst 1, 1) := by decide +kernel
theorem dX2_fits_32 : decode cX2_fits 32 = .ok (.goto 4, 3) := by decide +kernel
theorem dX2_fits_35 : decode cX2_fits 35 = .ok (.iconst 0, 1) := by decide +kernel
theorem dX2_fits_36 : decode cX2_fits 36 = .ok (.ireturn, 1) := by decide +kernel
theorem dX2_fits_37 : decode cX2_fits 37 = .ok (.aload_n 0, 1) := by decide +kernel
theorem dX2_fits_38 : decode cX2_fits 38 = .ok (.aload_n 1, 1) := by decide +kernel
theorem dX2_fits_39 : decode cX2_fits 39 = .ok (.invokevirtual 49, 3) := by decide +kernel
theorem dX2_fits_42 : decode cX2_fits 42 = .ok (.iconst 0, 1) := by decide +kernel
theorem dX2_fits_43 : decode cX2_fits 43 = .ok (.istore 4, 2) := by decide +kernel
theorem dX2_fits_45 : decode cX2_fits 45 = .ok (.iload 4, 2) := by decide +kernel
theorem dX2_fits_47 : decode cX2_fits 47 = .ok (.iconst 2, 1) := by decide +kernel
theorem dX2_fits_48 : decode cX2_fits 48 = .ok (.aload_n 2, 1) := by decide +kernel
theorem dX2_fits_49 : decode cX2_fits 49 = .ok (.getfield 40, 3) := by decide +kernel
theorem dX2_fits_52 : decode cX2_fits 52 = .ok (.imul, 1) := by decide +kernel
theorem dX2_fits_53 : decode cX2_fits 53 = .ok (.if_icmp .ge 27, 3) := by decide +kernel
theorem dX2_fits_56 : decode cX2_fits 56 = .ok (.iload 4, 2) := by decide +kernel
theorem dX2_fits_58 : decode cX2_fits 58 = .ok (.aload_n 0, 1) := by decide +kernel
theorem dX2_fits_59 : decode cX2_fits 59 = .ok (.getfield 24, 3) := by decide +kernel
theorem dX2_fits_62 : decode cX2_fits 62 = .ok (.arraylength, 1) := by decide +kernel
theorem dX2_fits_63 : decode cX2_fits 63 = .ok (.if_icmp .ge 17, 3) := by decide +kernel
theorem dX2_fits_66 : decode cX2_fits 66 = .ok (.aload_n 0, 1) := by decide +kernel
theorem dX2_fits_67 : decode cX2_fits 67 = .ok (.getfield 24, 3) := by decide +kernel
theorem dX2_fits_70 : decode cX2_fits 70 = .ok (.iload 4, 2) := by decide +kernel
theorem dX2_fits_72 : decode cX2_fits 72 = .ok (.lconst 0, 1) := by decide +kernel
theorem dX2_fits_73 : decode cX2_fits 73 = .ok (.lastore, 1) := by decide +kernel
theorem dX2_fits_74 : decode cX2_fits 74 = .ok (.iinc 4 1, 3) := by decide +kernel
theorem dX2_fits_77 : decode cX2_fits 77 = .ok (.goto (-32), 3) := by decide +kernel
theorem dX2_fits_80 : decode cX2_fits 80 = .ok (.iconst 0, 1) := by decide +kernel
theorem dX2_fits_81 : decode cX2_fits 81 = .ok (.istore 4, 2) := by decide +kernel
theorem dX2_fits_83 : decode cX2_fits 83 = .ok (.iload 4, 2) := by decide +kernel
theorem dX2_fits_85 : decode cX2_fits 85 = .ok (.iload_n 3, 1) := by decide +kernel
theorem dX2_fits_86 : decode cX2_fits 86 = .ok (.if_icmp .ge 54, 3) := by decide +kernel
theorem dX2_fits_89 : decode cX2_fits 89 = .ok (.iload 4, 2) := by decide +kernel
theorem dX2_fits_91 : decode cX2_fits 91 = .ok (.sipush 2304, 3) := by decide +kernel
theorem dX2_fits_94 : decode cX2_fits 94 = .ok (.if_icmp .ge 46, 3) := by decide +kernel
theorem dX2_fits_97 : decode cX2_fits 97 = .ok (.aload_n 0, 1) := by decide +kernel
theorem dX2_fits_98 : decode cX2_fits 98 = .ok (.aload_n 1, 1) := by decide +kernel
theorem dX2_fits_99 : decode cX2_fits 99 = .ok (.getfield 30, 3) := by decide +kernel
theorem dX2_fits_102 : decode cX2_fits 102 = .ok (.iload 4, 2) := by decide +kernel
theorem dX2_fits_104 : decode cX2_fits 104 = .ok (.invokevirtual 53, 3) := by decide +kernel
theorem dX2_fits_107 : decode cX2_fits 107 = .ok (.iconst 0, 1) := by decide +kernel
theorem dX2_fits_108 : decode cX2_fits 108 = .ok (.istore 5, 2) := by decide +kernel
theorem dX2_fits_110 : decode cX2_fits 110 = .ok (.iload 5, 2) := by decide +kernel
theorem dX2_fits_112 : decode cX2_fits 112 = .ok (.aload_n 2, 1) := by decide +kernel
theorem dX2_fits_113 : decode cX2_fits 113 = .ok (.getfield 57, 3) := by decide +kernel
theorem dX2_fits_116 : decode cX2_fits 116 = .ok (.if_icmp .ge 18, 3) := by decide +kernel
theorem dX2_fits_119 : decode cX2_fits 119 = .ok (.aload_n 0, 1) := by decide +kernel
theorem dX2_fits_120 : decode cX2_fits 120 = .ok (.aload_n 2, 1) := by decide +kernel
theorem dX2_fits_121 : decode cX2_fits 121 = .ok (.iload 4, 2) := by decide +kernel
theorem dX2_fits_123 : decode cX2_fits 123 = .ok (.iload 5, 2) := by decide +kernel
theorem dX2_fits_125 : decode cX2_fits 125 = .ok (.invokevirtual 60, 3) := by decide +kernel
theorem dX2_fits_128 : decode cX2_fits 128 = .ok (.iinc 5 1, 3) := by decide +kernel
theorem dX2_fits_131 : decode cX2_fits 131 = .ok (.goto (-21), 3) := by decide +kernel
theorem dX2_fits_134 : decode cX2_fits 134 = .ok (.iinc 4 1, 3) := by decide +kernel
theorem dX2_fits_137 : decode cX2_fits 137 = .ok (.goto (-54), 3) := by decide +kernel
theorem dX2_fits_140 : decode cX2_fits 140 = .ok (.aload_n 0, 1) := by decide +kernel
theorem dX2_fits_141 : decode cX2_fits 141 = .ok (.getfield 24, 3) := by decide +kernel
theorem dX2_fits_144 : decode cX2_fits 144 = .ok (.iload_n 3, 1) := by decide +kernel
theorem dX2_fits_145 : decode cX2_fits 145 = .ok (.aload_n 0, 1) := by decide +kernel
theorem dX2_fits_146 : decode cX2_fits 146 = .ok (.getfield 15, 3) := by decide +kernel
theorem dX2_fits_149 : decode cX2_fits 149 = .ok (.aload_n 1, 1) := by decide +kernel
theorem dX2_fits_150 : decode cX2_fits 150 = .ok (.getfield 30, 3) := by decide +kernel
theorem dX2_fits_153 : decode cX2_fits 153 = .ok (.invokestatic 64, 3) := by decide +kernel
theorem dX2_fits_156 : decode cX2_fits 156 = .ok (.ireturn, 1) := by decide +kernel
set_option maxRecDepth 20000 in
theorem ggX2_readLetter_X2_shares : GoodIn wsX2_readLetter wsX2_shares := goodIn_r _ [7, 8, 9, 6, 10] (by decide +kernel) (by decide +kernel)
set_option maxRecDepth 20000 in
theorem gX2_readLetter_X2_shares : GoodIn wsX2_readLetter (va_wsS RX2 64 yX2_shares wsX2_shares) := goodIn_app (goodIn_of _ (by decide +kernel)) ggX2_readLetter_X2_shares
set_option maxRecDepth 20000 in
theorem ggX2_readLetter_X4_grow : GoodIn wsX2_readLetter wsX4_grow := goodIn_r _ [15, 16, 17, 18, 19, 20, 21, 22, 14, 23, 24, 25, 26, 27, 28, 29, 30, 31, 32, 33, 34, 35, 36, 44, 45, 46, 47, 48, 49, 50, 51, 52, 53, 54, 55] (by decide +kernel) (by decide +kernel)
set_option maxRecDepth 20000 in
theorem gX2_readLetter_X4_grow : GoodIn wsX2_readLetter (wsV RX2 68 RX4 yX4_grow wsX4_grow) := goodIn_app (goodIn_of _ (by decide +kernel)) ggX2_readLetter_X4_grow
theorem dX2_readLetter_0 : decode cX2_readLetter 0 = .ok (.aload_n 0, 1) := by decide +kernel
theorem dX2_readLetter_1 : decode cX2_readLetter 1 = .ok (.getfield 27, 3) := by decide +kernel
theorem dX2_readLetter_4 : decode cX2_readLetter 4 = .ok (.iconst 0, 1) := by decide +kernel
theorem dX2_readLetter_5 : decode cX2_readLetter 5 = .ok (.aload_n 0, 1) := by decide +kernel
theorem dX2_readLetter_6 : decode cX2_readLetter 6 = .ok (.getfield 21, 3) := by decide +kernel
theorem dX2_readLetter_9 : decode cX2_readLetter 9 = .ok (.iload_n 3, 1) := by decide +kernel
theorem dX2_readLetter_10 : decode cX2_readLetter 10 = .ok (.invokestatic 64, 3) := by decide +kernel
theorem dX2_readLetter_13 : decode cX2_readLetter 13 = .ok (.ifCond .ne 4, 3) := by decide +kernel
theorem dX2_readLetter_16 : decode cX2_readLetter 16 = .ok (.return_, 1) := by decide +kernel
theorem dX2_readLetter_17 : decode cX2_readLetter 17 = .ok (.aload_n 1, 1) := by decide +kernel
theorem dX2_readLetter_18 : decode cX2_readLetter 18 = .ok (.iload_n 2, 1) := by decide +kernel
theorem dX2_readLetter_19 : decode cX2_readLetter 19 = .ok (.iload_n 3, 1) := by decide +kernel
theorem dX2_readLetter_20 : decode cX2_readLetter 20 = .ok (.invokevirtual 68, 3) := by decide +kernel
theorem dX2_readLetter_23 : decode cX2_readLetter 23 = .ok (.istore 4, 2) := by decide +kernel
theorem dX2_readLetter_25 : decode cX2_readLetter 25 = .ok (.iload 4, 2) := by decide +kernel
theorem dX2_readLetter_27 : decode cX2_readLetter 27 = .ok (.ifCond .lt 21, 3) := by decide +kernel
theorem dX2_readLetter_30 : decode cX2_readLetter 30 = .ok (.iload 4, 2) := by decide +kernel
theorem dX2_readLetter_32 : decode cX2_readLetter 32 = .ok (.sipush 2304, 3) := by decide +kernel
theorem dX2_readLetter_35 : decode cX2_readLetter 35 = .ok (.if_icmp .ge 13, 3) := by decide +kernel
theorem dX2_readLetter_38 : decode cX2_readLetter 38 = .ok (.iload_n 3, 1) := by decide +kernel
theorem dX2_readLetter_39 : decode cX2_readLetter 39 = .ok (.ifCond .lt 9, 3) := by decide +kernel
theorem dX2_readLetter_42 : decode cX2_readLetter 42 = .ok (.iload_n 3, 1) := by decide +kernel
theorem dX2_readLetter_43 : decode cX2_readLetter 43 = .ok (.bipush 6, 2) := by decide +kernel
theorem dX2_readLetter_45 : decode cX2_readLetter 45 = .ok (.if_icmp .lt 4, 3) := by decide +kernel
theorem dX2_readLetter_48 : decode cX2_readLetter 48 = .ok (.return_, 1) := by decide +kernel
theorem dX2_readLetter_49 : decode cX2_readLetter 49 = .ok (.iconst 0, 1) := by decide +kernel
theorem dX2_readLetter_50 : decode cX2_readLetter 50 = .ok (.istore 5, 2) := by decide +kernel
theorem dX2_readLetter_52 : decode cX2_readLetter 52 = .ok (.iload 5, 2) := by decide +kernel
theorem dX2_readLetter_54 : decode cX2_readLetter 54 = .ok (.iconst 2, 1) := by decide +kernel
theorem dX2_readLetter_55 : decode cX2_readLetter 55 = .ok (.if_icmp .ge 43, 3) := by decide +kernel
theorem dX2_readLetter_58 : decode cX2_readLetter 58 = .ok (.aload_n 0, 1) := by decide +kernel
theorem dX2_readLetter_59 : decode cX2_readLetter 59 = .ok (.getfield 24, 3) := by decide +kernel
theorem dX2_readLetter_62 : decode cX2_readLetter 62 = .ok (.iconst 2, 1) := by decide +kernel
theorem dX2_readLetter_63 : decode cX2_readLetter 63 = .ok (.iload 4, 2) := by decide +kernel
theorem dX2_readLetter_65 : decode cX2_readLetter 65 = .ok (.imul, 1) := by decide +kernel
theorem dX2_readLetter_66 : decode cX2_readLetter 66 = .ok (.iload 5, 2) := by decide +kernel
theorem dX2_readLetter_68 : decode cX2_readLetter 68 = .ok (.iadd, 1) := by decide +kernel
theorem dX2_readLetter_69 : decode cX2_readLetter 69 = .ok (.dup2, 1) := by decide +kernel
theorem dX2_readLetter_70 : decode cX2_readLetter 70 = .ok (.laload, 1) := by decide +kernel
theorem dX2_readLetter_71 : decode cX2_readLetter 71 = .ok (.aload_n 0, 1) := by decide +kernel
theorem dX2_readLetter_72 : decode cX2_readLetter 72 = .ok (.getfield 27, 3) := by decide +kernel
theorem dX2_readLetter_75 : decode cX2_readLetter 75 = .ok (.iload 5, 2) := by decide +kernel
theorem dX2_readLetter_77 : decode cX2_readLetter 77 = .ok (.laload, 1) := by decide +kernel
theorem dX2_readLetter_78 : decode cX2_readLetter 78 = .ok (.aload_n 0, 1) := by decide +kernel
theorem dX2_readLetter_79 : decode cX2_readLetter 79 = .ok (.getfield 21, 3) := by decide +kernel
theorem dX2_readLetter_82 : decode cX2_readLetter 82 = .ok (.iconst 2, 1) := by decide +kernel
theorem dX2_readLetter_83 : decode cX2_readLetter 83 = .ok (.iload_n 3, 1) := by decide +kernel
theorem dX2_readLetter_84 : decode cX2_readLetter 84 = .ok (.imul, 1) := by decide +kernel
theorem dX2_readLetter_85 : decode cX2_readLetter 85 = .ok (.iload 5, 2) := by decide +kernel
theorem dX2_readLetter_87 : decode cX2_readLetter 87 = .ok (.iadd, 1) := by decide +kernel
theorem dX2_readLetter_88 : decode cX2_readLetter 88 = .ok (.laload, 1) := by decide +kernel
theorem dX2_readLetter_89 : decode cX2_readLetter 89 = .ok (.land, 1) := by decide +kernel
theorem dX2_readLetter_90 : decode cX2_readLetter 90 = .ok (.lor, 1) := by decide +kernel
theorem dX2_readLetter_91 : decode cX2_readLetter 91 = .ok (.lastore, 1) := by decide +kernel
theorem dX2_readLetter_92 : decode cX2_readLetter 92 = .ok (.iinc 5 1, 3) := by decide +kernel
theorem dX2_readLetter_95 : decode cX2_readLetter 95 = .ok (.goto (-43), 3) := by decide +kernel
theorem dX2_readLetter_98 : decode cX2_readLetter 98 = .ok (.return_, 1) := by decide +kernel
set_option maxRecDepth 20000 in
theorem ggX2_findNext_J7_fill_d0a16 : GoodIn wsX2_findNext wsJ7_fill_d0a16 := goodIn_r _ [9] (by decide +kernel) (by decide +kernel)
set_option maxRecDepth 20000 in
theorem gX2_findNext_J7_fill_d0a16 : GoodIn wsX2_findNext (va_wsS RX2 72 yJ7_fill_d0a16 wsJ7_fill_d0a16) := goodIn_app (goodIn_of _ (by decide +kernel)) ggX2_findNext_J7_fill_d0a16
set_option maxRecDepth 20000 in
theorem ggX2_findNext_X2_include : GoodIn wsX2_findNext wsX2_include := goodIn_r _ [13, 14, 15, 12, 16] (by decide +kernel) (by decide +kernel)
set_option maxRecDepth 20000 in
theorem gX2_findNext_X2_include : GoodIn wsX2_findNext (va_wsS RX2 78 yX2_include wsX2_include) := goodIn_app (goodIn_of _ (by decide +kernel)) ggX2_findNext_X2_include
set_option maxRecDepth 20000 in
theorem ggX2_findNext_X2_contains : GoodIn wsX2_findNext wsX2_contains := goodIn_r _ [19, 14, 15, 12, 16] (by decide +kernel) (by decide +kernel)
set_option maxRecDepth 20000 in
theorem gX2_findNext_X2_contains : GoodIn wsX2_findNext (va_wsS RX2 85 yX2_contains wsX2_contains) := goodIn_app (goodIn_of _ (by decide +kernel)) ggX2_findNext_X2_contains
theorem dX2_findNext_0 : decode cX2_findNext 0 = .ok (.aload_n 0, 1) := by decide +kernel
theorem dX2_findNext_1 : decode cX2_findNext 1 = .ok (.getfield 27, 3) := by decide +kernel
theorem dX2_findNext_4 : decode cX2_findNext 4 = .ok (.lconst 0, 1) := by decide +kernel
theorem dX2_findNext_5 : decode cX2_findNext 5 = .ok (.invokestatic 72, 3) := by decide +kernel
theorem dX2_findNext_8 : decode cX2_findNext 8 = .ok (.iload_n 2, 1) := by decide +kernel
theorem dX2_findNext_9 : decode cX2_findNext 9 = .ok (.ifCond .ne 17, 3) := by decide +kernel
theorem dX2_findNext_12 : decode cX2_findNext 12 = .ok (.aload_n 0, 1) := by decide +kernel
theorem dX2_findNext_13 : decode cX2_findNext 13 = .ok (.getfield 27, 3) := by decide +kernel
theorem dX2_findNext_16 : decode cX2_findNext 16 = .ok (.iconst 0, 1) := by decide +kernel
theorem dX2_findNext_17 : decode cX2_findNext 17 = .ok (.aload_n 0, 1) := by decide +kernel
theorem dX2_findNext_18 : decode cX2_findNext 18 = .ok (.getfield 11, 3) := by decide +kernel
theorem dX2_findNext_21 : decode cX2_findNext 21 = .ok (.iload_n 1, 1) := by decide +kernel
theorem dX2_findNext_22 : decode cX2_findNext 22 = .ok (.invokestatic 78, 3) := by decide +kernel
theorem dX2_findNext_25 : decode cX2_findNext 25 = .ok (.return_, 1) := by decide +kernel
theorem dX2_findNext_26 : decode cX2_findNext 26 = .ok (.iconst 0, 1) := by decide +kernel
theorem dX2_findNext_27 : decode cX2_findNext 27 = .ok (.istore_n 3, 1) := by decide +kernel
theorem dX2_findNext_28 : decode cX2_findNext 28 = .ok (.iload_n 3, 1) := by decide +kernel
theorem dX2_findNext_29 : decode cX2_findNext 29 = .ok (.aload_n 0, 1) := by decide +kernel
theorem dX2_findNext_30 : decode cX2_findNext 30 = .ok (.getfield 82, 3) := by decide +kernel
theorem dX2_findNext_33 : decode cX2_findNext 33 = .ok (.if_icmp .ge 34, 3) := by decide +kernel
theorem dX2_findNext_36 : decode cX2_findNext 36 = .ok (.aload_n 0, 1) := by decide +kernel
theorem dX2_findNext_37 : decode cX2_findNext 37 = .ok (.getfield 24, 3) := by decide +kernel
theorem dX2_findNext_40 : decode cX2_findNext 40 = .ok (.iload_n 2, 1) := by decide +kernel
theorem dX2_findNext_41 : decode cX2_findNext 41 = .ok (.iload_n 3, 1) := by decide +kernel
theorem dX2_findNext_42 : decode cX2_findNext 42 = .ok (.invokestatic 85, 3) := by decide +kernel
theorem dX2_findNext_45 : decode cX2_findNext 45 = .ok (.ifCond .eq 16, 3) := by decide +kernel
theorem dX2_findNext_48 : decode cX2_findNext 48 = .ok (.aload_n 0, 1) := by decide +kernel
theorem dX2_findNext_49 : decode cX2_findNext 49 = .ok (.getfield 27, 3) := by decide +kernel
theorem dX2_findNext_52 : decode cX2_findNext 52 = .ok (.iconst 0, 1) := by decide +kernel
theorem dX2_findNext_53 : decode cX2_findNext 53 = .ok (.aload_n 0, 1) := by decide +kernel
theorem dX2_findNext_54 : decode cX2_findNext 54 = .ok (.getfield 18, 3) := by decide +kernel
theorem dX2_findNext_57 : decode cX2_findNext 57 = .ok (.iload_n 3, 1) := by decide +kernel
theorem dX2_findNext_58 : decode cX2_findNext 58 = .ok (.invokestatic 78, 3) := by decide +kernel
theorem dX2_findNext_61 : decode cX2_findNext 61 = .ok (.iinc 3 1, 3) := by decide +kernel
theorem dX2_findNext_64 : decode cX2_findNext 64 = .ok (.goto (-36), 3) := by decide +kernel
theorem dX2_findNext_67 : decode cX2_findNext 67 = .ok (.return_, 1) := by decide +kernel
set_option maxRecDepth 20000 in
theorem ggX2_findSpots_J7_fill_d0a16 : GoodIn wsX2_findSpots wsJ7_fill_d0a16 := goodIn_r _ [9] (by decide +kernel) (by decide +kernel)
set_option maxRecDepth 20000 in
theorem gX2_findSpots_J7_fill_d0a16 : GoodIn wsX2_findSpots (va_wsS RX2 72 yJ7_fill_d0a16 wsJ7_fill_d0a16) := goodIn_app (goodIn_of _ (by decide +kernel)) ggX2_findSpots_J7_fill_d0a16
set_option maxRecDepth 20000 in
theorem ggX2_findSpots_X2_findEnds : GoodIn wsX2_findSpots wsX2_findEnds := goodIn_r _ [14, 2, 3, 15, 16, 17, 13, 18, 1, 5, 19, 20, 21, 22, 23, 24, 25, 26, 27, 28, 29, 30, 31, 4, 32, 33, 34, 35, 36, 37, 38, 39, 40, 41, 42, 43, 44, 52, 53, 54, 55, 56, 57, 58, 59, 60, 61, 62, 45, 46, 47, 48, 49, 50, 51] (by decide +kernel) (by decide +kernel)
set_option maxRecDepth 20000 in
theorem gX2_findSpots_X2_findEnds : GoodIn wsX2_findSpots (wsV RX2 97 RX2 yX2_findEnds wsX2_findEnds) := goodIn_app (goodIn_of _ (by decide +kernel)) ggX2_findSpots_X2_findEnds
theorem dX2_findSpots_0 : decode cX2_findSpots 0 = .ok (.aload_n 0, 1) := by decide +kernel
theorem dX2_findSpots_1 : decode cX2_findSpots 1 = .ok (.iconst 0, 1) := by decide +kernel
theorem dX2_findSpots_2 : decode cX2_findSpots 2 = .ok (.putfield 82, 3) := by decide +kernel
theorem dX2_findSpots_5 : decode cX2_findSpots 5 = .ok (.aload_n 0, 1) := by decide +kernel
theorem dX2_findSpots_6 : decode cX2_findSpots 6 = .ok (.getfield 11, 3) := by decide +kernel
theorem dX2_findSpots_9 : decode cX2_findSpots 9 = .ok (.lconst 0, 1) := by decide +kernel
theorem dX2_findSpots_10 : decode cX2_findSpots 10 = .ok (.invokestatic 72, 3) := by decide +kernel
theorem dX2_findSpots_13 : decode cX2_findSpots 13 = .ok (.aload_n 0, 1) := by decide +kernel
theorem dX2_findSpots_14 : decode cX2_findSpots 14 = .ok (.getfield 15, 3) := by decide +kernel
theorem dX2_findSpots_17 : decode cX2_findSpots 17 = .ok (.lconst 0, 1) := by decide +kernel
theorem dX2_findSpots_18 : decode cX2_findSpots 18 = .ok (.invokestatic 72, 3) := by decide +kernel
theorem dX2_findSpots_21 : decode cX2_findSpots 21 = .ok (.aload_n 0, 1) := by decide +kernel
theorem dX2_findSpots_22 : decode cX2_findSpots 22 = .ok (.getfield 18, 3) := by decide +kernel
theorem dX2_findSpots_25 : decode cX2_findSpots 25 = .ok (.lconst 0, 1) := by decide +kernel
theorem dX2_findSpots_26 : decode cX2_findSpots 26 = .ok (.invokestatic 72, 3) := by decide +kernel
theorem dX2_findSpots_29 : decode cX2_findSpots 29 = .ok (.aload_n 0, 1) := by decide +kernel
theorem dX2_findSpots_30 : decode cX2_findSpots 30 = .ok (.getfield 21, 3) := by decide +kernel
theorem dX2_findSpots_33 : decode cX2_findSpots 33 = .ok (.lconst 0, 1) := by decide +kernel
theorem dX2_findSpots_34 : decode cX2_findSpots 34 = .ok (.invokestatic 72, 3) := by decide +kernel
theorem dX2_findSpots_37 : decode cX2_findSpots 37 = .ok (.iconst 0, 1) := by decide +kernel
theorem dX2_findSpots_38 : decode cX2_findSpots 38 = .ok (.istore_n 2, 1) := by decide +kernel
theorem dX2_findSpots_39 : decode cX2_findSpots 39 = .ok (.iload_n 2, 1) := by decide +kernel
theorem dX2_findSpots_40 : decode cX2_findSpots 40 = .ok (.aload_n 1, 1) := by decide +kernel
theorem dX2_findSpots_41 : decode cX2_findSpots 41 = .ok (.getfield 89, 3) := by decide +kernel
theorem dX2_findSpots_44 : decode cX2_findSpots 44 = .ok (.if_icmp .ge 34, 3) := by decide +kernel
theorem dX2_findSpots_47 : decode cX2_findSpots 47 = .ok (.iload_n 2, 1) := by decide +kernel
theorem dX2_findSpots_48 : decode cX2_findSpots 48 = .ok (.sipush 160, 3) := by decide +kernel
theorem dX2_findSpots_51 : decode cX2_findSpots 51 = .ok (.if_icmp .ge 27, 3) := by decide +kernel
theorem dX2_findSpots_54 : decode cX2_findSpots 54 = .ok (.aload_n 0, 1) := by decide +kernel
theorem dX2_findSpots_55 : decode cX2_findSpots 55 = .ok (.aload_n 1, 1) := by decide +kernel
theorem dX2_findSpots_56 : decode cX2_findSpots 56 = .ok (.iload_n 2, 1) := by decide +kernel
theorem dX2_findSpots_57 : decode cX2_findSpots 57 = .ok (.aload_n 1, 1) := by decide +kernel
theorem dX2_findSpots_58 : decode cX2_findSpots 58 = .ok (.getfield 90, 3) := by decide +kernel
theorem dX2_findSpots_61 : decode cX2_findSpots 61 = .ok (.iload_n 2, 1) := by decide +kernel
theorem dX2_findSpots_62 : decode cX2_findSpots 62 = .ok (.iaload, 1) := by decide +kernel
theorem dX2_findSpots_63 : decode cX2_findSpots 63 = .ok (.aload_n 1, 1) := by decide +kernel
theorem dX2_findSpots_64 : decode cX2_findSpots 64 = .ok (.getfield 94, 3) := by decide +kernel
theorem dX2_findSpots_67 : decode cX2_findSpots 67 = .ok (.iload_n 2, 1) := by decide +kernel
theorem dX2_findSpots_68 : decode cX2_findSpots 68 = .ok (.iaload, 1) := by decide +kernel
theorem dX2_findSpots_69 : decode cX2_findSpots 69 = .ok (.invokevirtual 97, 3) := by decide +kernel
theorem dX2_findSpots_72 : decode cX2_findSpots 72 = .ok (.iinc 2 1, 3) := by decide +kernel
theorem dX2_findSpots_75 : decode cX2_findSpots 75 = .ok (.goto (-36), 3) := by decide +kernel
theorem dX2_findSpots_78 : decode cX2_findSpots 78 = .ok (.return_, 1) := by decide +kernel
set_option maxRecDepth 20000 in
theorem ggX2_findEnds_X2_addSpot : GoodIn wsX2_findEnds wsX2_addSpot := goodIn_r _ [7, 8, 1, 2, 9, 10, 11, 6, 12, 13, 14, 15, 48, 49, 50, 51, 52, 53, 54] (by decide +kernel) (by decide +kernel)
set_option maxRecDepth 20000 in
theorem gX2_findEnds_X2_addSpot : GoodIn wsX2_findEnds (wsV RX2 104 RX2 yX2_addSpot wsX2_addSpot) := goodIn_app (goodIn_of _ (by decide +kernel)) ggX2_findEnds_X2_addSpot
set_option maxRecDepth 20000 in
theorem ggX2_findEnds_X2_include : GoodIn wsX2_findEnds wsX2_include := goodIn_r _ [18, 13, 14, 6, 15] (by decide +kernel) (by decide +kernel)
set_option maxRecDepth 20000 in
theorem gX2_findEnds_X2_include : GoodIn wsX2_findEnds (va_wsS RX2 78 yX2_include wsX2_include) := goodIn_app (goodIn_of _ (by decide +kernel)) ggX2_findEnds_X2_include
set_option maxRecDepth 20000 in
theorem ggX2_findEnds_X2_chain : GoodIn wsX2_findEnds wsX2_chain := goodIn_r _ [22, 8, 2, 23, 1, 24, 25, 6, 26, 13, 14, 15, 16, 17, 18, 48, 49, 50, 51, 52, 53, 54] (by decide +kernel) (by decide +kernel)
set_option maxRecDepth 20000 in
theorem gX2_findEnds_X2_chain : GoodIn wsX2_findEnds (wsV RX2 107 RX2 yX2_chain wsX2_chain) := goodIn_app (goodIn_of _ (by decide +kernel)) ggX2_findEnds_X2_chain
set_option maxRecDepth 20000 in
theorem ggX2_findEnds_X8_leastOf : GoodIn wsX2_findEnds wsX8_leastOf := goodIn_r _ [30, 31, 32, 33, 34, 28, 35, 36, 37, 38, 39, 40, 41, 42, 43, 44, 45, 46, 47] (by decide +kernel) (by decide +kernel)
set_option maxRecDepth 20000 in
theorem gX2_findEnds_X8_leastOf_n110 : GoodIn wsX2_findEnds (wsX8_leastOf) := ggX2_findEnds_X8_leastOf
theorem dX2_findEnds_0 : decode cX2_findEnds 0 = .ok (.aload_n 1, 1) := by decide +kernel
theorem dX2_findEnds_1 : decode cX2_findEnds 1 = .ok (.getfield 101, 3) := by decide +kernel
theorem dX2_findEnds_4 : decode cX2_findEnds 4 = .ok (.iload_n 2, 1) := by decide +kernel
theorem dX2_findEnds_5 : decode cX2_findEnds 5 = .ok (.iaload, 1) := by decide +kernel
theorem dX2_findEnds_6 : decode cX2_findEnds 6 = .ok (.tableswitch 212 1 4 #[30, 39, 96, 177], 30) := by decide +kernel
theorem dX2_findEnds_36 : decode cX2_findEnds 36 = .ok (.aload_n 0, 1) := by decide +kernel
theorem dX2_findEnds_37 : decode cX2_findEnds 37 = .ok (.iload_n 2, 1) := by decide +kernel
theorem dX2_findEnds_38 : decode cX2_findEnds 38 = .ok (.iload_n 3, 1) := by decide +kernel
theorem dX2_findEnds_39 : decode cX2_findEnds 39 = .ok (.invokevirtual 104, 3) := by decide +kernel
theorem dX2_findEnds_42 : decode cX2_findEnds 42 = .ok (.goto 176, 3) := by decide +kernel
theorem dX2_findEnds_45 : decode cX2_findEnds 45 = .ok (.aload_n 0, 1) := by decide +kernel
theorem dX2_findEnds_46 : decode cX2_findEnds 46 = .ok (.getfield 11, 3) := by decide +kernel
theorem dX2_findEnds_49 : decode cX2_findEnds 49 = .ok (.iload_n 2, 1) := by decide +kernel
theorem dX2_findEnds_50 : decode cX2_findEnds 50 = .ok (.aload_n 0, 1) := by decide +kernel
theorem dX2_findEnds_51 : decode cX2_findEnds 51 = .ok (.getfield 11, 3) := by decide +kernel
theorem dX2_findEnds_54 : decode cX2_findEnds 54 = .ok (.iload_n 3, 1) := by decide +kernel
theorem dX2_findEnds_55 : decode cX2_findEnds 55 = .ok (.invokestatic 78, 3) := by decide +kernel
theorem dX2_findEnds_58 : decode cX2_findEnds 58 = .ok (.aload_n 0, 1) := by decide +kernel
theorem dX2_findEnds_59 : decode cX2_findEnds 59 = .ok (.getfield 11, 3) := by decide +kernel
theorem dX2_findEnds_62 : decode cX2_findEnds 62 = .ok (.iload_n 2, 1) := by decide +kernel
theorem dX2_findEnds_63 : decode cX2_findEnds 63 = .ok (.aload_n 0, 1) := by decide +kernel
theorem dX2_findEnds_64 : decode cX2_findEnds 64 = .ok (.getfield 11, 3) := by decide +kernel
theorem dX2_findEnds_67 : decode cX2_findEnds 67 = .ok (.iload 4, 2) := by decide +kernel
theorem dX2_findEnds_69 : decode cX2_findEnds 69 = .ok (.invokestatic 78, 3) := by decide +kernel
theorem dX2_findEnds_72 : decode cX2_findEnds 72 = .ok (.aload_n 0, 1) := by decide +kernel
theorem dX2_findEnds_73 : decode cX2_findEnds 73 = .ok (.getfield 15, 3) := by decide +kernel
theorem dX2_findEnds_76 : decode cX2_findEnds 76 = .ok (.iload_n 2, 1) := by decide +kernel
theorem dX2_findEnds_77 : decode cX2_findEnds 77 = .ok (.aload_n 0, 1) := by decide +kernel
theorem dX2_findEnds_78 : decode cX2_findEnds 78 = .ok (.getfield 15, 3) := by decide +kernel
theorem dX2_findEnds_81 : decode cX2_findEnds 81 = .ok (.iload_n 3, 1) := by decide +kernel
theorem dX2_findEnds_82 : decode cX2_findEnds 82 = .ok (.invokestatic 78, 3) := by decide +kernel
theorem dX2_findEnds_85 : decode cX2_findEnds 85 = .ok (.aload_n 0, 1) := by decide +kernel
theorem dX2_findEnds_86 : decode cX2_findEnds 86 = .ok (.getfield 15, 3) := by decide +kernel
theorem dX2_findEnds_89 : decode cX2_findEnds 89 = .ok (.iload_n 2, 1) := by decide +kernel
theorem dX2_findEnds_90 : decode cX2_findEnds 90 = .ok (.aload_n 0, 1) := by decide +kernel
theorem dX2_findEnds_91 : decode cX2_findEnds 91 = .ok (.getfield 15, 3) := by decide +kernel
theorem dX2_findEnds_94 : decode cX2_findEnds 94 = .ok (.iload 4, 2) := by decide +kernel
theorem dX2_findEnds_96 : decode cX2_findEnds 96 = .ok (.invokestatic 78, 3) := by decide +kernel
theorem dX2_findEnds_99 : decode cX2_findEnds 99 = .ok (.goto 119, 3) := by decide +kernel
theorem dX2_findEnds_102 : decode cX2_findEnds 102 = .ok (.aload_n 0, 1) := by decide +kernel
theorem dX2_findEnds_103 : decode cX2_findEnds 103 = .ok (.iload_n 3, 1) := by decide +kernel
theorem dX2_findEnds_104 : decode cX2_findEnds 104 = .ok (.iload 4, 2) := by decide +kernel
theorem dX2_findEnds_106 : decode cX2_findEnds 106 = .ok (.invokevirtual 107, 3) := by decide +kernel
theorem dX2_findEnds_109 : decode cX2_findEnds 109 = .ok (.aload_n 0, 1) := by decide +kernel
theorem dX2_findEnds_110 : decode cX2_findEnds 110 = .ok (.getfield 11, 3) := by decide +kernel
theorem dX2_findEnds_113 : decode cX2_findEnds 113 = .ok (.iload_n 2, 1) := by decide +kernel
theorem dX2_findEnds_114 : decode cX2_findEnds 114 = .ok (.aload_n 0, 1) := by decide +kernel
theorem dX2_findEnds_115 : decode cX2_findEnds 115 = .ok (.getfield 11, 3) := by decide +kernel
theorem dX2_findEnds_118 : decode cX2_findEnds 118 = .ok (.iload_n 3, 1) := by decide +kernel
theorem dX2_findEnds_119 : decode cX2_findEnds 119 = .ok (.invokestatic 78, 3) := by decide +kernel
theorem dX2_findEnds_122 : decode cX2_findEnds 122 = .ok (.aload_n 0, 1) := by decide +kernel
theorem dX2_findEnds_123 : decode cX2_findEnds 123 = .ok (.getfield 15, 3) := by decide +kernel
theorem dX2_findEnds_126 : decode cX2_findEnds 126 = .ok (.iload_n 2, 1) := by decide +kernel
theorem dX2_findEnds_127 : decode cX2_findEnds 127 = .ok (.aload_n 0, 1) := by decide +kernel
theorem dX2_findEnds_128 : decode cX2_findEnds 128 = .ok (.getfield 15, 3) := by decide +kernel
theorem dX2_findEnds_131 : decode cX2_findEnds 131 = .ok (.iload 4, 2) := by decide +kernel
theorem dX2_findEnds_133 : decode cX2_findEnds 133 = .ok (.invokestatic 78, 3) := by decide +kernel
theorem dX2_findEnds_136 : decode cX2_findEnds 136 = .ok (.aload_n 1, 1) := by decide +kernel
theorem dX2_findEnds_137 : decode cX2_findEnds 137 = .ok (.iload_n 3, 1) := by decide +kernel
theorem dX2_findEnds_138 : decode cX2_findEnds 138 = .ok (.invokevirtual 110, 3) := by decide +kernel
theorem dX2_findEnds_141 : decode cX2_findEnds 141 = .ok (.ifCond .ne 17, 3) := by decide +kernel
theorem dX2_findEnds_144 : decode cX2_findEnds 144 = .ok (.aload_n 0, 1) := by decide +kernel
theorem dX2_findEnds_145 : decode cX2_findEnds 145 = .ok (.getfield 11, 3) := by decide +kernel
theorem dX2_findEnds_148 : decode cX2_findEnds 148 = .ok (.iload_n 2, 1) := by decide +kernel
theorem dX2_findEnds_149 : decode cX2_findEnds 149 = .ok (.aload_n 0, 1) := by decide +kernel
theorem dX2_findEnds_150 : decode cX2_findEnds 150 = .ok (.getfield 11, 3) := by decide +kernel
theorem dX2_findEnds_153 : decode cX2_findEnds 153 = .ok (.iload 4, 2) := by decide +kernel
theorem dX2_findEnds_155 : decode cX2_findEnds 155 = .ok (.invokestatic 78, 3) := by decide +kernel
theorem dX2_findEnds_158 : decode cX2_findEnds 158 = .ok (.aload_n 1, 1) := by decide +kernel
theorem dX2_findEnds_159 : decode cX2_findEnds 159 = .ok (.iload 4, 2) := by decide +kernel
theorem dX2_findEnds_161 : decode cX2_findEnds 161 = .ok (.invokevirtual 110, 3) := by decide +kernel
theorem dX2_findEnds_164 : decode cX2_findEnds 164 = .ok (.ifCond .ne 54, 3) := by decide +kernel
theorem dX2_findEnds_167 : decode cX2_findEnds 167 = .ok (.aload_n 0, 1) := by decide +kernel
theorem dX2_findEnds_168 : decode cX2_findEnds 168 = .ok (.getfield 15, 3) := by decide +kernel
theorem dX2_findEnds_171 : decode cX2_findEnds 171 = .ok (.iload_n 2, 1) := by decide +kernel
theorem dX2_findEnds_172 : decode cX2_findEnds 172 = .ok (.aload_n 0, 1) := by decide +kernel
theorem dX2_findEnds_173 : decode cX2_findEnds 173 = .ok (.getfield 15, 3) := by decide +kernel
theorem dX2_findEnds_176 : decode cX2_findEnds 176 = .ok (.iload_n 3, 1) := by decide +kernel
theorem dX2_findEnds_177 : decode cX2_findEnds 177 = .ok (.invokestatic 78, 3) := by decide +kernel
theorem dX2_findEnds_180 : decode cX2_findEnds 180 = .ok (.goto 38, 3) := by decide +kernel
theorem dX2_findEnds_183 : decode cX2_findEnds 183 = .ok (.aload_n 0, 1) := by decide +kernel
theorem dX2_findEnds_184 : decode cX2_findEnds 184 = .ok (.iload_n 3, 1) := by decide +kernel
theorem dX2_findEnds_185 : decode cX2_findEnds 185 = .ok (.iload_n 3, 1) := by decide +kernel
theorem dX2_findEnds_186 : decode cX2_findEnds 186 = .ok (.invokevirtual 107, 3) := by decide +kernel
theorem dX2_findEnds_189 : decode cX2_findEnds 189 = .ok (.aload_n 0, 1) := by decide +kernel
theorem dX2_findEnds_190 : decode cX2_findEnds 190 = .ok (.getfield 11, 3) := by decide +kernel
theorem dX2_findEnds_193 : decode cX2_findEnds 193 = .ok (.iload_n 2, 1) := by decide +kernel
theorem dX2_findEnds_194 : decode cX2_findEnds 194 = .ok (.aload_n 0, 1) := by decide +kernel
theorem dX2_findEnds_195 : decode cX2_findEnds 195 = .ok (.getfield 11, 3) := by decide +kernel
theorem dX2_findEnds_198 : decode cX2_findEnds 198 = .ok (.iload_n 3, 1) := by decide +kernel
theorem dX2_findEnds_199 : decode cX2_findEnds 199 = .ok (.invokestatic 78, 3) := by decide +kernel
theorem dX2_findEnds_202 : decode cX2_findEnds 202 = .ok (.aload_n 0, 1) := by decide +kernel
theorem dX2_findEnds_203 : decode cX2_findEnds 203 = .ok (.getfield 15, 3) := by decide +kernel
theorem dX2_findEnds_206 : decode cX2_findEnds 206 = .ok (.iload_n 2, 1) := by decide +kernel
theorem dX2_findEnds_207 : decode cX2_findEnds 207 = .ok (.aload_n 0, 1) := by decide +kernel
theorem dX2_findEnds_208 : decode cX2_findEnds 208 = .ok (.getfield 15, 3) := by decide +kernel
theorem dX2_findEnds_211 : decode cX2_findEnds 211 = .ok (.iload_n 3, 1) := by decide +kernel
theorem dX2_findEnds_212 : decode cX2_findEnds 212 = .ok (.invokestatic 78, 3) := by decide +kernel
theorem dX2_findEnds_215 : decode cX2_findEnds 215 = .ok (.goto 3, 3) := by decide +kernel
theorem dX2_findEnds_218 : decode cX2_findEnds 218 = .ok (.return_, 1) := by decide +kernel
set_option maxRecDepth 20000 in
theorem ggX2_addSpot_X2_insert : GoodIn wsX2_addSpot wsX2_insert := goodIn_r _ [8, 9, 10, 7, 11] (by decide +kernel) (by decide +kernel)
set_option maxRecDepth 20000 in
theorem gX2_addSpot_X2_insert : GoodIn wsX2_addSpot (va_wsS RX2 114 yX2_insert wsX2_insert) := goodIn_app (goodIn_of _ (by decide +kernel)) ggX2_addSpot_X2_insert
theorem dX2_addSpot_0 : decode cX2_addSpot 0 = .ok (.aload_n 0, 1) := by decide +kernel
theorem dX2_addSpot_1 : decode cX2_addSpot 1 = .ok (.getfield 82, 3) := by decide +kernel
theorem dX2_addSpot_4 : decode cX2_addSpot 4 = .ok (.ifCond .lt 12, 3) := by decide +kernel
theorem dX2_addSpot_7 : decode cX2_addSpot 7 = .ok (.aload_n 0, 1) := by decide +kernel
theorem dX2_addSpot_8 : decode cX2_addSpot 8 = .ok (.getfield 82, 3) := by decide +kernel
theorem dX2_addSpot_11 : decode cX2_addSpot 11 = .ok (.bipush 80, 2) := by decide +kernel
theorem dX2_addSpot_13 : decode cX2_addSpot 13 = .ok (.if_icmp .lt 4, 3) := by decide +kernel
theorem dX2_addSpot_16 : decode cX2_addSpot 16 = .ok (.return_, 1) := by decide +kernel
theorem dX2_addSpot_17 : decode cX2_addSpot 17 = .ok (.aload_n 0, 1) := by decide +kernel
theorem dX2_addSpot_18 : decode cX2_addSpot 18 = .ok (.getfield 11, 3) := by decide +kernel
theorem dX2_addSpot_21 : decode cX2_addSpot 21 = .ok (.iload_n 1, 1) := by decide +kernel
theorem dX2_addSpot_22 : decode cX2_addSpot 22 = .ok (.aload_n 0, 1) := by decide +kernel
theorem dX2_addSpot_23 : decode cX2_addSpot 23 = .ok (.getfield 82, 3) := by decide +kernel
theorem dX2_addSpot_26 : decode cX2_addSpot 26 = .ok (.invokestatic 114, 3) := by decide +kernel
theorem dX2_addSpot_29 : decode cX2_addSpot 29 = .ok (.aload_n 0, 1) := by decide +kernel
theorem dX2_addSpot_30 : decode cX2_addSpot 30 = .ok (.getfield 15, 3) := by decide +kernel
theorem dX2_addSpot_33 : decode cX2_addSpot 33 = .ok (.iload_n 1, 1) := by decide +kernel
theorem dX2_addSpot_34 : decode cX2_addSpot 34 = .ok (.aload_n 0, 1) := by decide +kernel
theorem dX2_addSpot_35 : decode cX2_addSpot 35 = .ok (.getfield 82, 3) := by decide +kernel
theorem dX2_addSpot_38 : decode cX2_addSpot 38 = .ok (.invokestatic 114, 3) := by decide +kernel
theorem dX2_addSpot_41 : decode cX2_addSpot 41 = .ok (.aload_n 0, 1) := by decide +kernel
theorem dX2_addSpot_42 : decode cX2_addSpot 42 = .ok (.getfield 21, 3) := by decide +kernel
theorem dX2_addSpot_45 : decode cX2_addSpot 45 = .ok (.iload_n 2, 1) := by decide +kernel
theorem dX2_addSpot_46 : decode cX2_addSpot 46 = .ok (.aload_n 0, 1) := by decide +kernel
theorem dX2_addSpot_47 : decode cX2_addSpot 47 = .ok (.getfield 82, 3) := by decide +kernel
theorem dX2_addSpot_50 : decode cX2_addSpot 50 = .ok (.invokestatic 114, 3) := by decide +kernel
theorem dX2_addSpot_53 : decode cX2_addSpot 53 = .ok (.aload_n 0, 1) := by decide +kernel
theorem dX2_addSpot_54 : decode cX2_addSpot 54 = .ok (.dup, 1) := by decide +kernel
theorem dX2_addSpot_55 : decode cX2_addSpot 55 = .ok (.getfield 82, 3) := by decide +kernel
theorem dX2_addSpot_58 : decode cX2_addSpot 58 = .ok (.iconst 1, 1) := by decide +kernel
theorem dX2_addSpot_59 : decode cX2_addSpot 59 = .ok (.iadd, 1) := by decide +kernel
theorem dX2_addSpot_60 : decode cX2_addSpot 60 = .ok (.putfield 82, 3) := by decide +kernel
theorem dX2_addSpot_63 : decode cX2_addSpot 63 = .ok (.return_, 1) := by decide +kernel
set_option maxRecDepth 20000 in
theorem ggX2_chain_X2_contains : GoodIn wsX2_chain wsX2_contains := goodIn_r _ [8, 9, 10, 7, 11] (by decide +kernel) (by decide +kernel)
set_option maxRecDepth 20000 in
theorem gX2_chain_X2_contains : GoodIn wsX2_chain (va_wsS RX2 85 yX2_contains wsX2_contains) := goodIn_app (goodIn_of _ (by decide +kernel)) ggX2_chain_X2_contains
set_option maxRecDepth 20000 in
theorem ggX2_chain_X2_include : GoodIn wsX2_chain wsX2_include := goodIn_r _ [14, 9, 10, 7, 11] (by decide +kernel) (by decide +kernel)
set_option maxRecDepth 20000 in
theorem gX2_chain_X2_include : GoodIn wsX2_chain (va_wsS RX2 78 yX2_include wsX2_include) := goodIn_app (goodIn_of _ (by decide +kernel)) ggX2_chain_X2_include
theorem dX2_chain_0 : decode cX2_chain 0 = .ok (.iconst 0, 1) := by decide +kernel
theorem dX2_chain_1 : decode cX2_chain 1 = .ok (.istore_n 3, 1) := by decide +kernel
theorem dX2_chain_2 : decode cX2_chain 2 = .ok (.iload_n 3, 1) := by decide +kernel
theorem dX2_chain_3 : decode cX2_chain 3 = .ok (.aload_n 0, 1) := by decide +kernel
theorem dX2_chain_4 : decode cX2_chain 4 = .ok (.getfield 82, 3) := by decide +kernel
theorem dX2_chain_7 : decode cX2_chain 7 = .ok (.if_icmp .ge 34, 3) := by decide +kernel
theorem dX2_chain_10 : decode cX2_chain 10 = .ok (.aload_n 0, 1) := by decide +kernel
theorem dX2_chain_11 : decode cX2_chain 11 = .ok (.getfield 15, 3) := by decide +kernel
theorem dX2_chain_14 : decode cX2_chain 14 = .ok (.iload_n 1, 1) := by decide +kernel
theorem dX2_chain_15 : decode cX2_chain 15 = .ok (.iload_n 3, 1) := by decide +kernel
theorem dX2_chain_16 : decode cX2_chain 16 = .ok (.invokestatic 85, 3) := by decide +kernel
theorem dX2_chain_19 : decode cX2_chain 19 = .ok (.ifCond .eq 16, 3) := by decide +kernel
theorem dX2_chain_22 : decode cX2_chain 22 = .ok (.aload_n 0, 1) := by decide +kernel
theorem dX2_chain_23 : decode cX2_chain 23 = .ok (.getfield 18, 3) := by decide +kernel
theorem dX2_chain_26 : decode cX2_chain 26 = .ok (.iload_n 3, 1) := by decide +kernel
theorem dX2_chain_27 : decode cX2_chain 27 = .ok (.aload_n 0, 1) := by decide +kernel
theorem dX2_chain_28 : decode cX2_chain 28 = .ok (.getfield 11, 3) := by decide +kernel
theorem dX2_chain_31 : decode cX2_chain 31 = .ok (.iload_n 2, 1) := by decide +kernel
theorem dX2_chain_32 : decode cX2_chain 32 = .ok (.invokestatic 78, 3) := by decide +kernel
theorem dX2_chain_35 : decode cX2_chain 35 = .ok (.iinc 3 1, 3) := by decide +kernel
theorem dX2_chain_38 : decode cX2_chain 38 = .ok (.goto (-36), 3) := by decide +kernel
theorem dX2_chain_41 : decode cX2_chain 41 = .ok (.return_, 1) := by decide +kernel
theorem dX2_hasRow_0 : decode cX2_hasRow 0 = .ok (.iload_n 1, 1) := by decide +kernel
theorem dX2_hasRow_1 : decode cX2_hasRow 1 = .ok (.ifCond .lt 15, 3) := by decide +kernel
theorem dX2_hasRow_4 : decode cX2_hasRow 4 = .ok (.iload_n 1, 1) := by decide +kernel
theorem dX2_hasRow_5 : decode cX2_hasRow 5 = .ok (.aload_n 0, 1) := by decide +kernel
theorem dX2_hasRow_6 : decode cX2_hasRow 6 = .ok (.arraylength, 1) := by decide +kernel
theorem dX2_hasRow_7 : decode cX2_hasRow 7 = .ok (.iconst 2, 1) := by decide +kernel
theorem dX2_hasRow_8 : decode cX2_hasRow 8 = .ok (.idiv, 1) := by decide +kernel
theorem dX2_hasRow_9 : decode cX2_hasRow 9 = .ok (.if_icmp .ge 7, 3) := by decide +kernel
theorem dX2_hasRow_12 : decode cX2_hasRow 12 = .ok (.iconst 1, 1) := by decide +kernel
theorem dX2_hasRow_13 : decode cX2_hasRow 13 = .ok (.goto 4, 3) := by decide +kernel
theorem dX2_hasRow_16 : decode cX2_hasRow 16 = .ok (.iconst 0, 1) := by decide +kernel
theorem dX2_hasRow_17 : decode cX2_hasRow 17 = .ok (.ireturn, 1) := by decide +kernel
set_option maxRecDepth 20000 in
theorem ggX2_insert_X2_hasRow : GoodIn wsX2_insert wsX2_hasRow := goodIn_r _ [4] (by decide +kernel) (by decide +kernel)
set_option maxRecDepth 20000 in
theorem gX2_insert_X2_hasRow : GoodIn wsX2_insert (va_wsS RX2 118 yX2_hasRow wsX2_hasRow) := goodIn_app (goodIn_of _ (by decide +kernel)) ggX2_insert_X2_hasRow
theorem dX2_insert_0 : decode cX2_insert 0 = .ok (.aload_n 0, 1) := by decide +kernel
theorem dX2_insert_1 : decode cX2_insert 1 = .ok (.iload_n 1, 1) := by decide +kernel
theorem dX2_insert_2 : decode cX2_insert 2 = .ok (.invokestatic 118, 3) := by decide +kernel
theorem dX2_insert_5 : decode cX2_insert 5 = .ok (.ifCond .eq 33, 3) := by decide +kernel
theorem dX2_insert_8 : decode cX2_insert 8 = .ok (.iload_n 2, 1) := by decide +kernel
theorem dX2_insert_9 : decode cX2_insert 9 = .ok (.ifCond .lt 29, 3) := by decide +kernel
theorem dX2_insert_12 : decode cX2_insert 12 = .ok (.iload_n 2, 1) := by decide +kernel
theorem dX2_insert_13 : decode cX2_insert 13 = .ok (.sipush 128, 3) := by decide +kernel
theorem dX2_insert_16 : decode cX2_insert 16 = .ok (.if_icmp .ge 22, 3) := by decide +kernel
theorem dX2_insert_19 : decode cX2_insert 19 = .ok (.aload_n 0, 1) := by decide +kernel
theorem dX2_insert_20 : decode cX2_insert 20 = .ok (.iconst 2, 1) := by decide +kernel
theorem dX2_insert_21 : decode cX2_insert 21 = .ok (.iload_n 1, 1) := by decide +kernel
theorem dX2_insert_22 : decode cX2_insert 22 = .ok (.imul, 1) := by decide +kernel
theorem dX2_insert_23 : decode cX2_insert 23 = .ok (.iload_n 2, 1) := by decide +kernel
theorem dX2_insert_24 : decode cX2_insert 24 = .ok (.bipush 64, 2) := by decide +kernel
theorem dX2_insert_26 : decode cX2_insert 26 = .ok (.idiv, 1) := by decide +kernel
theorem dX2_insert_27 : decode cX2_insert 27 = .ok (.iadd, 1) := by decide +kernel
theorem dX2_insert_28 : decode cX2_insert 28 = .ok (.dup2, 1) := by decide +kernel
theorem dX2_insert_29 : decode cX2_insert 29 = .ok (.laload, 1) := by decide +kernel
theorem dX2_insert_30 : decode cX2_insert 30 = .ok (.lconst 1, 1) := by decide +kernel
theorem dX2_insert_31 : decode cX2_insert 31 = .ok (.iload_n 2, 1) := by decide +kernel
theorem dX2_insert_32 : decode cX2_insert 32 = .ok (.bipush 64, 2) := by decide +kernel
theorem dX2_insert_34 : decode cX2_insert 34 = .ok (.irem, 1) := by decide +kernel
theorem dX2_insert_35 : decode cX2_insert 35 = .ok (.lshl, 1) := by decide +kernel
theorem dX2_insert_36 : decode cX2_insert 36 = .ok (.lor, 1) := by decide +kernel
theorem dX2_insert_37 : decode cX2_insert 37 = .ok (.lastore, 1) := by decide +kernel
theorem dX2_insert_38 : decode cX2_insert 38 = .ok (.return_, 1) := by decide +kernel
set_option maxRecDepth 20000 in
theorem ggX2_contains_X2_hasRow : GoodIn wsX2_contains wsX2_hasRow := goodIn_r _ [4] (by decide +kernel) (by decide +kernel)
set_option maxRecDepth 20000 in
theorem gX2_contains_X2_hasRow : GoodIn wsX2_contains (va_wsS RX2 118 yX2_hasRow wsX2_hasRow) := goodIn_app (goodIn_of _ (by decide +kernel)) ggX2_contains_X2_hasRow
theorem dX2_contains_0 : decode cX2_contains 0 = .ok (.aload_n 0, 1) := by decide +kernel
theorem dX2_contains_1 : decode cX2_contains 1 = .ok (.iload_n 1, 1) := by decide +kernel
theorem dX2_contains_2 : decode cX2_contains 2 = .ok (.invokestatic 118, 3) := by decide +kernel
theorem dX2_contains_5 : decode cX2_contains 5 = .ok (.ifCond .eq 40, 3) := by decide +kernel
theorem dX2_contains_8 : decode cX2_contains 8 = .ok (.iload_n 2, 1) := by decide +kernel
theorem dX2_contains_9 : decode cX2_contains 9 = .ok (.ifCond .lt 36, 3) := by decide +kernel
theorem dX2_contains_12 : decode cX2_contains 12 = .ok (.iload_n 2, 1) := by decide +kernel
theorem dX2_contains_13 : decode cX2_contains 13 = .ok (.sipush 128, 3) := by decide +kernel
theorem dX2_contains_16 : decode cX2_contains 16 = .ok (.if_icmp .ge 29, 3) := by decide +kernel
theorem dX2_contains_19 : decode cX2_contains 19 = .ok (.aload_n 0, 1) := by decide +kernel
theorem dX2_contains_20 : decode cX2_contains 20 = .ok (.iconst 2, 1) := by decide +kernel
theorem dX2_contains_21 : decode cX2_contains 21 = .ok (.iload_n 1, 1) := by decide +kernel
theorem dX2_contains_22 : decode cX2_contains 22 = .ok (.imul, 1) := by decide +kernel
theorem dX2_contains_23 : decode cX2_contains 23 = .ok (.iload_n 2, 1) := by decide +kernel
theorem dX2_contains_24 : decode cX2_contains 24 = .ok (.bipush 64, 2) := by decide +kernel
theorem dX2_contains_26 : decode cX2_contains 26 = .ok (.idiv, 1) := by decide +kernel
theorem dX2_contains_27 : decode cX2_contains 27 = .ok (.iadd, 1) := by decide +kernel
theorem dX2_contains_28 : decode cX2_contains 28 = .ok (.laload, 1) := by decide +kernel
theorem dX2_contains_29 : decode cX2_contains 29 = .ok (.iload_n 2, 1) := by decide +kernel
theorem dX2_contains_30 : decode cX2_contains 30 = .ok (.bipush 64, 2) := by decide +kernel
theorem dX2_contains_32 : decode cX2_contains 32 = .ok (.irem, 1) := by decide +kernel
theorem dX2_contains_33 : decode cX2_contains 33 = .ok (.lushr, 1) := by decide +kernel
theorem dX2_contains_34 : decode cX2_contains 34 = .ok (.lconst 1, 1) := by decide +kernel
theorem dX2_contains_35 : decode cX2_contains 35 = .ok (.land, 1) := by decide +kernel
theorem dX2_contains_36 : decode cX2_contains 36 = .ok (.lconst 0, 1) := by decide +kernel
theorem dX2_contains_37 : decode cX2_contains 37 = .ok (.lcmp, 1) := by decide +kernel
theorem dX2_contains_38 : decode cX2_contains 38 = .ok (.ifCond .eq 7, 3) := by decide +kernel
theorem dX2_contains_41 : decode cX2_contains 41 = .ok (.iconst 1, 1) := by decide +kernel
theorem dX2_contains_42 : decode cX2_contains 42 = .ok (.goto 4, 3) := by decide +kernel
theorem dX2_contains_45 : decode cX2_contains 45 = .ok (.iconst 0, 1) := by decide +kernel
theorem dX2_contains_46 : decode cX2_contains 46 = .ok (.ireturn, 1) := by decide +kernel
set_option maxRecDepth 20000 in
theorem ggX2_include_X2_hasRow : GoodIn wsX2_include wsX2_hasRow := goodIn_r _ [4] (by decide +kernel) (by decide +kernel)
set_option maxRecDepth 20000 in
theorem gX2_include_X2_hasRow : GoodIn wsX2_include (va_wsS RX2 118 yX2_hasRow wsX2_hasRow) := goodIn_app (goodIn_of _ (by decide +kernel)) ggX2_include_X2_hasRow
theorem dX2_include_0 : decode cX2_include 0 = .ok (.aload_n 0, 1) := by decide +kernel
theorem dX2_include_1 : decode cX2_include 1 = .ok (.iload_n 1, 1) := by decide +kernel
theorem dX2_include_2 : decode cX2_include 2 = .ok (.invokestatic 118, 3) := by decide +kernel
theorem dX2_include_5 : decode cX2_include 5 = .ok (.ifCond .eq 45, 3) := by decide +kernel
theorem dX2_include_8 : decode cX2_include 8 = .ok (.aload_n 2, 1) := by decide +kernel
theorem dX2_include_9 : decode cX2_include 9 = .ok (.iload_n 3, 1) := by decide +kernel
theorem dX2_include_10 : decode cX2_include 10 = .ok (.invokestatic 118, 3) := by decide +kernel
theorem dX2_include_13 : decode cX2_include 13 = .ok (.ifCond .eq 37, 3) := by decide +kernel
theorem dX2_include_16 : decode cX2_include 16 = .ok (.iconst 0, 1) := by decide +kernel
theorem dX2_include_17 : decode cX2_include 17 = .ok (.istore 4, 2) := by decide +kernel
theorem dX2_include_19 : decode cX2_include 19 = .ok (.iload 4, 2) := by decide +kernel
theorem dX2_include_21 : decode cX2_include 21 = .ok (.iconst 2, 1) := by decide +kernel
theorem dX2_include_22 : decode cX2_include 22 = .ok (.if_icmp .ge 28, 3) := by decide +kernel
theorem dX2_include_25 : decode cX2_include 25 = .ok (.aload_n 0, 1) := by decide +kernel
theorem dX2_include_26 : decode cX2_include 26 = .ok (.iconst 2, 1) := by decide +kernel
theorem dX2_include_27 : decode cX2_include 27 = .ok (.iload_n 1, 1) := by decide +kernel
theorem dX2_include_28 : decode cX2_include 28 = .ok (.imul, 1) := by decide +kernel
theorem dX2_include_29 : decode cX2_include 29 = .ok (.iload 4, 2) := by decide +kernel
theorem dX2_include_31 : decode cX2_include 31 = .ok (.iadd, 1) := by decide +kernel
theorem dX2_include_32 : decode cX2_include 32 = .ok (.dup2, 1) := by decide +kernel
theorem dX2_include_33 : decode cX2_include 33 = .ok (.laload, 1) := by decide +kernel
theorem dX2_include_34 : decode cX2_include 34 = .ok (.aload_n 2, 1) := by decide +kernel
theorem dX2_include_35 : decode cX2_include 35 = .ok (.iconst 2, 1) := by decide +kernel
theorem dX2_include_36 : decode cX2_include 36 = .ok (.iload_n 3, 1) := by decide +kernel
theorem dX2_include_37 : decode cX2_include 37 = .ok (.imul, 1) := by decide +kernel
theorem dX2_include_38 : decode cX2_include 38 = .ok (.iload 4, 2) := by decide +kernel
theorem dX2_include_40 : decode cX2_include 40 = .ok (.iadd, 1) := by decide +kernel
theorem dX2_include_41 : decode cX2_include 41 = .ok (.laload, 1) := by decide +kernel
theorem dX2_include_42 : decode cX2_include 42 = .ok (.lor, 1) := by decide +kernel
theorem dX2_include_43 : decode cX2_include 43 = .ok (.lastore, 1) := by decide +kernel
theorem dX2_include_44 : decode cX2_include 44 = .ok (.iinc 4 1, 3) := by decide +kernel
theorem dX2_include_47 : decode cX2_include 47 = .ok (.goto (-28), 3) := by decide +kernel
theorem dX2_include_50 : decode cX2_include 50 = .ok (.return_, 1) := by decide +kernel
set_option maxRecDepth 20000 in
theorem ggX2_shares_X2_hasRow : GoodIn wsX2_shares wsX2_hasRow := goodIn_r _ [4] (by decide +kernel) (by decide +kernel)
set_option maxRecDepth 20000 in
theorem gX2_shares_X2_hasRow : GoodIn wsX2_shares (va_wsS RX2 118 yX2_hasRow wsX2_hasRow) := goodIn_app (goodIn_of _ (by decide +kernel)) ggX2_shares_X2_hasRow
theorem dX2_shares_0 : decode cX2_shares 0 = .ok (.aload_n 0, 1) := by decide +kernel
theorem dX2_shares_1 : decode cX2_shares 1 = .ok (.iload_n 1, 1) := by decide +kernel
theorem dX2_shares_2 : decode cX2_shares 2 = .ok (.invokestatic 118, 3) := by decide +kernel
theorem dX2_shares_5 : decode cX2_shares 5 = .ok (.ifCond .eq 11, 3) := by decide +kernel
theorem dX2_shares_8 : decode cX2_shares 8 = .ok (.aload_n 2, 1) := by decide +kernel
theorem dX2_shares_9 : decode cX2_shares 9 = .ok (.iload_n 3, 1) := by decide +kernel
theorem dX2_shares_10 : decode cX2_shares 10 = .ok (.invokestatic 118, 3) := by decide +kernel
theorem dX2_shares_13 : decode cX2_shares 13 = .ok (.ifCond .ne 5, 3) := by decide +kernel
theorem dX2_shares_16 : decode cX2_shares 16 = .ok (.iconst 0, 1) := by decide +kernel
theorem dX2_shares_17 : decode cX2_shares 17 = .ok (.ireturn, 1) := by decide +kernel
theorem dX2_shares_18 : decode cX2_shares 18 = .ok (.iconst 0, 1) := by decide +kernel
theorem dX2_shares_19 : decode cX2_shares 19 = .ok (.istore 4, 2) := by decide +kernel
theorem dX2_shares_21 : decode cX2_shares 21 = .ok (.iconst 0, 1) := by decide +kernel
theorem dX2_shares_22 : decode cX2_shares 22 = .ok (.istore 5, 2) := by decide +kernel
theorem dX2_shares_24 : decode cX2_shares 24 = .ok (.iload 5, 2) := by decide +kernel
theorem dX2_shares_26 : decode cX2_shares 26 = .ok (.iconst 2, 1) := by decide +kernel
theorem dX2_shares_27 : decode cX2_shares 27 = .ok (.if_icmp .ge 41, 3) := by decide +kernel
theorem dX2_shares_30 : decode cX2_shares 30 = .ok (.iload 4, 2) := by decide +kernel
theorem dX2_shares_32 : decode cX2_shares 32 = .ok (.aload_n 0, 1) := by decide +kernel
theorem dX2_shares_33 : decode cX2_shares 33 = .ok (.iconst 2, 1) := by decide +kernel
theorem dX2_shares_34 : decode cX2_shares 34 = .ok (.iload_n 1, 1) := by decide +kernel
theorem dX2_shares_35 : decode cX2_shares 35 = .ok (.imul, 1) := by decide +kernel
theorem dX2_shares_36 : decode cX2_shares 36 = .ok (.iload 5, 2) := by decide +kernel
theorem dX2_shares_38 : decode cX2_shares 38 = .ok (.iadd, 1) := by decide +kernel
theorem dX2_shares_39 : decode cX2_shares 39 = .ok (.laload, 1) := by decide +kernel
theorem dX2_shares_40 : decode cX2_shares 40 = .ok (.aload_n 2, 1) := by decide +kernel
theorem dX2_shares_41 : decode cX2_shares 41 = .ok (.iconst 2, 1) := by decide +kernel
theorem dX2_shares_42 : decode cX2_shares 42 = .ok (.iload_n 3, 1) := by decide +kernel
theorem dX2_shares_43 : decode cX2_shares 43 = .ok (.imul, 1) := by decide +kernel
theorem dX2_shares_44 : decode cX2_shares 44 = .ok (.iload 5, 2) := by decide +kernel
theorem dX2_shares_46 : decode cX2_shares 46 = .ok (.iadd, 1) := by decide +kernel
theorem dX2_shares_47 : decode cX2_shares 47 = .ok (.laload, 1) := by decide +kernel
theorem dX2_shares_48 : decode cX2_shares 48 = .ok (.land, 1) := by decide +kernel
theorem dX2_shares_49 : decode cX2_shares 49 = .ok (.lconst 0, 1) := by decide +kernel
theorem dX2_shares_50 : decode cX2_shares 50 = .ok (.lcmp, 1) := by decide +kernel
theorem dX2_shares_51 : decode cX2_shares 51 = .ok (.ifCond .eq 7, 3) := by decide +kernel
theorem dX2_shares_54 : decode cX2_shares 54 = .ok (.iconst 1, 1) := by decide +kernel
theorem dX2_shares_55 : decode cX2_shares 55 = .ok (.goto 4, 3) := by decide +kernel
theorem dX2_shares_58 : decode cX2_shares 58 = .ok (.iconst 0, 1) := by decide +kernel
theorem dX2_shares_59 : decode cX2_shares 59 = .ok (.ior, 1) := by decide +kernel
theorem dX2_shares_60 : decode cX2_shares 60 = .ok (.istore 4, 2) := by decide +kernel
theorem dX2_shares_62 : decode cX2_shares 62 = .ok (.iinc 5 1, 3) := by decide +kernel
theorem dX2_shares_65 : decode cX2_shares 65 = .ok (.goto (-41), 3) := by decide +kernel
theorem dX2_shares_68 : decode cX2_shares 68 = .ok (.iload 4, 2) := by decide +kernel
theorem dX2_shares_70 : decode cX2_shares 70 = .ok (.ireturn, 1) := by decide +kernel
theorem dX3_init_0 : decode cX3_init 0 = .ok (.aload_n 0, 1) := by decide +kernel
theorem dX3_init_1 : decode cX3_init 1 = .ok (.invokespecial 3, 3) := by decide +kernel
theorem dX3_init_4 : decode cX3_init 4 = .ok (.aload_n 0, 1) := by decide +kernel
theorem dX3_init_5 : decode cX3_init 5 = .ok (.bipush 32, 2) := by decide +kernel
theorem dX3_init_7 : decode cX3_init 7 = .ok (.newarray .int, 2) := by decide +kernel
theorem dX3_init_9 : decode cX3_init 9 = .ok (.putfield 9, 3) := by decide +kernel
theorem dX3_init_12 : decode cX3_init 12 = .ok (.aload_n 0, 1) := by decide +kernel
theorem dX3_init_13 : decode cX3_init 13 = .ok (.bipush 32, 2) := by decide +kernel
theorem dX3_init_15 : decode cX3_init 15 = .ok (.newarray .int, 2) := by decide +kernel
theorem dX3_init_17 : decode cX3_init 17 = .ok (.putfield 15, 3) := by decide +kernel
theorem dX3_init_20 : decode cX3_init 20 = .ok (.aload_n 0, 1) := by decide +kernel
theorem dX3_init_21 : decode cX3_init 21 = .ok (.bipush 32, 2) := by decide +kernel
theorem dX3_init_23 : decode cX3_init 23 = .ok (.newarray .int, 2) := by decide +kernel
theorem dX3_init_25 : decode cX3_init 25 = .ok (.putfield 18, 3) := by decide +kernel
theorem dX3_init_28 : decode cX3_init 28 = .ok (.aload_n 0, 1) := by decide +kernel
theorem dX3_init_29 : decode cX3_init 29 = .ok (.bipush 6, 2) := by decide +kernel
theorem dX3_init_31 : decode cX3_init 31 = .ok (.newarray .int, 2) := by decide +kernel
theorem dX3_init_33 : decode cX3_init 33 = .ok (.putfield 21, 3) := by decide +kernel
theorem dX3_init_36 : decode cX3_init 36 = .ok (.return_, 1) := by decide +kernel
set_option maxRecDepth 20000 in
theorem ggX3_lay_J7_fill_53178 : GoodIn wsX3_lay wsJ7_fill_53178 := goodIn_r _ [8] (by decide +kernel) (by decide +kernel)
set_option maxRecDepth 20000 in
theorem gX3_lay_J7_fill_53178 : GoodIn wsX3_lay (va_wsS RX3 39 yJ7_fill_53178 wsJ7_fill_53178) := goodIn_app (goodIn_of _ (by decide +kernel)) ggX3_lay_J7_fill_53178
set_option maxRecDepth 20000 in
theorem ggX3_lay_X9_at : GoodIn wsX3_lay wsX9_at := goodIn_r _ [13, 14, 15, 48, 49] (by decide +kernel) (by decide +kernel)
set_option maxRecDepth 20000 in
theorem gX3_lay_X9_at : GoodIn wsX3_lay (wsV RX3 48 RX9 yX9_at wsX9_at) := goodIn_app (goodIn_of _ (by decide +kernel)) ggX3_lay_X9_at
set_option maxRecDepth 20000 in
theorem ggX3_lay_X3_layLetter : GoodIn wsX3_lay wsX3_layLetter := goodIn_r _ [20, 2, 21, 22, 23, 24, 25, 26, 27, 4, 28, 29, 30, 31, 32, 33, 34, 35, 36, 37, 38, 41, 42, 43, 44, 45, 46, 47, 39, 40] (by decide +kernel) (by decide +kernel)
set_option maxRecDepth 20000 in
theorem gX3_lay_X3_layLetter : GoodIn wsX3_lay (wsV RX3 52 RX3 yX3_layLetter wsX3_layLetter) := goodIn_app (goodIn_of _ (by decide +kernel)) ggX3_lay_X3_layLetter
theorem dX3_lay_0 : decode cX3_lay 0 = .ok (.aload_n 0, 1) := by decide +kernel
theorem dX3_lay_1 : decode cX3_lay 1 = .ok (.aload_n 1, 1) := by decide +kernel
theorem dX3_lay_2 : decode cX3_lay 2 = .ok (.getfield 24, 3) := by decide +kernel
theorem dX3_lay_5 : decode cX3_lay 5 = .ok (.putfield 30, 3) := by decide +kernel
theorem dX3_lay_8 : decode cX3_lay 8 = .ok (.aload_n 0, 1) := by decide +kernel
theorem dX3_lay_9 : decode cX3_lay 9 = .ok (.iconst 0, 1) := by decide +kernel
theorem dX3_lay_10 : decode cX3_lay 10 = .ok (.putfield 33, 3) := by decide +kernel
theorem dX3_lay_13 : decode cX3_lay 13 = .ok (.aload_n 0, 1) := by decide +kernel
theorem dX3_lay_14 : decode cX3_lay 14 = .ok (.iconst 0, 1) := by decide +kernel
theorem dX3_lay_15 : decode cX3_lay 15 = .ok (.putfield 36, 3) := by decide +kernel
theorem dX3_lay_18 : decode cX3_lay 18 = .ok (.aload_n 0, 1) := by decide +kernel
theorem dX3_lay_19 : decode cX3_lay 19 = .ok (.getfield 21, 3) := by decide +kernel
theorem dX3_lay_22 : decode cX3_lay 22 = .ok (.iconst 0, 1) := by decide +kernel
theorem dX3_lay_23 : decode cX3_lay 23 = .ok (.invokestatic 39, 3) := by decide +kernel
theorem dX3_lay_26 : decode cX3_lay 26 = .ok (.iconst 0, 1) := by decide +kernel
theorem dX3_lay_27 : decode cX3_lay 27 = .ok (.istore_n 3, 1) := by decide +kernel
theorem dX3_lay_28 : decode cX3_lay 28 = .ok (.iload_n 3, 1) := by decide +kernel
theorem dX3_lay_29 : decode cX3_lay 29 = .ok (.aload_n 2, 1) := by decide +kernel
theorem dX3_lay_30 : decode cX3_lay 30 = .ok (.getfield 45, 3) := by decide +kernel
theorem dX3_lay_33 : decode cX3_lay 33 = .ok (.if_icmp .ge 25, 3) := by decide +kernel
theorem dX3_lay_36 : decode cX3_lay 36 = .ok (.iload_n 3, 1) := by decide +kernel
theorem dX3_lay_37 : decode cX3_lay 37 = .ok (.bipush 32, 2) := by decide +kernel
theorem dX3_lay_39 : decode cX3_lay 39 = .ok (.if_icmp .ge 19, 3) := by decide +kernel
theorem dX3_lay_42 : decode cX3_lay 42 = .ok (.aload_n 0, 1) := by decide +kernel
theorem dX3_lay_43 : decode cX3_lay 43 = .ok (.aload_n 1, 1) := by decide +kernel
theorem dX3_lay_44 : decode cX3_lay 44 = .ok (.aload_n 2, 1) := by decide +kernel
theorem dX3_lay_45 : decode cX3_lay 45 = .ok (.iload_n 3, 1) := by decide +kernel
theorem dX3_lay_46 : decode cX3_lay 46 = .ok (.invokevirtual 48, 3) := by decide +kernel
theorem dX3_lay_49 : decode cX3_lay 49 = .ok (.invokevirtual 52, 3) := by decide +kernel
theorem dX3_lay_52 : decode cX3_lay 52 = .ok (.iinc 3 1, 3) := by decide +kernel
theorem dX3_lay_55 : decode cX3_lay 55 = .ok (.goto (-27), 3) := by decide +kernel
theorem dX3_lay_58 : decode cX3_lay 58 = .ok (.return_, 1) := by decide +kernel
set_option maxRecDepth 20000 in
theorem ggX3_layLetter_X0_has : GoodIn wsX3_layLetter wsX0_has := goodIn_r _ [14, 15, 28, 29] (by decide +kernel) (by decide +kernel)
set_option maxRecDepth 20000 in
theorem gX3_layLetter_X0_has : GoodIn wsX3_layLetter (wsV RX3 56 RX0 yX0_has wsX0_has) := goodIn_app (goodIn_of _ (by decide +kernel)) ggX3_layLetter_X0_has
set_option maxRecDepth 20000 in
theorem ggX3_layLetter_X0_freeOf : GoodIn wsX3_layLetter wsX0_freeOf := goodIn_r _ [19, 20, 28, 29] (by decide +kernel) (by decide +kernel)
set_option maxRecDepth 20000 in
theorem gX3_layLetter_X0_freeOf : GoodIn wsX3_layLetter (wsV RX3 60 RX0 yX0_freeOf wsX0_freeOf) := goodIn_app (goodIn_of _ (by decide +kernel)) ggX3_layLetter_X0_freeOf
theorem dX3_layLetter_0 : decode cX3_layLetter 0 = .ok (.aload_n 1, 1) := by decide +kernel
theorem dX3_layLetter_1 : decode cX3_layLetter 1 = .ok (.iload_n 2, 1) := by decide +kernel
theorem dX3_layLetter_2 : decode cX3_layLetter 2 = .ok (.invokevirtual 56, 3) := by decide +kernel
theorem dX3_layLetter_5 : decode cX3_layLetter 5 = .ok (.ifCond .eq 19, 3) := by decide +kernel
theorem dX3_layLetter_8 : decode cX3_layLetter 8 = .ok (.aload_n 0, 1) := by decide +kernel
theorem dX3_layLetter_9 : decode cX3_layLetter 9 = .ok (.getfield 33, 3) := by decide +kernel
theorem dX3_layLetter_12 : decode cX3_layLetter 12 = .ok (.ifCond .lt 12, 3) := by decide +kernel
theorem dX3_layLetter_15 : decode cX3_layLetter 15 = .ok (.aload_n 0, 1) := by decide +kernel
theorem dX3_layLetter_16 : decode cX3_layLetter 16 = .ok (.getfield 33, 3) := by decide +kernel
theorem dX3_layLetter_19 : decode cX3_layLetter 19 = .ok (.bipush 32, 2) := by decide +kernel
theorem dX3_layLetter_21 : decode cX3_layLetter 21 = .ok (.if_icmp .lt 4, 3) := by decide +kernel
theorem dX3_layLetter_24 : decode cX3_layLetter 24 = .ok (.return_, 1) := by decide +kernel
theorem dX3_layLetter_25 : decode cX3_layLetter 25 = .ok (.aload_n 1, 1) := by decide +kernel
theorem dX3_layLetter_26 : decode cX3_layLetter 26 = .ok (.iload_n 2, 1) := by decide +kernel
theorem dX3_layLetter_27 : decode cX3_layLetter 27 = .ok (.invokevirtual 60, 3) := by decide +kernel
theorem dX3_layLetter_30 : decode cX3_layLetter 30 = .ok (.istore_n 3, 1) := by decide +kernel
theorem dX3_layLetter_31 : decode cX3_layLetter 31 = .ok (.iconst 0, 1) := by decide +kernel
theorem dX3_layLetter_32 : decode cX3_layLetter 32 = .ok (.istore 4, 2) := by decide +kernel
theorem dX3_layLetter_34 : decode cX3_layLetter 34 = .ok (.iconst 0, 1) := by decide +kernel
theorem dX3_layLetter_35 : decode cX3_layLetter 35 = .ok (.istore 5, 2) := by decide +kernel
theorem dX3_layLetter_37 : decode cX3_layLetter 37 = .ok (.iconst 0, 1) := by decide +kernel
theorem dX3_layLetter_38 : decode cX3_layLetter 38 = .ok (.istore 6, 2) := by decide +kernel
theorem dX3_layLetter_40 : decode cX3_layLetter 40 = .ok (.iload 6, 2) := by decide +kernel
theorem dX3_layLetter_42 : decode cX3_layLetter 42 = .ok (.aload_n 0, 1) := by decide +kernel
theorem dX3_layLetter_43 : decode cX3_layLetter 43 = .ok (.getfield 33, 3) := by decide +kernel
theorem dX3_layLetter_46 : decode cX3_layLetter 46 = .ok (.if_icmp .ge 55, 3) := by decide +kernel
theorem dX3_layLetter_49 : decode cX3_layLetter 49 = .ok (.iload 6, 2) := by decide +kernel
theorem dX3_layLetter_51 : decode cX3_layLetter 51 = .ok (.bipush 32, 2) := by decide +kernel
theorem dX3_layLetter_53 : decode cX3_layLetter 53 = .ok (.if_icmp .ge 48, 3) := by decide +kernel
theorem dX3_layLetter_56 : decode cX3_layLetter 56 = .ok (.iload_n 3, 1) := by decide +kernel
theorem dX3_layLetter_57 : decode cX3_layLetter 57 = .ok (.aload_n 0, 1) := by decide +kernel
theorem dX3_layLetter_58 : decode cX3_layLetter 58 = .ok (.getfield 9, 3) := by decide +kernel
theorem dX3_layLetter_61 : decode cX3_layLetter 61 = .ok (.iload 6, 2) := by decide +kernel
theorem dX3_layLetter_63 : decode cX3_layLetter 63 = .ok (.iaload, 1) := by decide +kernel
theorem dX3_layLetter_64 : decode cX3_layLetter 64 = .ok (.ishr, 1) := by decide +kernel
theorem dX3_layLetter_65 : decode cX3_layLetter 65 = .ok (.iconst 1, 1) := by decide +kernel
theorem dX3_layLetter_66 : decode cX3_layLetter 66 = .ok (.iand, 1) := by decide +kernel
theorem dX3_layLetter_67 : decode cX3_layLetter 67 = .ok (.ifCond .ne 28, 3) := by decide +kernel
theorem dX3_layLetter_70 : decode cX3_layLetter 70 = .ok (.iload 4, 2) := by decide +kernel
theorem dX3_layLetter_72 : decode cX3_layLetter 72 = .ok (.iconst 1, 1) := by decide +kernel
theorem dX3_layLetter_73 : decode cX3_layLetter 73 = .ok (.iload 6, 2) := by decide +kernel
theorem dX3_layLetter_75 : decode cX3_layLetter 75 = .ok (.ishl, 1) := by decide +kernel
theorem dX3_layLetter_76 : decode cX3_layLetter 76 = .ok (.ior, 1) := by decide +kernel
theorem dX3_layLetter_77 : decode cX3_layLetter 77 = .ok (.istore 4, 2) := by decide +kernel
theorem dX3_layLetter_79 : decode cX3_layLetter 79 = .ok (.iload 5, 2) := by decide +kernel
theorem dX3_layLetter_81 : decode cX3_layLetter 81 = .ok (.aload_n 0, 1) := by decide +kernel
theorem dX3_layLetter_82 : decode cX3_layLetter 82 = .ok (.getfield 15, 3) := by decide +kernel
theorem dX3_layLetter_85 : decode cX3_layLetter 85 = .ok (.iload 6, 2) := by decide +kernel
theorem dX3_layLetter_87 : decode cX3_layLetter 87 = .ok (.iaload, 1) := by decide +kernel
theorem dX3_layLetter_88 : decode cX3_layLetter 88 = .ok (.iconst 1, 1) := by decide +kernel
theorem dX3_layLetter_89 : decode cX3_layLetter 89 = .ok (.iadd, 1) := by decide +kernel
theorem dX3_layLetter_90 : decode cX3_layLetter 90 = .ok (.invokestatic 63, 3) := by decide +kernel
theorem dX3_layLetter_93 : decode cX3_layLetter 93 = .ok (.istore 5, 2) := by decide +kernel
theorem dX3_layLetter_95 : decode cX3_layLetter 95 = .ok (.iinc 6 1, 3) := by decide +kernel
theorem dX3_layLetter_98 : decode cX3_layLetter 98 = .ok (.goto (-58), 3) := by decide +kernel
theorem dX3_layLetter_101 : decode cX3_layLetter 101 = .ok (.aload_n 0, 1) := by decide +kernel
theorem dX3_layLetter_102 : decode cX3_layLetter 102 = .ok (.getfield 9, 3) := by decide +kernel
theorem dX3_layLetter_105 : decode cX3_layLetter 105 = .ok (.aload_n 0, 1) := by decide +kernel
theorem dX3_layLetter_106 : decode cX3_layLetter 106 = .ok (.getfield 33, 3) := by decide +kernel
theorem dX3_layLetter_109 : decode cX3_layLetter 109 = .ok (.iload_n 2, 1) := by decide +kernel
theorem dX3_layLetter_110 : decode cX3_layLetter 110 = .ok (.iastore, 1) := by decide +kernel
theorem dX3_layLetter_111 : decode cX3_layLetter 111 = .ok (.aload_n 0, 1) := by decide +kernel
theorem dX3_layLetter_112 : decode cX3_layLetter 112 = .ok (.getfield 15, 3) := by decide +kernel
theorem dX3_layLetter_115 : decode cX3_layLetter 115 = .ok (.aload_n 0, 1) := by decide +kernel
theorem dX3_layLetter_116 : decode cX3_layLetter 116 = .ok (.getfield 33, 3) := by decide +kernel
theorem dX3_layLetter_119 : decode cX3_layLetter 119 = .ok (.iload 5, 2) := by decide +kernel
theorem dX3_layLetter_121 : decode cX3_layLetter 121 = .ok (.iastore, 1) := by decide +kernel
theorem dX3_layLetter_122 : decode cX3_layLetter 122 = .ok (.aload_n 0, 1) := by decide +kernel
theorem dX3_layLetter_123 : decode cX3_layLetter 123 = .ok (.getfield 18, 3) := by decide +kernel
theorem dX3_layLetter_126 : decode cX3_layLetter 126 = .ok (.aload_n 0, 1) := by decide +kernel
theorem dX3_layLetter_127 : decode cX3_layLetter 127 = .ok (.getfield 33, 3) := by decide +kernel
theorem dX3_layLetter_130 : decode cX3_layLetter 130 = .ok (.iload 4, 2) := by decide +kernel
theorem dX3_layLetter_132 : decode cX3_layLetter 132 = .ok (.iastore, 1) := by decide +kernel
theorem dX3_layLetter_133 : decode cX3_layLetter 133 = .ok (.aload_n 0, 1) := by decide +kernel
theorem dX3_layLetter_134 : decode cX3_layLetter 134 = .ok (.getfield 21, 3) := by decide +kernel
theorem dX3_layLetter_137 : decode cX3_layLetter 137 = .ok (.iload_n 2, 1) := by decide +kernel
theorem dX3_layLetter_138 : decode cX3_layLetter 138 = .ok (.dup2, 1) := by decide +kernel
theorem dX3_layLetter_139 : decode cX3_layLetter 139 = .ok (.iaload, 1) := by decide +kernel
theorem dX3_layLetter_140 : decode cX3_layLetter 140 = .ok (.iconst 1, 1) := by decide +kernel
theorem dX3_layLetter_141 : decode cX3_layLetter 141 = .ok (.aload_n 0, 1) := by decide +kernel
theorem dX3_layLetter_142 : decode cX3_layLetter 142 = .ok (.getfield 33, 3) := by decide +kernel
theorem dX3_layLetter_145 : decode cX3_layLetter 145 = .ok (.ishl, 1) := by decide +kernel
theorem dX3_layLetter_146 : decode cX3_layLetter 146 = .ok (.ior, 1) := by decide +kernel
theorem dX3_layLetter_147 : decode cX3_layLetter 147 = .ok (.iastore, 1) := by decide +kernel
theorem dX3_layLetter_148 : decode cX3_layLetter 148 = .ok (.aload_n 0, 1) := by decide +kernel
theorem dX3_layLetter_149 : decode cX3_layLetter 149 = .ok (.dup, 1) := by decide +kernel
theorem dX3_layLetter_150 : decode cX3_layLetter 150 = .ok (.getfield 33, 3) := by decide +kernel
theorem dX3_layLetter_153 : decode cX3_layLetter 153 = .ok (.iconst 1, 1) := by decide +kernel
theorem dX3_layLetter_154 : decode cX3_layLetter 154 = .ok (.iadd, 1) := by decide +kernel
theorem dX3_layLetter_155 : decode cX3_layLetter 155 = .ok (.putfield 33, 3) := by decide +kernel
theorem dX3_layLetter_158 : decode cX3_layLetter 158 = .ok (.return_, 1) := by decide +kernel
theorem dX3_countLayers_0 : decode cX3_countLayers 0 = .ok (.iconst 0, 1) := by decide +kernel
theorem dX3_countLayers_1 : decode cX3_countLayers 1 = .ok (.istore_n 1, 1) := by decide +kernel
theorem dX3_countLayers_2 : decode cX3_countLayers 2 = .ok (.iconst 0, 1) := by decide +kernel
theorem dX3_countLayers_3 : decode cX3_countLayers 3 = .ok (.istore_n 2, 1) := by decide +kernel
theorem dX3_countLayers_4 : decode cX3_countLayers 4 = .ok (.iload_n 2, 1) := by decide +kernel
theorem dX3_countLayers_5 : decode cX3_countLayers 5 = .ok (.aload_n 0, 1) := by decide +kernel
theorem dX3_countLayers_6 : decode cX3_countLayers 6 = .ok (.getfield 33, 3) := by decide +kernel
theorem dX3_countLayers_9 : decode cX3_countLayers 9 = .ok (.if_icmp .ge 28, 3) := by decide +kernel
theorem dX3_countLayers_12 : decode cX3_countLayers 12 = .ok (.iload_n 2, 1) := by decide +kernel
theorem dX3_countLayers_13 : decode cX3_countLayers 13 = .ok (.bipush 32, 2) := by decide +kernel
theorem dX3_countLayers_15 : decode cX3_countLayers 15 = .ok (.if_icmp .ge 22, 3) := by decide +kernel
theorem dX3_countLayers_18 : decode cX3_countLayers 18 = .ok (.iload_n 1, 1) := by decide +kernel
theorem dX3_countLayers_19 : decode cX3_countLayers 19 = .ok (.aload_n 0, 1) := by decide +kernel
theorem dX3_countLayers_20 : decode cX3_countLayers 20 = .ok (.getfield 15, 3) := by decide +kernel
theorem dX3_countLayers_23 : decode cX3_countLayers 23 = .ok (.iload_n 2, 1) := by decide +kernel
theorem dX3_countLayers_24 : decode cX3_countLayers 24 = .ok (.iaload, 1) := by decide +kernel
theorem dX3_countLayers_25 : decode cX3_countLayers 25 = .ok (.iconst 1, 1) := by decide +kernel
theorem dX3_countLayers_26 : decode cX3_countLayers 26 = .ok (.iadd, 1) := by decide +kernel
theorem dX3_countLayers_27 : decode cX3_countLayers 27 = .ok (.invokestatic 63, 3) := by decide +kernel
theorem dX3_countLayers_30 : decode cX3_countLayers 30 = .ok (.istore_n 1, 1) := by decide +kernel
theorem dX3_countLayers_31 : decode cX3_countLayers 31 = .ok (.iinc 2 1, 3) := by decide +kernel
theorem dX3_countLayers_34 : decode cX3_countLayers 34 = .ok (.goto (-30), 3) := by decide +kernel
theorem dX3_countLayers_37 : decode cX3_countLayers 37 = .ok (.iload_n 1, 1) := by decide +kernel
theorem dX3_countLayers_38 : decode cX3_countLayers 38 = .ok (.ireturn, 1) := by decide +kernel
theorem dX3_lettersOfLayer_0 : decode cX3_lettersOfLayer 0 = .ok (.iconst 0, 1) := by decide +kernel
theorem dX3_lettersOfLayer_1 : decode cX3_lettersOfLayer 1 = .ok (.istore_n 2, 1) := by decide +kernel
theorem dX3_lettersOfLayer_2 : decode cX3_lettersOfLayer 2 = .ok (.iconst 0, 1) := by decide +kernel
theorem dX3_lettersOfLayer_3 : decode cX3_lettersOfLayer 3 = .ok (.istore_n 3, 1) := by decide +kernel
theorem dX3_lettersOfLayer_4 : decode cX3_lettersOfLayer 4 = .ok (.iload_n 3, 1) := by decide +kernel
theorem dX3_lettersOfLayer_5 : decode cX3_lettersOfLayer 5 = .ok (.aload_n 0, 1) := by decide +kernel
theorem dX3_lettersOfLayer_6 : decode cX3_lettersOfLayer 6 = .ok (.getfield 33, 3) := by decide +kernel
theorem dX3_lettersOfLayer_9 : decode cX3_lettersOfLayer 9 = .ok (.if_icmp .ge 36, 3) := by decide +kernel
theorem dX3_lettersOfLayer_12 : decode cX3_lettersOfLayer 12 = .ok (.iload_n 3, 1) := by decide +kernel
theorem dX3_lettersOfLayer_13 : decode cX3_lettersOfLayer 13 = .ok (.bipush 32, 2) := by decide +kernel
theorem dX3_lettersOfLayer_15 : decode cX3_lettersOfLayer 15 = .ok (.if_icmp .ge 30, 3) := by decide +kernel
theorem dX3_lettersOfLayer_18 : decode cX3_lettersOfLayer 18 = .ok (.aload_n 0, 1) := by decide +kernel
theorem dX3_lettersOfLayer_19 : decode cX3_lettersOfLayer 19 = .ok (.getfield 15, 3) := by decide +kernel
theorem dX3_lettersOfLayer_22 : decode cX3_lettersOfLayer 22 = .ok (.iload_n 3, 1) := by decide +kernel
theorem dX3_lettersOfLayer_23 : decode cX3_lettersOfLayer 23 = .ok (.iaload, 1) := by decide +kernel
theorem dX3_lettersOfLayer_24 : decode cX3_lettersOfLayer 24 = .ok (.iload_n 1, 1) := by decide +kernel
theorem dX3_lettersOfLayer_25 : decode cX3_lettersOfLayer 25 = .ok (.if_icmp .ne 14, 3) := by decide +kernel
theorem dX3_lettersOfLayer_28 : decode cX3_lettersOfLayer 28 = .ok (.iload_n 2, 1) := by decide +kernel
theorem dX3_lettersOfLayer_29 : decode cX3_lettersOfLayer 29 = .ok (.iconst 1, 1) := by decide +kernel
theorem dX3_lettersOfLayer_30 : decode cX3_lettersOfLayer 30 = .ok (.aload_n 0, 1) := by decide +kernel
theorem dX3_lettersOfLayer_31 : decode cX3_lettersOfLayer 31 = .ok (.getfield 9, 3) := by decide +kernel
theorem dX3_lettersOfLayer_34 : decode cX3_lettersOfLayer 34 = .ok (.iload_n 3, 1) := by decide +kernel
theorem dX3_lettersOfLayer_35 : decode cX3_lettersOfLayer 35 = .ok (.iaload, 1) := by decide +kernel
theorem dX3_lettersOfLayer_36 : decode cX3_lettersOfLayer 36 = .ok (.ishl, 1) := by decide +kernel
theorem dX3_lettersOfLayer_37 : decode cX3_lettersOfLayer 37 = .ok (.ior, 1) := by decide +kernel
theorem dX3_lettersOfLayer_38 : decode cX3_lettersOfLayer 38 = .ok (.istore_n 2, 1) := by decide +kernel
theorem dX3_lettersOfLayer_39 : decode cX3_lettersOfLayer 39 = .ok (.iinc 3 1, 3) := by decide +kernel
theorem dX3_lettersOfLayer_42 : decode cX3_lettersOfLayer 42 = .ok (.goto (-38), 3) := by decide +kernel
theorem dX3_lettersOfLayer_45 : decode cX3_lettersOfLayer 45 = .ok (.iload_n 2, 1) := by decide +kernel
theorem dX3_lettersOfLayer_46 : decode cX3_lettersOfLayer 46 = .ok (.ireturn, 1) := by decide +kernel
set_option maxRecDepth 20000 in
theorem ggX3_countOf_J6_bitCount_0f7a4 : GoodIn wsX3_countOf wsJ6_bitCount_0f7a4 := goodIn_r _ [5, 6, 7, 8] (by decide +kernel) (by decide +kernel)
set_option maxRecDepth 20000 in
theorem gX3_countOf_J6_bitCount_0f7a4 : GoodIn wsX3_countOf (va_wsS RX3 69 yJ6_bitCount_0f7a4 wsJ6_bitCount_0f7a4) := goodIn_app (goodIn_of _ (by decide +kernel)) ggX3_countOf_J6_bitCount_0f7a4
theorem dX3_countOf_0 : decode cX3_countOf 0 = .ok (.iload_n 1, 1) := by decide +kernel
theorem dX3_countOf_1 : decode cX3_countOf 1 = .ok (.ifCond .lt 21, 3) := by decide +kernel
theorem dX3_countOf_4 : decode cX3_countOf 4 = .ok (.iload_n 1, 1) := by decide +kernel
theorem dX3_countOf_5 : decode cX3_countOf 5 = .ok (.bipush 6, 2) := by decide +kernel
theorem dX3_countOf_7 : decode cX3_countOf 7 = .ok (.if_icmp .ge 15, 3) := by decide +kernel
theorem dX3_countOf_10 : decode cX3_countOf 10 = .ok (.aload_n 0, 1) := by decide +kernel
theorem dX3_countOf_11 : decode cX3_countOf 11 = .ok (.getfield 21, 3) := by decide +kernel
theorem dX3_countOf_14 : decode cX3_countOf 14 = .ok (.iload_n 1, 1) := by decide +kernel
theorem dX3_countOf_15 : decode cX3_countOf 15 = .ok (.iaload, 1) := by decide +kernel
theorem dX3_countOf_16 : decode cX3_countOf 16 = .ok (.invokestatic 69, 3) := by decide +kernel
theorem dX3_countOf_19 : decode cX3_countOf 19 = .ok (.goto 4, 3) := by decide +kernel
theorem dX3_countOf_22 : decode cX3_countOf 22 = .ok (.iconst 0, 1) := by decide +kernel
theorem dX3_countOf_23 : decode cX3_countOf 23 = .ok (.ireturn, 1) := by decide +kernel
set_option maxRecDepth 20000 in
theorem ggX3_nextPlace_J6_numberOfTrailingZeros_0f7a4 : GoodIn wsX3_nextPlace wsJ6_numberOfTrailingZeros_0f7a4 := goodIn_r _ [7, 8] (by decide +kernel) (by decide +kernel)
set_option maxRecDepth 20000 in
theorem gX3_nextPlace_J6_numberOfTrailingZeros_0f7a4 : GoodIn wsX3_nextPlace (va_wsS RX3 74 yJ6_numberOfTrailingZeros_0f7a4 wsJ6_numberOfTrailingZeros_0f7a4) := goodIn_app (goodIn_of _ (by decide +kernel)) ggX3_nextPlace_J6_numberOfTrailingZeros_0f7a4
theorem dX3_nextPlace_0 : decode cX3_nextPlace 0 = .ok (.iload_n 1, 1) := by decide +kernel
theorem dX3_nextPlace_1 : decode cX3_nextPlace 1 = .ok (.ifCond .lt 9, 3) := by decide +kernel
theorem dX3_nextPlace_4 : decode cX3_nextPlace 4 = .ok (.iload_n 1, 1) := by decide +kernel
theorem dX3_nextPlace_5 : decode cX3_nextPlace 5 = .ok (.bipush 6, 2) := by decide +kernel
theorem dX3_nextPlace_7 : decode cX3_nextPlace 7 = .ok (.if_icmp .lt 5, 3) := by decide +kernel
theorem dX3_nextPlace_10 : decode cX3_nextPlace 10 = .ok (.iconst (-1), 1) := by decide +kernel
theorem dX3_nextPlace_11 : decode cX3_nextPlace 11 = .ok (.ireturn, 1) := by decide +kernel
theorem dX3_nextPlace_12 : decode cX3_nextPlace 12 = .ok (.aload_n 0, 1) := by decide +kernel
theorem dX3_nextPlace_13 : decode cX3_nextPlace 13 = .ok (.getfield 21, 3) := by decide +kernel
theorem dX3_nextPlace_16 : decode cX3_nextPlace 16 = .ok (.iload_n 1, 1) := by decide +kernel
theorem dX3_nextPlace_17 : decode cX3_nextPlace 17 = .ok (.iaload, 1) := by decide +kernel
theorem dX3_nextPlace_18 : decode cX3_nextPlace 18 = .ok (.aload_n 0, 1) := by decide +kernel
theorem dX3_nextPlace_19 : decode cX3_nextPlace 19 = .ok (.getfield 36, 3) := by decide +kernel
theorem dX3_nextPlace_22 : decode cX3_nextPlace 22 = .ok (.iconst (-1), 1) := by decide +kernel
theorem dX3_nextPlace_23 : decode cX3_nextPlace 23 = .ok (.ixor, 1) := by decide +kernel
theorem dX3_nextPlace_24 : decode cX3_nextPlace 24 = .ok (.iand, 1) := by decide +kernel
theorem dX3_nextPlace_25 : decode cX3_nextPlace 25 = .ok (.istore_n 2, 1) := by decide +kernel
theorem dX3_nextPlace_26 : decode cX3_nextPlace 26 = .ok (.iload_n 2, 1) := by decide +kernel
theorem dX3_nextPlace_27 : decode cX3_nextPlace 27 = .ok (.ifCond .ne 5, 3) := by decide +kernel
theorem dX3_nextPlace_30 : decode cX3_nextPlace 30 = .ok (.iconst (-1), 1) := by decide +kernel
theorem dX3_nextPlace_31 : decode cX3_nextPlace 31 = .ok (.ireturn, 1) := by decide +kernel
theorem dX3_nextPlace_32 : decode cX3_nextPlace 32 = .ok (.iload_n 2, 1) := by decide +kernel
theorem dX3_nextPlace_33 : decode cX3_nextPlace 33 = .ok (.invokestatic 74, 3) := by decide +kernel
theorem dX3_nextPlace_36 : decode cX3_nextPlace 36 = .ok (.istore_n 3, 1) := by decide +kernel
theorem dX3_nextPlace_37 : decode cX3_nextPlace 37 = .ok (.aload_n 0, 1) := by decide +kernel
theorem dX3_nextPlace_38 : decode cX3_nextPlace 38 = .ok (.getfield 18, 3) := by decide +kernel
theorem dX3_nextPlace_41 : decode cX3_nextPlace 41 = .ok (.iload_n 3, 1) := by decide +kernel
theorem dX3_nextPlace_42 : decode cX3_nextPlace 42 = .ok (.iaload, 1) := by decide +kernel
theorem dX3_nextPlace_43 : decode cX3_nextPlace 43 = .ok (.aload_n 0, 1) := by decide +kernel
theorem dX3_nextPlace_44 : decode cX3_nextPlace 44 = .ok (.getfield 36, 3) := by decide +kernel
theorem dX3_nextPlace_47 : decode cX3_nextPlace 47 = .ok (.iconst (-1), 1) := by decide +kernel
theorem dX3_nextPlace_48 : decode cX3_nextPlace 48 = .ok (.ixor, 1) := by decide +kernel
theorem dX3_nextPlace_49 : decode cX3_nextPlace 49 = .ok (.iand, 1) := by decide +kernel
theorem dX3_nextPlace_50 : decode cX3_nextPlace 50 = .ok (.ifCond .ne 7, 3) := by decide +kernel
theorem dX3_nextPlace_53 : decode cX3_nextPlace 53 = .ok (.iload_n 3, 1) := by decide +kernel
theorem dX3_nextPlace_54 : decode cX3_nextPlace 54 = .ok (.goto 4, 3) := by decide +kernel
theorem dX3_nextPlace_57 : decode cX3_nextPlace 57 = .ok (.iconst (-1), 1) := by decide +kernel
theorem dX3_nextPlace_58 : decode cX3_nextPlace 58 = .ok (.ireturn, 1) := by decide +kernel
set_option maxRecDepth 20000 in
theorem ggX3_take_X3_nextPlace : GoodIn wsX3_take wsX3_nextPlace := goodIn_r _ [6, 7, 1, 8, 9, 10, 11, 12, 13, 14, 15, 16, 17, 18, 19, 20] (by decide +kernel) (by decide +kernel)
set_option maxRecDepth 20000 in
theorem gX3_take_X3_nextPlace : GoodIn wsX3_take (wsV RX3 77 RX3 yX3_nextPlace wsX3_nextPlace) := goodIn_app (goodIn_of _ (by decide +kernel)) ggX3_take_X3_nextPlace
theorem dX3_take_0 : decode cX3_take 0 = .ok (.aload_n 0, 1) := by decide +kernel
theorem dX3_take_1 : decode cX3_take 1 = .ok (.iload_n 1, 1) := by decide +kernel
theorem dX3_take_2 : decode cX3_take 2 = .ok (.invokevirtual 77, 3) := by decide +kernel
theorem dX3_take_5 : decode cX3_take 5 = .ok (.istore_n 2, 1) := by decide +kernel
theorem dX3_take_6 : decode cX3_take 6 = .ok (.iload_n 2, 1) := by decide +kernel
theorem dX3_take_7 : decode cX3_take 7 = .ok (.iconst (-1), 1) := by decide +kernel
theorem dX3_take_8 : decode cX3_take 8 = .ok (.if_icmp .ne 5, 3) := by decide +kernel
theorem dX3_take_11 : decode cX3_take 11 = .ok (.iconst 0, 1) := by decide +kernel
theorem dX3_take_12 : decode cX3_take 12 = .ok (.ireturn, 1) := by decide +kernel
theorem dX3_take_13 : decode cX3_take 13 = .ok (.aload_n 0, 1) := by decide +kernel
theorem dX3_take_14 : decode cX3_take 14 = .ok (.dup, 1) := by decide +kernel
theorem dX3_take_15 : decode cX3_take 15 = .ok (.getfield 36, 3) := by decide +kernel
theorem dX3_take_18 : decode cX3_take 18 = .ok (.iconst 1, 1) := by decide +kernel
theorem dX3_take_19 : decode cX3_take 19 = .ok (.iload_n 2, 1) := by decide +kernel
theorem dX3_take_20 : decode cX3_take 20 = .ok (.ishl, 1) := by decide +kernel
theorem dX3_take_21 : decode cX3_take 21 = .ok (.ior, 1) := by decide +kernel
theorem dX3_take_22 : decode cX3_take 22 = .ok (.putfield 36, 3) := by decide +kernel
theorem dX3_take_25 : decode cX3_take 25 = .ok (.iconst 1, 1) := by decide +kernel
theorem dX3_take_26 : decode cX3_take 26 = .ok (.ireturn, 1) := by decide +kernel
set_option maxRecDepth 20000 in
theorem ggX3_takeAll_X9_at : GoodIn wsX3_takeAll wsX9_at := goodIn_r _ [5, 6, 7, 25, 26] (by decide +kernel) (by decide +kernel)
set_option maxRecDepth 20000 in
theorem gX3_takeAll_X9_at : GoodIn wsX3_takeAll (wsV RX3 48 RX9 yX9_at wsX9_at) := goodIn_app (goodIn_of _ (by decide +kernel)) ggX3_takeAll_X9_at
set_option maxRecDepth 20000 in
theorem ggX3_takeAll_X3_take : GoodIn wsX3_takeAll wsX3_take := goodIn_r _ [12, 13, 14, 15, 16, 11, 17, 18, 19, 20, 21, 22, 23, 24, 27, 28, 29, 30, 31, 32, 33] (by decide +kernel) (by decide +kernel)
set_option maxRecDepth 20000 in
theorem gX3_takeAll_X3_take : GoodIn wsX3_takeAll (wsV RX3 80 RX3 yX3_take wsX3_take) := goodIn_app (goodIn_of _ (by decide +kernel)) ggX3_takeAll_X3_take
theorem dX3_takeAll_0 : decode cX3_takeAll 0 = .ok (.iconst 0, 1) := by decide +kernel
theorem dX3_takeAll_1 : decode cX3_takeAll 1 = .ok (.istore_n 2, 1) := by decide +kernel
theorem dX3_takeAll_2 : decode cX3_takeAll 2 = .ok (.iload_n 2, 1) := by decide +kernel
theorem dX3_takeAll_3 : decode cX3_takeAll 3 = .ok (.aload_n 1, 1) := by decide +kernel
theorem dX3_takeAll_4 : decode cX3_takeAll 4 = .ok (.getfield 45, 3) := by decide +kernel
theorem dX3_takeAll_7 : decode cX3_takeAll 7 = .ok (.if_icmp .ge 23, 3) := by decide +kernel
theorem dX3_takeAll_10 : decode cX3_takeAll 10 = .ok (.aload_n 0, 1) := by decide +kernel
theorem dX3_takeAll_11 : decode cX3_takeAll 11 = .ok (.aload_n 1, 1) := by decide +kernel
theorem dX3_takeAll_12 : decode cX3_takeAll 12 = .ok (.iload_n 2, 1) := by decide +kernel
theorem dX3_takeAll_13 : decode cX3_takeAll 13 = .ok (.invokevirtual 48, 3) := by decide +kernel
theorem dX3_takeAll_16 : decode cX3_takeAll 16 = .ok (.invokevirtual 80, 3) := by decide +kernel
theorem dX3_takeAll_19 : decode cX3_takeAll 19 = .ok (.ifCond .ne 5, 3) := by decide +kernel
theorem dX3_takeAll_22 : decode cX3_takeAll 22 = .ok (.iconst 0, 1) := by decide +kernel
theorem dX3_takeAll_23 : decode cX3_takeAll 23 = .ok (.ireturn, 1) := by decide +kernel
theorem dX3_takeAll_24 : decode cX3_takeAll 24 = .ok (.iinc 2 1, 3) := by decide +kernel
theorem dX3_takeAll_27 : decode cX3_takeAll 27 = .ok (.goto (-25), 3) := by decide +kernel
theorem dX3_takeAll_30 : decode cX3_takeAll 30 = .ok (.iconst 1, 1) := by decide +kernel
theorem dX3_takeAll_31 : decode cX3_takeAll 31 = .ok (.ireturn, 1) := by decide +kernel
set_option maxRecDepth 20000 in
theorem ggX3_allTaken_X3_countRest : GoodIn wsX3_allTaken wsX3_countRest := goodIn_r _ [5, 6, 7, 8, 9, 10, 11, 12, 13, 14, 15, 16, 17, 18, 19, 20, 21] (by decide +kernel) (by decide +kernel)
set_option maxRecDepth 20000 in
theorem gX3_allTaken_X3_countRest : GoodIn wsX3_allTaken (wsV RX3 83 RX3 yX3_countRest wsX3_countRest) := goodIn_app (goodIn_of _ (by decide +kernel)) ggX3_allTaken_X3_countRest
theorem dX3_allTaken_0 : decode cX3_allTaken 0 = .ok (.aload_n 0, 1) := by decide +kernel
theorem dX3_allTaken_1 : decode cX3_allTaken 1 = .ok (.invokevirtual 83, 3) := by decide +kernel
theorem dX3_allTaken_4 : decode cX3_allTaken 4 = .ok (.ifCond .ne 7, 3) := by decide +kernel
theorem dX3_allTaken_7 : decode cX3_allTaken 7 = .ok (.iconst 1, 1) := by decide +kernel
theorem dX3_allTaken_8 : decode cX3_allTaken 8 = .ok (.goto 4, 3) := by decide +kernel
theorem dX3_allTaken_11 : decode cX3_allTaken 11 = .ok (.iconst 0, 1) := by decide +kernel
theorem dX3_allTaken_12 : decode cX3_allTaken 12 = .ok (.ireturn, 1) := by decide +kernel
set_option maxRecDepth 20000 in
theorem ggX3_countRest_J6_bitCount_0f7a4 : GoodIn wsX3_countRest wsJ6_bitCount_0f7a4 := goodIn_r _ [6, 7, 8, 9] (by decide +kernel) (by decide +kernel)
set_option maxRecDepth 20000 in
theorem gX3_countRest_J6_bitCount_0f7a4 : GoodIn wsX3_countRest (va_wsS RX3 69 yJ6_bitCount_0f7a4 wsJ6_bitCount_0f7a4) := goodIn_app (goodIn_of _ (by decide +kernel)) ggX3_countRest_J6_bitCount_0f7a4
theorem dX3_countRest_0 : decode cX3_countRest 0 = .ok (.aload_n 0, 1) := by decide +kernel
theorem dX3_countRest_1 : decode cX3_countRest 1 = .ok (.getfield 33, 3) := by decide +kernel
theorem dX3_countRest_4 : decode cX3_countRest 4 = .ok (.aload_n 0, 1) := by decide +kernel
theorem dX3_countRest_5 : decode cX3_countRest 5 = .ok (.getfield 36, 3) := by decide +kernel
theorem dX3_countRest_8 : decode cX3_countRest 8 = .ok (.invokestatic 69, 3) := by decide +kernel
theorem dX3_countRest_11 : decode cX3_countRest 11 = .ok (.isub, 1) := by decide +kernel
theorem dX3_countRest_12 : decode cX3_countRest 12 = .ok (.ireturn, 1) := by decide +kernel
theorem dX3_lettersOfRest_0 : decode cX3_lettersOfRest 0 = .ok (.iconst 0, 1) := by decide +kernel
theorem dX3_lettersOfRest_1 : decode cX3_lettersOfRest 1 = .ok (.istore_n 1, 1) := by decide +kernel
theorem dX3_lettersOfRest_2 : decode cX3_lettersOfRest 2 = .ok (.iconst 0, 1) := by decide +kernel
theorem dX3_lettersOfRest_3 : decode cX3_lettersOfRest 3 = .ok (.istore_n 2, 1) := by decide +kernel
theorem dX3_lettersOfRest_4 : decode cX3_lettersOfRest 4 = .ok (.iload_n 2, 1) := by decide +kernel
theorem dX3_lettersOfRest_5 : decode cX3_lettersOfRest 5 = .ok (.aload_n 0, 1) := by decide +kernel
theorem dX3_lettersOfRest_6 : decode cX3_lettersOfRest 6 = .ok (.getfield 30, 3) := by decide +kernel
theorem dX3_lettersOfRest_9 : decode cX3_lettersOfRest 9 = .ok (.if_icmp .ge 37, 3) := by decide +kernel
theorem dX3_lettersOfRest_12 : decode cX3_lettersOfRest 12 = .ok (.iload_n 2, 1) := by decide +kernel
theorem dX3_lettersOfRest_13 : decode cX3_lettersOfRest 13 = .ok (.bipush 6, 2) := by decide +kernel
theorem dX3_lettersOfRest_15 : decode cX3_lettersOfRest 15 = .ok (.if_icmp .ge 31, 3) := by decide +kernel
theorem dX3_lettersOfRest_18 : decode cX3_lettersOfRest 18 = .ok (.aload_n 0, 1) := by decide +kernel
theorem dX3_lettersOfRest_19 : decode cX3_lettersOfRest 19 = .ok (.getfield 21, 3) := by decide +kernel
theorem dX3_lettersOfRest_22 : decode cX3_lettersOfRest 22 = .ok (.iload_n 2, 1) := by decide +kernel
theorem dX3_lettersOfRest_23 : decode cX3_lettersOfRest 23 = .ok (.iaload, 1) := by decide +kernel
theorem dX3_lettersOfRest_24 : decode cX3_lettersOfRest 24 = .ok (.aload_n 0, 1) := by decide +kernel
theorem dX3_lettersOfRest_25 : decode cX3_lettersOfRest 25 = .ok (.getfield 36, 3) := by decide +kernel
theorem dX3_lettersOfRest_28 : decode cX3_lettersOfRest 28 = .ok (.iconst (-1), 1) := by decide +kernel
theorem dX3_lettersOfRest_29 : decode cX3_lettersOfRest 29 = .ok (.ixor, 1) := by decide +kernel
theorem dX3_lettersOfRest_30 : decode cX3_lettersOfRest 30 = .ok (.iand, 1) := by decide +kernel
theorem dX3_lettersOfRest_31 : decode cX3_lettersOfRest 31 = .ok (.ifCond .eq 9, 3) := by decide +kernel
theorem dX3_lettersOfRest_34 : decode cX3_lettersOfRest 34 = .ok (.iload_n 1, 1) := by decide +kernel
theorem dX3_lettersOfRest_35 : decode cX3_lettersOfRest 35 = .ok (.iconst 1, 1) := by decide +kernel
theorem dX3_lettersOfRest_36 : decode cX3_lettersOfRest 36 = .ok (.iload_n 2, 1) := by decide +kernel
theorem dX3_lettersOfRest_37 : decode cX3_lettersOfRest 37 = .ok (.ishl, 1) := by decide +kernel
theorem dX3_lettersOfRest_38 : decode cX3_lettersOfRest 38 = .ok (.ior, 1) := by decide +kernel
theorem dX3_lettersOfRest_39 : decode cX3_lettersOfRest 39 = .ok (.istore_n 1, 1) := by decide +kernel
theorem dX3_lettersOfRest_40 : decode cX3_lettersOfRest 40 = .ok (.iinc 2 1, 3) := by decide +kernel
theorem dX3_lettersOfRest_43 : decode cX3_lettersOfRest 43 = .ok (.goto (-39), 3) := by decide +kernel
theorem dX3_lettersOfRest_46 : decode cX3_lettersOfRest 46 = .ok (.iload_n 1, 1) := by decide +kernel
theorem dX3_lettersOfRest_47 : decode cX3_lettersOfRest 47 = .ok (.ireturn, 1) := by decide +kernel
set_option maxRecDepth 20000 in
theorem ggX3_pushRest_X3_countRest : GoodIn wsX3_pushRest wsX3_countRest := goodIn_r _ [6, 7, 8, 9, 10, 11, 12, 13, 14, 15, 37, 38, 39, 40, 41, 42, 43] (by decide +kernel) (by decide +kernel)
set_option maxRecDepth 20000 in
theorem gX3_pushRest_X3_countRest : GoodIn wsX3_pushRest (wsV RX3 83 RX3 yX3_countRest wsX3_countRest) := goodIn_app (goodIn_of _ (by decide +kernel)) ggX3_pushRest_X3_countRest
set_option maxRecDepth 20000 in
theorem ggX3_pushRest_X3_take : GoodIn wsX3_pushRest wsX3_take := goodIn_r _ [19, 8, 20, 21, 22, 5, 23, 24, 25, 26, 27, 11, 28, 29, 37, 38, 39, 40, 41, 42, 43] (by decide +kernel) (by decide +kernel)
set_option maxRecDepth 20000 in
theorem gX3_pushRest_X3_take : GoodIn wsX3_pushRest (wsV RX3 80 RX3 yX3_take wsX3_take) := goodIn_app (goodIn_of _ (by decide +kernel)) ggX3_pushRest_X3_take
set_option maxRecDepth 20000 in
theorem ggX3_pushRest_X9_push : GoodIn wsX3_pushRest wsX9_push := goodIn_r _ [34, 35, 36, 44, 45] (by decide +kernel) (by decide +kernel)
set_option maxRecDepth 20000 in
theorem gX3_pushRest_X9_push : GoodIn wsX3_pushRest (wsV RX3 87 RX9 yX9_push wsX9_push) := goodIn_app (goodIn_of _ (by decide +kernel)) ggX3_pushRest_X9_push
theorem dX3_pushRest_0 : decode cX3_pushRest 0 = .ok (.aload_n 0, 1) := by decide +kernel
theorem dX3_pushRest_1 : decode cX3_pushRest 1 = .ok (.invokevirtual 83, 3) := by decide +kernel
theorem dX3_pushRest_4 : decode cX3_pushRest 4 = .ok (.istore_n 2, 1) := by decide +kernel
theorem dX3_pushRest_5 : decode cX3_pushRest 5 = .ok (.iconst 0, 1) := by decide +kernel
theorem dX3_pushRest_6 : decode cX3_pushRest 6 = .ok (.istore_n 3, 1) := by decide +kernel
theorem dX3_pushRest_7 : decode cX3_pushRest 7 = .ok (.iload_n 3, 1) := by decide +kernel
theorem dX3_pushRest_8 : decode cX3_pushRest 8 = .ok (.iload_n 2, 1) := by decide +kernel
theorem dX3_pushRest_9 : decode cX3_pushRest 9 = .ok (.if_icmp .ge 51, 3) := by decide +kernel
theorem dX3_pushRest_12 : decode cX3_pushRest 12 = .ok (.iconst 0, 1) := by decide +kernel
theorem dX3_pushRest_13 : decode cX3_pushRest 13 = .ok (.istore 4, 2) := by decide +kernel
theorem dX3_pushRest_15 : decode cX3_pushRest 15 = .ok (.iload 4, 2) := by decide +kernel
theorem dX3_pushRest_17 : decode cX3_pushRest 17 = .ok (.aload_n 0, 1) := by decide +kernel
theorem dX3_pushRest_18 : decode cX3_pushRest 18 = .ok (.getfield 30, 3) := by decide +kernel
theorem dX3_pushRest_21 : decode cX3_pushRest 21 = .ok (.if_icmp .ge 18, 3) := by decide +kernel
theorem dX3_pushRest_24 : decode cX3_pushRest 24 = .ok (.aload_n 0, 1) := by decide +kernel
theorem dX3_pushRest_25 : decode cX3_pushRest 25 = .ok (.iload 4, 2) := by decide +kernel
theorem dX3_pushRest_27 : decode cX3_pushRest 27 = .ok (.invokevirtual 80, 3) := by decide +kernel
theorem dX3_pushRest_30 : decode cX3_pushRest 30 = .ok (.ifCond .ne 9, 3) := by decide +kernel
theorem dX3_pushRest_33 : decode cX3_pushRest 33 = .ok (.iinc 4 1, 3) := by decide +kernel
theorem dX3_pushRest_36 : decode cX3_pushRest 36 = .ok (.goto (-21), 3) := by decide +kernel
theorem dX3_pushRest_39 : decode cX3_pushRest 39 = .ok (.iload 4, 2) := by decide +kernel
theorem dX3_pushRest_41 : decode cX3_pushRest 41 = .ok (.aload_n 0, 1) := by decide +kernel
theorem dX3_pushRest_42 : decode cX3_pushRest 42 = .ok (.getfield 30, 3) := by decide +kernel
theorem dX3_pushRest_45 : decode cX3_pushRest 45 = .ok (.if_icmp .ge 9, 3) := by decide +kernel
theorem dX3_pushRest_48 : decode cX3_pushRest 48 = .ok (.aload_n 1, 1) := by decide +kernel
theorem dX3_pushRest_49 : decode cX3_pushRest 49 = .ok (.iload 4, 2) := by decide +kernel
theorem dX3_pushRest_51 : decode cX3_pushRest 51 = .ok (.invokevirtual 87, 3) := by decide +kernel
theorem dX3_pushRest_54 : decode cX3_pushRest 54 = .ok (.iinc 3 1, 3) := by decide +kernel
theorem dX3_pushRest_57 : decode cX3_pushRest 57 = .ok (.goto (-50), 3) := by decide +kernel
theorem dX3_pushRest_60 : decode cX3_pushRest 60 = .ok (.return_, 1) := by decide +kernel
set_option maxRecDepth 20000 in
theorem ggX3_writeRest_X9_empty : GoodIn wsX3_writeRest wsX9_empty := goodIn_r _ [5, 6, 45, 46] (by decide +kernel) (by decide +kernel)
set_option maxRecDepth 20000 in
theorem gX3_writeRest_X9_empty : GoodIn wsX3_writeRest (wsV RX3 91 RX9 yX9_empty wsX9_empty) := goodIn_app (goodIn_of _ (by decide +kernel)) ggX3_writeRest_X9_empty
set_option maxRecDepth 20000 in
theorem ggX3_writeRest_X3_pushRest : GoodIn wsX3_writeRest wsX3_pushRest := goodIn_r _ [11, 12, 13, 14, 15, 10, 16, 17, 18, 19, 20, 21, 22, 23, 24, 25, 26, 27, 28, 29, 30, 31, 32, 33, 34, 35, 36, 37, 38, 39, 40, 41, 42, 4, 43, 6, 44, 47, 48, 49, 50, 51, 52, 53, 45, 46] (by decide +kernel) (by decide +kernel)
set_option maxRecDepth 20000 in
theorem gX3_writeRest_X3_pushRest : GoodIn wsX3_writeRest (wsV RX3 94 RX3 yX3_pushRest wsX3_pushRest) := goodIn_app (goodIn_of _ (by decide +kernel)) ggX3_writeRest_X3_pushRest
theorem dX3_writeRest_0 : decode cX3_writeRest 0 = .ok (.aload_n 1, 1) := by decide +kernel
theorem dX3_writeRest_1 : decode cX3_writeRest 1 = .ok (.invokevirtual 91, 3) := by decide +kernel
theorem dX3_writeRest_4 : decode cX3_writeRest 4 = .ok (.aload_n 0, 1) := by decide +kernel
theorem dX3_writeRest_5 : decode cX3_writeRest 5 = .ok (.aload_n 1, 1) := by decide +kernel
theorem dX3_writeRest_6 : decode cX3_writeRest 6 = .ok (.invokevirtual 94, 3) := by decide +kernel
theorem dX3_writeRest_9 : decode cX3_writeRest 9 = .ok (.return_, 1) := by decide +kernel
set_option maxRecDepth 20000 in
theorem ggX4_init_X3_init : GoodIn wsX4_init wsX3_init := goodIn_r _ [12, 13, 2, 3, 8, 14, 15, 16, 17, 18, 19, 20, 21, 22, 23, 24] (by decide +kernel) (by decide +kernel)
set_option maxRecDepth 20000 in
theorem gX4_init_X3_init_n11 : GoodIn wsX4_init (wsX3_init) := ggX4_init_X3_init
theorem dX4_init_0 : decode cX4_init 0 = .ok (.aload_n 0, 1) := by decide +kernel
theorem dX4_init_1 : decode cX4_init 1 = .ok (.invokespecial 3, 3) := by decide +kernel
theorem dX4_init_4 : decode cX4_init 4 = .ok (.aload_n 0, 1) := by decide +kernel
theorem dX4_init_5 : decode cX4_init 5 = .ok (.new 9, 3) := by decide +kernel
theorem dX4_init_8 : decode cX4_init 8 = .ok (.dup, 1) := by decide +kernel
theorem dX4_init_9 : decode cX4_init 9 = .ok (.invokespecial 11, 3) := by decide +kernel
theorem dX4_init_12 : decode cX4_init 12 = .ok (.putfield 12, 3) := by decide +kernel
theorem dX4_init_15 : decode cX4_init 15 = .ok (.aload_n 0, 1) := by decide +kernel
theorem dX4_init_16 : decode cX4_init 16 = .ok (.sipush 2304, 3) := by decide +kernel
theorem dX4_init_19 : decode cX4_init 19 = .ok (.newarray .int, 2) := by decide +kernel
theorem dX4_init_21 : decode cX4_init 21 = .ok (.putfield 18, 3) := by decide +kernel
theorem dX4_init_24 : decode cX4_init 24 = .ok (.aload_n 0, 1) := by decide +kernel
theorem dX4_init_25 : decode cX4_init 25 = .ok (.bipush 6, 2) := by decide +kernel
theorem dX4_init_27 : decode cX4_init 27 = .ok (.newarray .int, 2) := by decide +kernel
theorem dX4_init_29 : decode cX4_init 29 = .ok (.putfield 22, 3) := by decide +kernel
theorem dX4_init_32 : decode cX4_init 32 = .ok (.return_, 1) := by decide +kernel
set_option maxRecDepth 20000 in
theorem ggX4_begin_X3_lay : GoodIn wsX4_begin wsX3_lay := goodIn_r _ [14, 15, 16, 17, 18, 19, 20, 21, 22, 23, 24, 25, 26, 27, 28, 29, 30, 31, 32, 13, 33, 34, 35, 36, 37, 7, 38, 39, 40, 41, 42, 43, 44, 45, 46, 47, 48, 49, 50, 67, 68, 69, 70, 71, 72, 73, 74, 75, 76, 77] (by decide +kernel) (by decide +kernel)
set_option maxRecDepth 20000 in
theorem gX4_begin_X3_lay : GoodIn wsX4_begin (wsV RX4 25 RX3 yX3_lay wsX3_lay) := goodIn_app (goodIn_of _ (by decide +kernel)) ggX4_begin_X3_lay
set_option maxRecDepth 20000 in
theorem ggX4_begin_X3_countOf : GoodIn wsX4_begin wsX3_countOf := goodIn_r _ [54, 18, 55, 56, 57, 58, 59, 60, 61, 69, 70, 71, 72, 73, 74, 75] (by decide +kernel) (by decide +kernel)
set_option maxRecDepth 20000 in
theorem gX4_begin_X3_countOf : GoodIn wsX4_begin (wsV RX4 41 RX3 yX3_countOf wsX3_countOf) := goodIn_app (goodIn_of _ (by decide +kernel)) ggX4_begin_X3_countOf
theorem dX4_begin_0 : decode cX4_begin 0 = .ok (.aload_n 0, 1) := by decide +kernel
theorem dX4_begin_1 : decode cX4_begin 1 = .ok (.getfield 12, 3) := by decide +kernel
theorem dX4_begin_4 : decode cX4_begin 4 = .ok (.aload_n 1, 1) := by decide +kernel
theorem dX4_begin_5 : decode cX4_begin 5 = .ok (.aload_n 2, 1) := by decide +kernel
theorem dX4_begin_6 : decode cX4_begin 6 = .ok (.invokevirtual 25, 3) := by decide +kernel
theorem dX4_begin_9 : decode cX4_begin 9 = .ok (.aload_n 0, 1) := by decide +kernel
theorem dX4_begin_10 : decode cX4_begin 10 = .ok (.aload_n 1, 1) := by decide +kernel
theorem dX4_begin_11 : decode cX4_begin 11 = .ok (.getfield 29, 3) := by decide +kernel
theorem dX4_begin_14 : decode cX4_begin 14 = .ok (.putfield 35, 3) := by decide +kernel
theorem dX4_begin_17 : decode cX4_begin 17 = .ok (.aload_n 0, 1) := by decide +kernel
theorem dX4_begin_18 : decode cX4_begin 18 = .ok (.iconst 1, 1) := by decide +kernel
theorem dX4_begin_19 : decode cX4_begin 19 = .ok (.putfield 38, 3) := by decide +kernel
theorem dX4_begin_22 : decode cX4_begin 22 = .ok (.iconst 0, 1) := by decide +kernel
theorem dX4_begin_23 : decode cX4_begin 23 = .ok (.istore_n 3, 1) := by decide +kernel
theorem dX4_begin_24 : decode cX4_begin 24 = .ok (.iload_n 3, 1) := by decide +kernel
theorem dX4_begin_25 : decode cX4_begin 25 = .ok (.bipush 6, 2) := by decide +kernel
theorem dX4_begin_27 : decode cX4_begin 27 = .ok (.if_icmp .ge 44, 3) := by decide +kernel
theorem dX4_begin_30 : decode cX4_begin 30 = .ok (.aload_n 0, 1) := by decide +kernel
theorem dX4_begin_31 : decode cX4_begin 31 = .ok (.getfield 22, 3) := by decide +kernel
theorem dX4_begin_34 : decode cX4_begin 34 = .ok (.iload_n 3, 1) := by decide +kernel
theorem dX4_begin_35 : decode cX4_begin 35 = .ok (.aload_n 0, 1) := by decide +kernel
theorem dX4_begin_36 : decode cX4_begin 36 = .ok (.getfield 38, 3) := by decide +kernel
theorem dX4_begin_39 : decode cX4_begin 39 = .ok (.iastore, 1) := by decide +kernel
theorem dX4_begin_40 : decode cX4_begin 40 = .ok (.aload_n 0, 1) := by decide +kernel
theorem dX4_begin_41 : decode cX4_begin 41 = .ok (.sipush 2304, 3) := by decide +kernel
theorem dX4_begin_44 : decode cX4_begin 44 = .ok (.aload_n 0, 1) := by decide +kernel
theorem dX4_begin_45 : decode cX4_begin 45 = .ok (.getfield 38, 3) := by decide +kernel
theorem dX4_begin_48 : decode cX4_begin 48 = .ok (.aload_n 0, 1) := by decide +kernel
theorem dX4_begin_49 : decode cX4_begin 49 = .ok (.getfield 12, 3) := by decide +kernel
theorem dX4_begin_52 : decode cX4_begin 52 = .ok (.iload_n 3, 1) := by decide +kernel
theorem dX4_begin_53 : decode cX4_begin 53 = .ok (.invokevirtual 41, 3) := by decide +kernel
theorem dX4_begin_56 : decode cX4_begin 56 = .ok (.iconst 1, 1) := by decide +kernel
theorem dX4_begin_57 : decode cX4_begin 57 = .ok (.iadd, 1) := by decide +kernel
theorem dX4_begin_58 : decode cX4_begin 58 = .ok (.imul, 1) := by decide +kernel
theorem dX4_begin_59 : decode cX4_begin 59 = .ok (.invokestatic 45, 3) := by decide +kernel
theorem dX4_begin_62 : decode cX4_begin 62 = .ok (.putfield 38, 3) := by decide +kernel
theorem dX4_begin_65 : decode cX4_begin 65 = .ok (.iinc 3 1, 3) := by decide +kernel
theorem dX4_begin_68 : decode cX4_begin 68 = .ok (.goto (-44), 3) := by decide +kernel
theorem dX4_begin_71 : decode cX4_begin 71 = .ok (.iconst 0, 1) := by decide +kernel
theorem dX4_begin_72 : decode cX4_begin 72 = .ok (.istore_n 3, 1) := by decide +kernel
theorem dX4_begin_73 : decode cX4_begin 73 = .ok (.iload_n 3, 1) := by decide +kernel
theorem dX4_begin_74 : decode cX4_begin 74 = .ok (.aload_n 0, 1) := by decide +kernel
theorem dX4_begin_75 : decode cX4_begin 75 = .ok (.getfield 38, 3) := by decide +kernel
theorem dX4_begin_78 : decode cX4_begin 78 = .ok (.if_icmp .ge 23, 3) := by decide +kernel
theorem dX4_begin_81 : decode cX4_begin 81 = .ok (.iload_n 3, 1) := by decide +kernel
theorem dX4_begin_82 : decode cX4_begin 82 = .ok (.sipush 2304, 3) := by decide +kernel
theorem dX4_begin_85 : decode cX4_begin 85 = .ok (.if_icmp .ge 16, 3) := by decide +kernel
theorem dX4_begin_88 : decode cX4_begin 88 = .ok (.aload_n 0, 1) := by decide +kernel
theorem dX4_begin_89 : decode cX4_begin 89 = .ok (.getfield 18, 3) := by decide +kernel
theorem dX4_begin_92 : decode cX4_begin 92 = .ok (.iload_n 3, 1) := by decide +kernel
theorem dX4_begin_93 : decode cX4_begin 93 = .ok (.iconst (-1), 1) := by decide +kernel
theorem dX4_begin_94 : decode cX4_begin 94 = .ok (.iastore, 1) := by decide +kernel
theorem dX4_begin_95 : decode cX4_begin 95 = .ok (.iinc 3 1, 3) := by decide +kernel
theorem dX4_begin_98 : decode cX4_begin 98 = .ok (.goto (-25), 3) := by decide +kernel
theorem dX4_begin_101 : decode cX4_begin 101 = .ok (.aload_n 0, 1) := by decide +kernel
theorem dX4_begin_102 : decode cX4_begin 102 = .ok (.getfield 18, 3) := by decide +kernel
theorem dX4_begin_105 : decode cX4_begin 105 = .ok (.iconst 0, 1) := by decide +kernel
theorem dX4_begin_106 : decode cX4_begin 106 = .ok (.iconst 0, 1) := by decide +kernel
theorem dX4_begin_107 : decode cX4_begin 107 = .ok (.iastore, 1) := by decide +kernel
theorem dX4_begin_108 : decode cX4_begin 108 = .ok (.return_, 1) := by decide +kernel
set_option maxRecDepth 20000 in
theorem ggX4_grow_X4_open : GoodIn wsX4_grow wsX4_open := goodIn_r _ [9, 3, 4, 2, 23, 24, 25, 26, 27, 28, 29, 30, 31, 32, 33, 34] (by decide +kernel) (by decide +kernel)
set_option maxRecDepth 20000 in
theorem gX4_grow_X4_open : GoodIn wsX4_grow (wsV RX4 51 RX4 yX4_open wsX4_open) := goodIn_app (goodIn_of _ (by decide +kernel)) ggX4_grow_X4_open
set_option maxRecDepth 20000 in
theorem ggX4_grow_X3_nextPlace : GoodIn wsX4_grow wsX3_nextPlace := goodIn_r _ [14, 15, 16, 17, 18, 19, 20, 21, 22, 28, 29, 30, 31, 32, 33, 34] (by decide +kernel) (by decide +kernel)
set_option maxRecDepth 20000 in
theorem gX4_grow_X3_nextPlace : GoodIn wsX4_grow (wsV RX4 55 RX3 yX3_nextPlace wsX3_nextPlace) := goodIn_app (goodIn_of _ (by decide +kernel)) ggX4_grow_X3_nextPlace
theorem dX4_grow_0 : decode cX4_grow 0 = .ok (.aload_n 0, 1) := by decide +kernel
theorem dX4_grow_1 : decode cX4_grow 1 = .ok (.iload_n 1, 1) := by decide +kernel
theorem dX4_grow_2 : decode cX4_grow 2 = .ok (.invokevirtual 51, 3) := by decide +kernel
theorem dX4_grow_5 : decode cX4_grow 5 = .ok (.ifCond .eq 13, 3) := by decide +kernel
theorem dX4_grow_8 : decode cX4_grow 8 = .ok (.iload_n 2, 1) := by decide +kernel
theorem dX4_grow_9 : decode cX4_grow 9 = .ok (.ifCond .lt 9, 3) := by decide +kernel
theorem dX4_grow_12 : decode cX4_grow 12 = .ok (.iload_n 2, 1) := by decide +kernel
theorem dX4_grow_13 : decode cX4_grow 13 = .ok (.bipush 6, 2) := by decide +kernel
theorem dX4_grow_15 : decode cX4_grow 15 = .ok (.if_icmp .lt 5, 3) := by decide +kernel
theorem dX4_grow_18 : decode cX4_grow 18 = .ok (.iconst (-1), 1) := by decide +kernel
theorem dX4_grow_19 : decode cX4_grow 19 = .ok (.ireturn, 1) := by decide +kernel
theorem dX4_grow_20 : decode cX4_grow 20 = .ok (.iload_n 1, 1) := by decide +kernel
theorem dX4_grow_21 : decode cX4_grow 21 = .ok (.aload_n 0, 1) := by decide +kernel
theorem dX4_grow_22 : decode cX4_grow 22 = .ok (.getfield 22, 3) := by decide +kernel
theorem dX4_grow_25 : decode cX4_grow 25 = .ok (.iload_n 2, 1) := by decide +kernel
theorem dX4_grow_26 : decode cX4_grow 26 = .ok (.iaload, 1) := by decide +kernel
theorem dX4_grow_27 : decode cX4_grow 27 = .ok (.iadd, 1) := by decide +kernel
theorem dX4_grow_28 : decode cX4_grow 28 = .ok (.istore_n 3, 1) := by decide +kernel
theorem dX4_grow_29 : decode cX4_grow 29 = .ok (.aload_n 0, 1) := by decide +kernel
theorem dX4_grow_30 : decode cX4_grow 30 = .ok (.getfield 12, 3) := by decide +kernel
theorem dX4_grow_33 : decode cX4_grow 33 = .ok (.iload_n 2, 1) := by decide +kernel
theorem dX4_grow_34 : decode cX4_grow 34 = .ok (.invokevirtual 55, 3) := by decide +kernel
theorem dX4_grow_37 : decode cX4_grow 37 = .ok (.istore 4, 2) := by decide +kernel
theorem dX4_grow_39 : decode cX4_grow 39 = .ok (.iload 4, 2) := by decide +kernel
theorem dX4_grow_41 : decode cX4_grow 41 = .ok (.iconst (-1), 1) := by decide +kernel
theorem dX4_grow_42 : decode cX4_grow 42 = .ok (.if_icmp .eq 22, 3) := by decide +kernel
theorem dX4_grow_45 : decode cX4_grow 45 = .ok (.iload_n 3, 1) := by decide +kernel
theorem dX4_grow_46 : decode cX4_grow 46 = .ok (.ifCond .lt 18, 3) := by decide +kernel
theorem dX4_grow_49 : decode cX4_grow 49 = .ok (.iload_n 3, 1) := by decide +kernel
theorem dX4_grow_50 : decode cX4_grow 50 = .ok (.aload_n 0, 1) := by decide +kernel
theorem dX4_grow_51 : decode cX4_grow 51 = .ok (.getfield 38, 3) := by decide +kernel
theorem dX4_grow_54 : decode cX4_grow 54 = .ok (.if_icmp .ge 10, 3) := by decide +kernel
theorem dX4_grow_57 : decode cX4_grow 57 = .ok (.iload_n 3, 1) := by decide +kernel
theorem dX4_grow_58 : decode cX4_grow 58 = .ok (.sipush 2304, 3) := by decide +kernel
theorem dX4_grow_61 : decode cX4_grow 61 = .ok (.if_icmp .lt 5, 3) := by decide +kernel
theorem dX4_grow_64 : decode cX4_grow 64 = .ok (.iconst (-1), 1) := by decide +kernel
theorem dX4_grow_65 : decode cX4_grow 65 = .ok (.ireturn, 1) := by decide +kernel
theorem dX4_grow_66 : decode cX4_grow 66 = .ok (.aload_n 0, 1) := by decide +kernel
theorem dX4_grow_67 : decode cX4_grow 67 = .ok (.getfield 18, 3) := by decide +kernel
theorem dX4_grow_70 : decode cX4_grow 70 = .ok (.iload_n 3, 1) := by decide +kernel
theorem dX4_grow_71 : decode cX4_grow 71 = .ok (.aload_n 0, 1) := by decide +kernel
theorem dX4_grow_72 : decode cX4_grow 72 = .ok (.getfield 12, 3) := by decide +kernel
theorem dX4_grow_75 : decode cX4_grow 75 = .ok (.getfield 58, 3) := by decide +kernel
theorem dX4_grow_78 : decode cX4_grow 78 = .ok (.iconst 1, 1) := by decide +kernel
theorem dX4_grow_79 : decode cX4_grow 79 = .ok (.iload 4, 2) := by decide +kernel
theorem dX4_grow_81 : decode cX4_grow 81 = .ok (.ishl, 1) := by decide +kernel
theorem dX4_grow_82 : decode cX4_grow 82 = .ok (.ior, 1) := by decide +kernel
theorem dX4_grow_83 : decode cX4_grow 83 = .ok (.iastore, 1) := by decide +kernel
theorem dX4_grow_84 : decode cX4_grow 84 = .ok (.iload_n 3, 1) := by decide +kernel
theorem dX4_grow_85 : decode cX4_grow 85 = .ok (.ireturn, 1) := by decide +kernel
set_option maxRecDepth 20000 in
theorem ggX4_someIsFollowedBy_X4_open : GoodIn wsX4_someIsFollowedBy wsX4_open := goodIn_r _ [8, 1, 9, 2, 44, 45, 46, 47, 48, 49, 50, 51, 52, 53, 54, 55] (by decide +kernel) (by decide +kernel)
set_option maxRecDepth 20000 in
theorem gX4_someIsFollowedBy_X4_open : GoodIn wsX4_someIsFollowedBy (wsV RX4 51 RX4 yX4_open wsX4_open) := goodIn_app (goodIn_of _ (by decide +kernel)) ggX4_someIsFollowedBy_X4_open
set_option maxRecDepth 20000 in
theorem ggX4_someIsFollowedBy_X3_takeAll : GoodIn wsX4_someIsFollowedBy wsX3_takeAll := goodIn_r _ [14, 15, 16, 17, 18, 19, 20, 21, 22, 23, 24, 13, 25, 26, 27, 28, 29, 30, 31, 32, 33, 34, 35, 36, 37, 56, 57, 49, 50, 51, 52, 53, 54, 55] (by decide +kernel) (by decide +kernel)
set_option maxRecDepth 20000 in
theorem gX4_someIsFollowedBy_X3_takeAll : GoodIn wsX4_someIsFollowedBy (wsV RX4 61 RX3 yX3_takeAll wsX3_takeAll) := goodIn_app (goodIn_of _ (by decide +kernel)) ggX4_someIsFollowedBy_X3_takeAll
set_option maxRecDepth 20000 in
theorem ggX4_someIsFollowedBy_X4_grow : GoodIn wsX4_someIsFollowedBy wsX4_grow := goodIn_r _ [41, 42, 2, 1, 9, 4, 5, 6, 7, 8, 43, 28, 29, 13, 30, 31, 26, 32, 33, 34, 35, 36, 37, 44, 45, 46, 47, 48, 49, 50, 51, 52, 53, 54, 55] (by decide +kernel) (by decide +kernel)
set_option maxRecDepth 20000 in
theorem gX4_someIsFollowedBy_X4_grow : GoodIn wsX4_someIsFollowedBy (wsV RX4 65 RX4 yX4_grow wsX4_grow) := goodIn_app (goodIn_of _ (by decide +kernel)) ggX4_someIsFollowedBy_X4_grow
theorem dX4_someIsFollowedBy_0 : decode cX4_someIsFollowedBy 0 = .ok (.iconst 0, 1) := by decide +kernel
theorem dX4_someIsFollowedBy_1 : decode cX4_someIsFollowedBy 1 = .ok (.istore_n 2, 1) := by decide +kernel
theorem dX4_someIsFollowedBy_2 : decode cX4_someIsFollowedBy 2 = .ok (.iload_n 2, 1) := by decide +kernel
theorem dX4_someIsFollowedBy_3 : decode cX4_someIsFollowedBy 3 = .ok (.aload_n 0, 1) := by decide +kernel
theorem dX4_someIsFollowedBy_4 : decode cX4_someIsFollowedBy 4 = .ok (.getfield 38, 3) := by decide +kernel
theorem dX4_someIsFollowedBy_7 : decode cX4_someIsFollowedBy 7 = .ok (.if_icmp .ge 53, 3) := by decide +kernel
theorem dX4_someIsFollowedBy_10 : decode cX4_someIsFollowedBy 10 = .ok (.aload_n 0, 1) := by decide +kernel
theorem dX4_someIsFollowedBy_11 : decode cX4_someIsFollowedBy 11 = .ok (.iload_n 2, 1) := by decide +kernel
theorem dX4_someIsFollowedBy_12 : decode cX4_someIsFollowedBy 12 = .ok (.invokevirtual 51, 3) := by decide +kernel
theorem dX4_someIsFollowedBy_15 : decode cX4_someIsFollowedBy 15 = .ok (.ifCond .eq 16, 3) := by decide +kernel
theorem dX4_someIsFollowedBy_18 : decode cX4_someIsFollowedBy 18 = .ok (.aload_n 0, 1) := by decide +kernel
theorem dX4_someIsFollowedBy_19 : decode cX4_someIsFollowedBy 19 = .ok (.getfield 12, 3) := by decide +kernel
theorem dX4_someIsFollowedBy_22 : decode cX4_someIsFollowedBy 22 = .ok (.aload_n 1, 1) := by decide +kernel
theorem dX4_someIsFollowedBy_23 : decode cX4_someIsFollowedBy 23 = .ok (.invokevirtual 61, 3) := by decide +kernel
theorem dX4_someIsFollowedBy_26 : decode cX4_someIsFollowedBy 26 = .ok (.ifCond .eq 5, 3) := by decide +kernel
theorem dX4_someIsFollowedBy_29 : decode cX4_someIsFollowedBy 29 = .ok (.iconst 1, 1) := by decide +kernel
theorem dX4_someIsFollowedBy_30 : decode cX4_someIsFollowedBy 30 = .ok (.ireturn, 1) := by decide +kernel
theorem dX4_someIsFollowedBy_31 : decode cX4_someIsFollowedBy 31 = .ok (.iconst 0, 1) := by decide +kernel
theorem dX4_someIsFollowedBy_32 : decode cX4_someIsFollowedBy 32 = .ok (.istore_n 3, 1) := by decide +kernel
theorem dX4_someIsFollowedBy_33 : decode cX4_someIsFollowedBy 33 = .ok (.iload_n 3, 1) := by decide +kernel
theorem dX4_someIsFollowedBy_34 : decode cX4_someIsFollowedBy 34 = .ok (.aload_n 0, 1) := by decide +kernel
theorem dX4_someIsFollowedBy_35 : decode cX4_someIsFollowedBy 35 = .ok (.getfield 35, 3) := by decide +kernel
theorem dX4_someIsFollowedBy_38 : decode cX4_someIsFollowedBy 38 = .ok (.if_icmp .ge 16, 3) := by decide +kernel
theorem dX4_someIsFollowedBy_41 : decode cX4_someIsFollowedBy 41 = .ok (.aload_n 0, 1) := by decide +kernel
theorem dX4_someIsFollowedBy_42 : decode cX4_someIsFollowedBy 42 = .ok (.iload_n 2, 1) := by decide +kernel
theorem dX4_someIsFollowedBy_43 : decode cX4_someIsFollowedBy 43 = .ok (.iload_n 3, 1) := by decide +kernel
theorem dX4_someIsFollowedBy_44 : decode cX4_someIsFollowedBy 44 = .ok (.invokevirtual 65, 3) := by decide +kernel
theorem dX4_someIsFollowedBy_47 : decode cX4_someIsFollowedBy 47 = .ok (.pop, 1) := by decide +kernel
theorem dX4_someIsFollowedBy_48 : decode cX4_someIsFollowedBy 48 = .ok (.iinc 3 1, 3) := by decide +kernel
theorem dX4_someIsFollowedBy_51 : decode cX4_someIsFollowedBy 51 = .ok (.goto (-18), 3) := by decide +kernel
theorem dX4_someIsFollowedBy_54 : decode cX4_someIsFollowedBy 54 = .ok (.iinc 2 1, 3) := by decide +kernel
theorem dX4_someIsFollowedBy_57 : decode cX4_someIsFollowedBy 57 = .ok (.goto (-55), 3) := by decide +kernel
theorem dX4_someIsFollowedBy_60 : decode cX4_someIsFollowedBy 60 = .ok (.iconst 0, 1) := by decide +kernel
theorem dX4_someIsFollowedBy_61 : decode cX4_someIsFollowedBy 61 = .ok (.ireturn, 1) := by decide +kernel
theorem dX4_open_0 : decode cX4_open 0 = .ok (.iload_n 1, 1) := by decide +kernel
theorem dX4_open_1 : decode cX4_open 1 = .ok (.ifCond .lt 28, 3) := by decide +kernel
theorem dX4_open_4 : decode cX4_open 4 = .ok (.iload_n 1, 1) := by decide +kernel
theorem dX4_open_5 : decode cX4_open 5 = .ok (.aload_n 0, 1) := by decide +kernel
theorem dX4_open_6 : decode cX4_open 6 = .ok (.getfield 38, 3) := by decide +kernel
theorem dX4_open_9 : decode cX4_open 9 = .ok (.if_icmp .ge 20, 3) := by decide +kernel
theorem dX4_open_12 : decode cX4_open 12 = .ok (.iload_n 1, 1) := by decide +kernel
theorem dX4_open_13 : decode cX4_open 13 = .ok (.sipush 2304, 3) := by decide +kernel
theorem dX4_open_16 : decode cX4_open 16 = .ok (.if_icmp .ge 13, 3) := by decide +kernel
theorem dX4_open_19 : decode cX4_open 19 = .ok (.aload_n 0, 1) := by decide +kernel
theorem dX4_open_20 : decode cX4_open 20 = .ok (.getfield 18, 3) := by decide +kernel
theorem dX4_open_23 : decode cX4_open 23 = .ok (.iload_n 1, 1) := by decide +kernel
theorem dX4_open_24 : decode cX4_open 24 = .ok (.iaload, 1) := by decide +kernel
theorem dX4_open_25 : decode cX4_open 25 = .ok (.iconst (-1), 1) := by decide +kernel
theorem dX4_open_26 : decode cX4_open 26 = .ok (.if_icmp .ne 5, 3) := by decide +kernel
theorem dX4_open_29 : decode cX4_open 29 = .ok (.iconst 0, 1) := by decide +kernel
theorem dX4_open_30 : decode cX4_open 30 = .ok (.ireturn, 1) := by decide +kernel
theorem dX4_open_31 : decode cX4_open 31 = .ok (.aload_n 0, 1) := by decide +kernel
theorem dX4_open_32 : decode cX4_open 32 = .ok (.getfield 12, 3) := by decide +kernel
theorem dX4_open_35 : decode cX4_open 35 = .ok (.aload_n 0, 1) := by decide +kernel
theorem dX4_open_36 : decode cX4_open 36 = .ok (.getfield 18, 3) := by decide +kernel
theorem dX4_open_39 : decode cX4_open 39 = .ok (.iload_n 1, 1) := by decide +kernel
theorem dX4_open_40 : decode cX4_open 40 = .ok (.iaload, 1) := by decide +kernel
theorem dX4_open_41 : decode cX4_open 41 = .ok (.putfield 58, 3) := by decide +kernel
theorem dX4_open_44 : decode cX4_open 44 = .ok (.iconst 1, 1) := by decide +kernel
theorem dX4_open_45 : decode cX4_open 45 = .ok (.ireturn, 1) := by decide +kernel
theorem dX5_init_0 : decode cX5_init 0 = .ok (.aload_n 0, 1) := by decide +kernel
theorem dX5_init_1 : decode cX5_init 1 = .ok (.invokespecial 3, 3) := by decide +kernel
theorem dX5_init_4 : decode cX5_init 4 = .ok (.aload_n 0, 1) := by decide +kernel
theorem dX5_init_5 : decode cX5_init 5 = .ok (.bipush 36, 2) := by decide +kernel
theorem dX5_init_7 : decode cX5_init 7 = .ok (.newarray .int, 2) := by decide +kernel
theorem dX5_init_9 : decode cX5_init 9 = .ok (.putfield 9, 3) := by decide +kernel
theorem dX5_init_12 : decode cX5_init 12 = .ok (.aload_n 0, 1) := by decide +kernel
theorem dX5_init_13 : decode cX5_init 13 = .ok (.bipush 6, 2) := by decide +kernel
theorem dX5_init_15 : decode cX5_init 15 = .ok (.newarray .int, 2) := by decide +kernel
theorem dX5_init_17 : decode cX5_init 17 = .ok (.putfield 15, 3) := by decide +kernel
theorem dX5_init_20 : decode cX5_init 20 = .ok (.return_, 1) := by decide +kernel
theorem dX5_begin_0 : decode cX5_begin 0 = .ok (.aload_n 0, 1) := by decide +kernel
theorem dX5_begin_1 : decode cX5_begin 1 = .ok (.iload_n 1, 1) := by decide +kernel
theorem dX5_begin_2 : decode cX5_begin 2 = .ok (.putfield 18, 3) := by decide +kernel
theorem dX5_begin_5 : decode cX5_begin 5 = .ok (.aload_n 0, 1) := by decide +kernel
theorem dX5_begin_6 : decode cX5_begin 6 = .ok (.iconst 0, 1) := by decide +kernel
theorem dX5_begin_7 : decode cX5_begin 7 = .ok (.putfield 22, 3) := by decide +kernel
theorem dX5_begin_10 : decode cX5_begin 10 = .ok (.iconst 0, 1) := by decide +kernel
theorem dX5_begin_11 : decode cX5_begin 11 = .ok (.istore_n 2, 1) := by decide +kernel
theorem dX5_begin_12 : decode cX5_begin 12 = .ok (.iload_n 2, 1) := by decide +kernel
theorem dX5_begin_13 : decode cX5_begin 13 = .ok (.bipush 6, 2) := by decide +kernel
theorem dX5_begin_15 : decode cX5_begin 15 = .ok (.if_icmp .ge 35, 3) := by decide +kernel
theorem dX5_begin_18 : decode cX5_begin 18 = .ok (.iconst 0, 1) := by decide +kernel
theorem dX5_begin_19 : decode cX5_begin 19 = .ok (.istore_n 3, 1) := by decide +kernel
theorem dX5_begin_20 : decode cX5_begin 20 = .ok (.iload_n 3, 1) := by decide +kernel
theorem dX5_begin_21 : decode cX5_begin 21 = .ok (.bipush 6, 2) := by decide +kernel
theorem dX5_begin_23 : decode cX5_begin 23 = .ok (.if_icmp .ge 21, 3) := by decide +kernel
theorem dX5_begin_26 : decode cX5_begin 26 = .ok (.aload_n 0, 1) := by decide +kernel
theorem dX5_begin_27 : decode cX5_begin 27 = .ok (.getfield 9, 3) := by decide +kernel
theorem dX5_begin_30 : decode cX5_begin 30 = .ok (.iload_n 2, 1) := by decide +kernel
theorem dX5_begin_31 : decode cX5_begin 31 = .ok (.bipush 6, 2) := by decide +kernel
theorem dX5_begin_33 : decode cX5_begin 33 = .ok (.imul, 1) := by decide +kernel
theorem dX5_begin_34 : decode cX5_begin 34 = .ok (.iload_n 3, 1) := by decide +kernel
theorem dX5_begin_35 : decode cX5_begin 35 = .ok (.iadd, 1) := by decide +kernel
theorem dX5_begin_36 : decode cX5_begin 36 = .ok (.iload_n 2, 1) := by decide +kernel
theorem dX5_begin_37 : decode cX5_begin 37 = .ok (.iastore, 1) := by decide +kernel
theorem dX5_begin_38 : decode cX5_begin 38 = .ok (.iinc 3 1, 3) := by decide +kernel
theorem dX5_begin_41 : decode cX5_begin 41 = .ok (.goto (-21), 3) := by decide +kernel
theorem dX5_begin_44 : decode cX5_begin 44 = .ok (.iinc 2 1, 3) := by decide +kernel
theorem dX5_begin_47 : decode cX5_begin 47 = .ok (.goto (-35), 3) := by decide +kernel
theorem dX5_begin_50 : decode cX5_begin 50 = .ok (.return_, 1) := by decide +kernel
theorem dX5_become_0 : decode cX5_become 0 = .ok (.aload_n 0, 1) := by decide +kernel
theorem dX5_become_1 : decode cX5_become 1 = .ok (.aload_n 1, 1) := by decide +kernel
theorem dX5_become_2 : decode cX5_become 2 = .ok (.getfield 18, 3) := by decide +kernel
theorem dX5_become_5 : decode cX5_become 5 = .ok (.putfield 18, 3) := by decide +kernel
theorem dX5_become_8 : decode cX5_become 8 = .ok (.aload_n 0, 1) := by decide +kernel
theorem dX5_become_9 : decode cX5_become 9 = .ok (.aload_n 1, 1) := by decide +kernel
theorem dX5_become_10 : decode cX5_become 10 = .ok (.getfield 22, 3) := by decide +kernel
theorem dX5_become_13 : decode cX5_become 13 = .ok (.putfield 22, 3) := by decide +kernel
theorem dX5_become_16 : decode cX5_become 16 = .ok (.iconst 0, 1) := by decide +kernel
theorem dX5_become_17 : decode cX5_become 17 = .ok (.istore_n 2, 1) := by decide +kernel
theorem dX5_become_18 : decode cX5_become 18 = .ok (.iload_n 2, 1) := by decide +kernel
theorem dX5_become_19 : decode cX5_become 19 = .ok (.bipush 36, 2) := by decide +kernel
theorem dX5_become_21 : decode cX5_become 21 = .ok (.if_icmp .ge 21, 3) := by decide +kernel
theorem dX5_become_24 : decode cX5_become 24 = .ok (.aload_n 0, 1) := by decide +kernel
theorem dX5_become_25 : decode cX5_become 25 = .ok (.getfield 9, 3) := by decide +kernel
theorem dX5_become_28 : decode cX5_become 28 = .ok (.iload_n 2, 1) := by decide +kernel
theorem dX5_become_29 : decode cX5_become 29 = .ok (.aload_n 1, 1) := by decide +kernel
theorem dX5_become_30 : decode cX5_become 30 = .ok (.getfield 9, 3) := by decide +kernel
theorem dX5_become_33 : decode cX5_become 33 = .ok (.iload_n 2, 1) := by decide +kernel
theorem dX5_become_34 : decode cX5_become 34 = .ok (.iaload, 1) := by decide +kernel
theorem dX5_become_35 : decode cX5_become 35 = .ok (.iastore, 1) := by decide +kernel
theorem dX5_become_36 : decode cX5_become 36 = .ok (.iinc 2 1, 3) := by decide +kernel
theorem dX5_become_39 : decode cX5_become 39 = .ok (.goto (-21), 3) := by decide +kernel
theorem dX5_become_42 : decode cX5_become 42 = .ok (.return_, 1) := by decide +kernel
theorem dX5_has_0 : decode cX5_has 0 = .ok (.iload_n 1, 1) := by decide +kernel
theorem dX5_has_1 : decode cX5_has 1 = .ok (.ifCond .lt 21, 3) := by decide +kernel
theorem dX5_has_4 : decode cX5_has 4 = .ok (.iload_n 1, 1) := by decide +kernel
theorem dX5_has_5 : decode cX5_has 5 = .ok (.aload_n 0, 1) := by decide +kernel
theorem dX5_has_6 : decode cX5_has 6 = .ok (.getfield 18, 3) := by decide +kernel
theorem dX5_has_9 : decode cX5_has 9 = .ok (.if_icmp .ge 13, 3) := by decide +kernel
theorem dX5_has_12 : decode cX5_has 12 = .ok (.iload_n 1, 1) := by decide +kernel
theorem dX5_has_13 : decode cX5_has 13 = .ok (.bipush 6, 2) := by decide +kernel
theorem dX5_has_15 : decode cX5_has 15 = .ok (.if_icmp .ge 7, 3) := by decide +kernel
theorem dX5_has_18 : decode cX5_has 18 = .ok (.iconst 1, 1) := by decide +kernel
theorem dX5_has_19 : decode cX5_has 19 = .ok (.goto 4, 3) := by decide +kernel
theorem dX5_has_22 : decode cX5_has 22 = .ok (.iconst 0, 1) := by decide +kernel
theorem dX5_has_23 : decode cX5_has 23 = .ok (.ireturn, 1) := by decide +kernel
set_option maxRecDepth 20000 in
theorem ggX5_step_X5_has : GoodIn wsX5_step wsX5_has := goodIn_r _ [6, 7, 8, 9, 10, 11] (by decide +kernel) (by decide +kernel)
set_option maxRecDepth 20000 in
theorem gX5_step_X5_has : GoodIn wsX5_step (wsV RX5 25 RX5 yX5_has wsX5_has) := goodIn_app (goodIn_of _ (by decide +kernel)) ggX5_step_X5_has
theorem dX5_step_0 : decode cX5_step 0 = .ok (.aload_n 0, 1) := by decide +kernel
theorem dX5_step_1 : decode cX5_step 1 = .ok (.iload_n 1, 1) := by decide +kernel
theorem dX5_step_2 : decode cX5_step 2 = .ok (.invokevirtual 25, 3) := by decide +kernel
theorem dX5_step_5 : decode cX5_step 5 = .ok (.ifCond .eq 17, 3) := by decide +kernel
theorem dX5_step_8 : decode cX5_step 8 = .ok (.iload_n 2, 1) := by decide +kernel
theorem dX5_step_9 : decode cX5_step 9 = .ok (.ifCond .lt 13, 3) := by decide +kernel
theorem dX5_step_12 : decode cX5_step 12 = .ok (.iload_n 2, 1) := by decide +kernel
theorem dX5_step_13 : decode cX5_step 13 = .ok (.bipush 6, 2) := by decide +kernel
theorem dX5_step_15 : decode cX5_step 15 = .ok (.if_icmp .ge 7, 3) := by decide +kernel
theorem dX5_step_18 : decode cX5_step 18 = .ok (.iconst 1, 1) := by decide +kernel
theorem dX5_step_19 : decode cX5_step 19 = .ok (.goto 4, 3) := by decide +kernel
theorem dX5_step_22 : decode cX5_step 22 = .ok (.iconst 0, 1) := by decide +kernel
theorem dX5_step_23 : decode cX5_step 23 = .ok (.istore_n 3, 1) := by decide +kernel
theorem dX5_step_24 : decode cX5_step 24 = .ok (.iload_n 3, 1) := by decide +kernel
theorem dX5_step_25 : decode cX5_step 25 = .ok (.ifCond .eq 17, 3) := by decide +kernel
theorem dX5_step_28 : decode cX5_step 28 = .ok (.aload_n 0, 1) := by decide +kernel
theorem dX5_step_29 : decode cX5_step 29 = .ok (.getfield 9, 3) := by decide +kernel
theorem dX5_step_32 : decode cX5_step 32 = .ok (.iload_n 1, 1) := by decide +kernel
theorem dX5_step_33 : decode cX5_step 33 = .ok (.bipush 6, 2) := by decide +kernel
theorem dX5_step_35 : decode cX5_step 35 = .ok (.imul, 1) := by decide +kernel
theorem dX5_step_36 : decode cX5_step 36 = .ok (.iload_n 2, 1) := by decide +kernel
theorem dX5_step_37 : decode cX5_step 37 = .ok (.iadd, 1) := by decide +kernel
theorem dX5_step_38 : decode cX5_step 38 = .ok (.iaload, 1) := by decide +kernel
theorem dX5_step_39 : decode cX5_step 39 = .ok (.goto 4, 3) := by decide +kernel
theorem dX5_step_42 : decode cX5_step 42 = .ok (.iconst 0, 1) := by decide +kernel
theorem dX5_step_43 : decode cX5_step 43 = .ok (.ireturn, 1) := by decide +kernel
set_option maxRecDepth 20000 in
theorem ggX5_lead_X5_has : GoodIn wsX5_lead wsX5_has := goodIn_r _ [6, 7, 8, 9, 10, 11] (by decide +kernel) (by decide +kernel)
set_option maxRecDepth 20000 in
theorem gX5_lead_X5_has : GoodIn wsX5_lead (wsV RX5 25 RX5 yX5_has wsX5_has) := goodIn_app (goodIn_of _ (by decide +kernel)) ggX5_lead_X5_has
theorem dX5_lead_0 : decode cX5_lead 0 = .ok (.aload_n 0, 1) := by decide +kernel
theorem dX5_lead_1 : decode cX5_lead 1 = .ok (.iload_n 1, 1) := by decide +kernel
theorem dX5_lead_2 : decode cX5_lead 2 = .ok (.invokevirtual 25, 3) := by decide +kernel
theorem dX5_lead_5 : decode cX5_lead 5 = .ok (.ifCond .eq 33, 3) := by decide +kernel
theorem dX5_lead_8 : decode cX5_lead 8 = .ok (.iload_n 2, 1) := by decide +kernel
theorem dX5_lead_9 : decode cX5_lead 9 = .ok (.ifCond .lt 29, 3) := by decide +kernel
theorem dX5_lead_12 : decode cX5_lead 12 = .ok (.iload_n 2, 1) := by decide +kernel
theorem dX5_lead_13 : decode cX5_lead 13 = .ok (.bipush 6, 2) := by decide +kernel
theorem dX5_lead_15 : decode cX5_lead 15 = .ok (.if_icmp .ge 23, 3) := by decide +kernel
theorem dX5_lead_18 : decode cX5_lead 18 = .ok (.aload_n 0, 1) := by decide +kernel
theorem dX5_lead_19 : decode cX5_lead 19 = .ok (.iload_n 3, 1) := by decide +kernel
theorem dX5_lead_20 : decode cX5_lead 20 = .ok (.invokevirtual 25, 3) := by decide +kernel
theorem dX5_lead_23 : decode cX5_lead 23 = .ok (.ifCond .eq 15, 3) := by decide +kernel
theorem dX5_lead_26 : decode cX5_lead 26 = .ok (.aload_n 0, 1) := by decide +kernel
theorem dX5_lead_27 : decode cX5_lead 27 = .ok (.getfield 9, 3) := by decide +kernel
theorem dX5_lead_30 : decode cX5_lead 30 = .ok (.iload_n 1, 1) := by decide +kernel
theorem dX5_lead_31 : decode cX5_lead 31 = .ok (.bipush 6, 2) := by decide +kernel
theorem dX5_lead_33 : decode cX5_lead 33 = .ok (.imul, 1) := by decide +kernel
theorem dX5_lead_34 : decode cX5_lead 34 = .ok (.iload_n 2, 1) := by decide +kernel
theorem dX5_lead_35 : decode cX5_lead 35 = .ok (.iadd, 1) := by decide +kernel
theorem dX5_lead_36 : decode cX5_lead 36 = .ok (.iload_n 3, 1) := by decide +kernel
theorem dX5_lead_37 : decode cX5_lead 37 = .ok (.iastore, 1) := by decide +kernel
theorem dX5_lead_38 : decode cX5_lead 38 = .ok (.return_, 1) := by decide +kernel
set_option maxRecDepth 20000 in
theorem ggX5_accepts_X5_has : GoodIn wsX5_accepts wsX5_has := goodIn_r _ [6, 7, 8, 9, 10, 11] (by decide +kernel) (by decide +kernel)
set_option maxRecDepth 20000 in
theorem gX5_accepts_X5_has : GoodIn wsX5_accepts (wsV RX5 25 RX5 yX5_has wsX5_has) := goodIn_app (goodIn_of _ (by decide +kernel)) ggX5_accepts_X5_has
theorem dX5_accepts_0 : decode cX5_accepts 0 = .ok (.aload_n 0, 1) := by decide +kernel
theorem dX5_accepts_1 : decode cX5_accepts 1 = .ok (.iload_n 1, 1) := by decide +kernel
theorem dX5_accepts_2 : decode cX5_accepts 2 = .ok (.invokevirtual 25, 3) := by decide +kernel
theorem dX5_accepts_5 : decode cX5_accepts 5 = .ok (.ifCond .eq 18, 3) := by decide +kernel
theorem dX5_accepts_8 : decode cX5_accepts 8 = .ok (.aload_n 0, 1) := by decide +kernel
theorem dX5_accepts_9 : decode cX5_accepts 9 = .ok (.getfield 22, 3) := by decide +kernel
theorem dX5_accepts_12 : decode cX5_accepts 12 = .ok (.iload_n 1, 1) := by decide +kernel
theorem dX5_accepts_13 : decode cX5_accepts 13 = .ok (.ishr, 1) := by decide +kernel
theorem dX5_accepts_14 : decode cX5_accepts 14 = .ok (.iconst 1, 1) := by decide +kernel
theorem dX5_accepts_15 : decode cX5_accepts 15 = .ok (.iand, 1) := by decide +kernel
theorem dX5_accepts_16 : decode cX5_accepts 16 = .ok (.ifCond .eq 7, 3) := by decide +kernel
theorem dX5_accepts_19 : decode cX5_accepts 19 = .ok (.iconst 1, 1) := by decide +kernel
theorem dX5_accepts_20 : decode cX5_accepts 20 = .ok (.goto 4, 3) := by decide +kernel
theorem dX5_accepts_23 : decode cX5_accepts 23 = .ok (.iconst 0, 1) := by decide +kernel
theorem dX5_accepts_24 : decode cX5_accepts 24 = .ok (.ireturn, 1) := by decide +kernel
set_option maxRecDepth 20000 in
theorem ggX5_mark_X5_has : GoodIn wsX5_mark wsX5_has := goodIn_r _ [6, 7, 8, 9, 10, 11] (by decide +kernel) (by decide +kernel)
set_option maxRecDepth 20000 in
theorem gX5_mark_X5_has : GoodIn wsX5_mark (wsV RX5 25 RX5 yX5_has wsX5_has) := goodIn_app (goodIn_of _ (by decide +kernel)) ggX5_mark_X5_has
theorem dX5_mark_0 : decode cX5_mark 0 = .ok (.aload_n 0, 1) := by decide +kernel
theorem dX5_mark_1 : decode cX5_mark 1 = .ok (.iload_n 1, 1) := by decide +kernel
theorem dX5_mark_2 : decode cX5_mark 2 = .ok (.invokevirtual 25, 3) := by decide +kernel
theorem dX5_mark_5 : decode cX5_mark 5 = .ok (.ifCond .ne 4, 3) := by decide +kernel
theorem dX5_mark_8 : decode cX5_mark 8 = .ok (.return_, 1) := by decide +kernel
theorem dX5_mark_9 : decode cX5_mark 9 = .ok (.aload_n 0, 1) := by decide +kernel
theorem dX5_mark_10 : decode cX5_mark 10 = .ok (.iload_n 2, 1) := by decide +kernel
theorem dX5_mark_11 : decode cX5_mark 11 = .ok (.ifCond .eq 14, 3) := by decide +kernel
theorem dX5_mark_14 : decode cX5_mark 14 = .ok (.aload_n 0, 1) := by decide +kernel
theorem dX5_mark_15 : decode cX5_mark 15 = .ok (.getfield 22, 3) := by decide +kernel
theorem dX5_mark_18 : decode cX5_mark 18 = .ok (.iconst 1, 1) := by decide +kernel
theorem dX5_mark_19 : decode cX5_mark 19 = .ok (.iload_n 1, 1) := by decide +kernel
theorem dX5_mark_20 : decode cX5_mark 20 = .ok (.ishl, 1) := by decide +kernel
theorem dX5_mark_21 : decode cX5_mark 21 = .ok (.ior, 1) := by decide +kernel
theorem dX5_mark_22 : decode cX5_mark 22 = .ok (.goto 13, 3) := by decide +kernel
theorem dX5_mark_25 : decode cX5_mark 25 = .ok (.aload_n 0, 1) := by decide +kernel
theorem dX5_mark_26 : decode cX5_mark 26 = .ok (.getfield 22, 3) := by decide +kernel
theorem dX5_mark_29 : decode cX5_mark 29 = .ok (.iconst 1, 1) := by decide +kernel
theorem dX5_mark_30 : decode cX5_mark 30 = .ok (.iload_n 1, 1) := by decide +kernel
theorem dX5_mark_31 : decode cX5_mark 31 = .ok (.ishl, 1) := by decide +kernel
theorem dX5_mark_32 : decode cX5_mark 32 = .ok (.iconst (-1), 1) := by decide +kernel
theorem dX5_mark_33 : decode cX5_mark 33 = .ok (.ixor, 1) := by decide +kernel
theorem dX5_mark_34 : decode cX5_mark 34 = .ok (.iand, 1) := by decide +kernel
theorem dX5_mark_35 : decode cX5_mark 35 = .ok (.putfield 22, 3) := by decide +kernel
theorem dX5_mark_38 : decode cX5_mark 38 = .ok (.return_, 1) := by decide +kernel
set_option maxRecDepth 20000 in
theorem ggX5_findBroken_X0_areFree : GoodIn wsX5_findBroken wsX0_areFree := goodIn_r _ [6, 7, 8, 9, 5, 10, 11, 12, 13, 14, 15, 16, 35, 36] (by decide +kernel) (by decide +kernel)
set_option maxRecDepth 20000 in
theorem gX5_findBroken_X0_areFree : GoodIn wsX5_findBroken (wsV RX5 34 RX0 yX0_areFree wsX0_areFree) := goodIn_app (goodIn_of _ (by decide +kernel)) ggX5_findBroken_X0_areFree
set_option maxRecDepth 20000 in
theorem ggX5_findBroken_X5_stepTwice : GoodIn wsX5_findBroken wsX5_stepTwice := goodIn_r _ [21, 22, 23, 24, 20, 25, 26, 27, 28, 29, 30, 1, 31, 32, 33, 34] (by decide +kernel) (by decide +kernel)
set_option maxRecDepth 20000 in
theorem gX5_findBroken_X5_stepTwice : GoodIn wsX5_findBroken (wsV RX5 38 RX5 yX5_stepTwice wsX5_stepTwice) := goodIn_app (goodIn_of _ (by decide +kernel)) ggX5_findBroken_X5_stepTwice
theorem dX5_findBroken_0 : decode cX5_findBroken 0 = .ok (.iconst 0, 1) := by decide +kernel
theorem dX5_findBroken_1 : decode cX5_findBroken 1 = .ok (.istore_n 2, 1) := by decide +kernel
theorem dX5_findBroken_2 : decode cX5_findBroken 2 = .ok (.iload_n 2, 1) := by decide +kernel
theorem dX5_findBroken_3 : decode cX5_findBroken 3 = .ok (.aload_n 0, 1) := by decide +kernel
theorem dX5_findBroken_4 : decode cX5_findBroken 4 = .ok (.getfield 18, 3) := by decide +kernel
theorem dX5_findBroken_7 : decode cX5_findBroken 7 = .ok (.if_icmp .ge 87, 3) := by decide +kernel
theorem dX5_findBroken_10 : decode cX5_findBroken 10 = .ok (.iconst 0, 1) := by decide +kernel
theorem dX5_findBroken_11 : decode cX5_findBroken 11 = .ok (.istore_n 3, 1) := by decide +kernel
theorem dX5_findBroken_12 : decode cX5_findBroken 12 = .ok (.iload_n 3, 1) := by decide +kernel
theorem dX5_findBroken_13 : decode cX5_findBroken 13 = .ok (.aload_n 1, 1) := by decide +kernel
theorem dX5_findBroken_14 : decode cX5_findBroken 14 = .ok (.getfield 29, 3) := by decide +kernel
theorem dX5_findBroken_17 : decode cX5_findBroken 17 = .ok (.if_icmp .ge 71, 3) := by decide +kernel
theorem dX5_findBroken_20 : decode cX5_findBroken 20 = .ok (.iload_n 3, 1) := by decide +kernel
theorem dX5_findBroken_21 : decode cX5_findBroken 21 = .ok (.iconst 1, 1) := by decide +kernel
theorem dX5_findBroken_22 : decode cX5_findBroken 22 = .ok (.iadd, 1) := by decide +kernel
theorem dX5_findBroken_23 : decode cX5_findBroken 23 = .ok (.istore 4, 2) := by decide +kernel
theorem dX5_findBroken_25 : decode cX5_findBroken 25 = .ok (.iload 4, 2) := by decide +kernel
theorem dX5_findBroken_27 : decode cX5_findBroken 27 = .ok (.aload_n 1, 1) := by decide +kernel
theorem dX5_findBroken_28 : decode cX5_findBroken 28 = .ok (.getfield 29, 3) := by decide +kernel
theorem dX5_findBroken_31 : decode cX5_findBroken 31 = .ok (.if_icmp .ge 51, 3) := by decide +kernel
theorem dX5_findBroken_34 : decode cX5_findBroken 34 = .ok (.aload_n 1, 1) := by decide +kernel
theorem dX5_findBroken_35 : decode cX5_findBroken 35 = .ok (.iload_n 3, 1) := by decide +kernel
theorem dX5_findBroken_36 : decode cX5_findBroken 36 = .ok (.iload 4, 2) := by decide +kernel
theorem dX5_findBroken_38 : decode cX5_findBroken 38 = .ok (.invokevirtual 34, 3) := by decide +kernel
theorem dX5_findBroken_41 : decode cX5_findBroken 41 = .ok (.ifCond .eq 35, 3) := by decide +kernel
theorem dX5_findBroken_44 : decode cX5_findBroken 44 = .ok (.aload_n 0, 1) := by decide +kernel
theorem dX5_findBroken_45 : decode cX5_findBroken 45 = .ok (.iload_n 2, 1) := by decide +kernel
theorem dX5_findBroken_46 : decode cX5_findBroken 46 = .ok (.iload_n 3, 1) := by decide +kernel
theorem dX5_findBroken_47 : decode cX5_findBroken 47 = .ok (.iload 4, 2) := by decide +kernel
theorem dX5_findBroken_49 : decode cX5_findBroken 49 = .ok (.invokevirtual 38, 3) := by decide +kernel
theorem dX5_findBroken_52 : decode cX5_findBroken 52 = .ok (.aload_n 0, 1) := by decide +kernel
theorem dX5_findBroken_53 : decode cX5_findBroken 53 = .ok (.iload_n 2, 1) := by decide +kernel
theorem dX5_findBroken_54 : decode cX5_findBroken 54 = .ok (.iload 4, 2) := by decide +kernel
theorem dX5_findBroken_56 : decode cX5_findBroken 56 = .ok (.iload_n 3, 1) := by decide +kernel
theorem dX5_findBroken_57 : decode cX5_findBroken 57 = .ok (.invokevirtual 38, 3) := by decide +kernel
theorem dX5_findBroken_60 : decode cX5_findBroken 60 = .ok (.if_icmp .eq 16, 3) := by decide +kernel
theorem dX5_findBroken_63 : decode cX5_findBroken 63 = .ok (.bipush 100, 2) := by decide +kernel
theorem dX5_findBroken_65 : decode cX5_findBroken 65 = .ok (.iload_n 2, 1) := by decide +kernel
theorem dX5_findBroken_66 : decode cX5_findBroken 66 = .ok (.imul, 1) := by decide +kernel
theorem dX5_findBroken_67 : decode cX5_findBroken 67 = .ok (.bipush 10, 2) := by decide +kernel
theorem dX5_findBroken_69 : decode cX5_findBroken 69 = .ok (.iload_n 3, 1) := by decide +kernel
theorem dX5_findBroken_70 : decode cX5_findBroken 70 = .ok (.imul, 1) := by decide +kernel
theorem dX5_findBroken_71 : decode cX5_findBroken 71 = .ok (.iadd, 1) := by decide +kernel
theorem dX5_findBroken_72 : decode cX5_findBroken 72 = .ok (.iload 4, 2) := by decide +kernel
theorem dX5_findBroken_74 : decode cX5_findBroken 74 = .ok (.iadd, 1) := by decide +kernel
theorem dX5_findBroken_75 : decode cX5_findBroken 75 = .ok (.ireturn, 1) := by decide +kernel
theorem dX5_findBroken_76 : decode cX5_findBroken 76 = .ok (.iinc 4 1, 3) := by decide +kernel
theorem dX5_findBroken_79 : decode cX5_findBroken 79 = .ok (.goto (-54), 3) := by decide +kernel
theorem dX5_findBroken_82 : decode cX5_findBroken 82 = .ok (.iinc 3 1, 3) := by decide +kernel
theorem dX5_findBroken_85 : decode cX5_findBroken 85 = .ok (.goto (-73), 3) := by decide +kernel
theorem dX5_findBroken_88 : decode cX5_findBroken 88 = .ok (.iinc 2 1, 3) := by decide +kernel
theorem dX5_findBroken_91 : decode cX5_findBroken 91 = .ok (.goto (-89), 3) := by decide +kernel
theorem dX5_findBroken_94 : decode cX5_findBroken 94 = .ok (.bipush (-5), 2) := by decide +kernel
theorem dX5_findBroken_96 : decode cX5_findBroken 96 = .ok (.ireturn, 1) := by decide +kernel
set_option maxRecDepth 20000 in
theorem ggX5_isClosed_X5_findReached : GoodIn wsX5_isClosed wsX5_findReached := goodIn_r _ [6, 1, 7, 8, 9, 5, 10, 11, 12, 13, 14, 15, 59, 60, 61, 62] (by decide +kernel) (by decide +kernel)
set_option maxRecDepth 20000 in
theorem gX5_isClosed_X5_findReached : GoodIn wsX5_isClosed (wsV RX5 42 RX5 yX5_findReached wsX5_findReached) := goodIn_app (goodIn_of _ (by decide +kernel)) ggX5_isClosed_X5_findReached
set_option maxRecDepth 20000 in
theorem ggX5_isClosed_X5_tellApart : GoodIn wsX5_isClosed wsX5_tellApart := goodIn_r _ [19, 20, 21, 1, 22, 23, 24, 5, 25, 12, 13, 14, 15, 26, 27, 28, 29, 7, 8, 9, 10, 11, 30, 31, 32, 33, 59, 60, 61, 62] (by decide +kernel) (by decide +kernel)
set_option maxRecDepth 20000 in
theorem gX5_isClosed_X5_tellApart : GoodIn wsX5_isClosed (wsV RX5 46 RX5 yX5_tellApart wsX5_tellApart) := goodIn_app (goodIn_of _ (by decide +kernel)) ggX5_isClosed_X5_tellApart
set_option maxRecDepth 20000 in
theorem ggX5_isClosed_X5_endsAlike : GoodIn wsX5_isClosed wsX5_endsAlike := goodIn_r _ [37, 38, 39, 40, 41, 42, 43, 44, 45, 46, 47, 48, 49, 50, 51, 52, 53, 54, 55, 5, 56, 7, 8, 9, 10, 11, 12, 13, 14, 15, 1, 30, 31, 32, 33, 20, 57, 58, 59, 60, 61, 62] (by decide +kernel) (by decide +kernel)
set_option maxRecDepth 20000 in
theorem gX5_isClosed_X5_endsAlike : GoodIn wsX5_isClosed (wsV RX5 50 RX5 yX5_endsAlike wsX5_endsAlike) := goodIn_app (goodIn_of _ (by decide +kernel)) ggX5_isClosed_X5_endsAlike
theorem dX5_isClosed_0 : decode cX5_isClosed 0 = .ok (.aload_n 0, 1) := by decide +kernel
theorem dX5_isClosed_1 : decode cX5_isClosed 1 = .ok (.aload_n 1, 1) := by decide +kernel
theorem dX5_isClosed_2 : decode cX5_isClosed 2 = .ok (.getfield 29, 3) := by decide +kernel
theorem dX5_isClosed_5 : decode cX5_isClosed 5 = .ok (.invokevirtual 42, 3) := by decide +kernel
theorem dX5_isClosed_8 : decode cX5_isClosed 8 = .ok (.istore_n 2, 1) := by decide +kernel
theorem dX5_isClosed_9 : decode cX5_isClosed 9 = .ok (.aload_n 0, 1) := by decide +kernel
theorem dX5_isClosed_10 : decode cX5_isClosed 10 = .ok (.aload_n 1, 1) := by decide +kernel
theorem dX5_isClosed_11 : decode cX5_isClosed 11 = .ok (.getfield 29, 3) := by decide +kernel
theorem dX5_isClosed_14 : decode cX5_isClosed 14 = .ok (.invokevirtual 46, 3) := by decide +kernel
theorem dX5_isClosed_17 : decode cX5_isClosed 17 = .ok (.iconst 0, 1) := by decide +kernel
theorem dX5_isClosed_18 : decode cX5_isClosed 18 = .ok (.istore_n 3, 1) := by decide +kernel
theorem dX5_isClosed_19 : decode cX5_isClosed 19 = .ok (.iload_n 3, 1) := by decide +kernel
theorem dX5_isClosed_20 : decode cX5_isClosed 20 = .ok (.aload_n 0, 1) := by decide +kernel
theorem dX5_isClosed_21 : decode cX5_isClosed 21 = .ok (.getfield 18, 3) := by decide +kernel
theorem dX5_isClosed_24 : decode cX5_isClosed 24 = .ok (.if_icmp .ge 28, 3) := by decide +kernel
theorem dX5_isClosed_27 : decode cX5_isClosed 27 = .ok (.iload_n 2, 1) := by decide +kernel
theorem dX5_isClosed_28 : decode cX5_isClosed 28 = .ok (.iload_n 3, 1) := by decide +kernel
theorem dX5_isClosed_29 : decode cX5_isClosed 29 = .ok (.ishr, 1) := by decide +kernel
theorem dX5_isClosed_30 : decode cX5_isClosed 30 = .ok (.iconst 1, 1) := by decide +kernel
theorem dX5_isClosed_31 : decode cX5_isClosed 31 = .ok (.iand, 1) := by decide +kernel
theorem dX5_isClosed_32 : decode cX5_isClosed 32 = .ok (.ifCond .eq 14, 3) := by decide +kernel
theorem dX5_isClosed_35 : decode cX5_isClosed 35 = .ok (.aload_n 0, 1) := by decide +kernel
theorem dX5_isClosed_36 : decode cX5_isClosed 36 = .ok (.iload_n 3, 1) := by decide +kernel
theorem dX5_isClosed_37 : decode cX5_isClosed 37 = .ok (.aload_n 1, 1) := by decide +kernel
theorem dX5_isClosed_38 : decode cX5_isClosed 38 = .ok (.invokevirtual 50, 3) := by decide +kernel
theorem dX5_isClosed_41 : decode cX5_isClosed 41 = .ok (.ifCond .ne 5, 3) := by decide +kernel
theorem dX5_isClosed_44 : decode cX5_isClosed 44 = .ok (.iconst 0, 1) := by decide +kernel
theorem dX5_isClosed_45 : decode cX5_isClosed 45 = .ok (.ireturn, 1) := by decide +kernel
theorem dX5_isClosed_46 : decode cX5_isClosed 46 = .ok (.iinc 3 1, 3) := by decide +kernel
theorem dX5_isClosed_49 : decode cX5_isClosed 49 = .ok (.goto (-30), 3) := by decide +kernel
theorem dX5_isClosed_52 : decode cX5_isClosed 52 = .ok (.iconst 1, 1) := by decide +kernel
theorem dX5_isClosed_53 : decode cX5_isClosed 53 = .ok (.ireturn, 1) := by decide +kernel
set_option maxRecDepth 20000 in
theorem ggX5_endsAlike_X0_areFree : GoodIn wsX5_endsAlike wsX0_areFree := goodIn_r _ [5, 6, 7, 8, 4, 9, 10, 11, 12, 13, 14, 15, 36, 37] (by decide +kernel) (by decide +kernel)
set_option maxRecDepth 20000 in
theorem gX5_endsAlike_X0_areFree : GoodIn wsX5_endsAlike (wsV RX5 34 RX0 yX0_areFree wsX0_areFree) := goodIn_app (goodIn_of _ (by decide +kernel)) ggX5_endsAlike_X0_areFree
set_option maxRecDepth 20000 in
theorem ggX5_endsAlike_X5_stepTwice : GoodIn wsX5_endsAlike wsX5_stepTwice := goodIn_r _ [20, 21, 22, 23, 19, 24, 25, 26, 27, 28, 29, 30, 38, 39, 40, 41] (by decide +kernel) (by decide +kernel)
set_option maxRecDepth 20000 in
theorem gX5_endsAlike_X5_stepTwice : GoodIn wsX5_endsAlike (wsV RX5 38 RX5 yX5_stepTwice wsX5_stepTwice) := goodIn_app (goodIn_of _ (by decide +kernel)) ggX5_endsAlike_X5_stepTwice
set_option maxRecDepth 20000 in
theorem ggX5_endsAlike_X5_areApart : GoodIn wsX5_endsAlike wsX5_areApart := goodIn_r _ [34, 35, 26, 27, 28, 19, 29, 30, 38, 39, 40, 41] (by decide +kernel) (by decide +kernel)
set_option maxRecDepth 20000 in
theorem gX5_endsAlike_X5_areApart : GoodIn wsX5_endsAlike (wsV RX5 54 RX5 yX5_areApart wsX5_areApart) := goodIn_app (goodIn_of _ (by decide +kernel)) ggX5_endsAlike_X5_areApart
theorem dX5_endsAlike_0 : decode cX5_endsAlike 0 = .ok (.iconst 0, 1) := by decide +kernel
theorem dX5_endsAlike_1 : decode cX5_endsAlike 1 = .ok (.istore_n 3, 1) := by decide +kernel
theorem dX5_endsAlike_2 : decode cX5_endsAlike 2 = .ok (.iload_n 3, 1) := by decide +kernel
theorem dX5_endsAlike_3 : decode cX5_endsAlike 3 = .ok (.aload_n 2, 1) := by decide +kernel
theorem dX5_endsAlike_4 : decode cX5_endsAlike 4 = .ok (.getfield 29, 3) := by decide +kernel
theorem dX5_endsAlike_7 : decode cX5_endsAlike 7 = .ok (.if_icmp .ge 64, 3) := by decide +kernel
theorem dX5_endsAlike_10 : decode cX5_endsAlike 10 = .ok (.iload_n 3, 1) := by decide +kernel
theorem dX5_endsAlike_11 : decode cX5_endsAlike 11 = .ok (.iconst 1, 1) := by decide +kernel
theorem dX5_endsAlike_12 : decode cX5_endsAlike 12 = .ok (.iadd, 1) := by decide +kernel
theorem dX5_endsAlike_13 : decode cX5_endsAlike 13 = .ok (.istore 4, 2) := by decide +kernel
theorem dX5_endsAlike_15 : decode cX5_endsAlike 15 = .ok (.iload 4, 2) := by decide +kernel
theorem dX5_endsAlike_17 : decode cX5_endsAlike 17 = .ok (.aload_n 2, 1) := by decide +kernel
theorem dX5_endsAlike_18 : decode cX5_endsAlike 18 = .ok (.getfield 29, 3) := by decide +kernel
theorem dX5_endsAlike_21 : decode cX5_endsAlike 21 = .ok (.if_icmp .ge 44, 3) := by decide +kernel
theorem dX5_endsAlike_24 : decode cX5_endsAlike 24 = .ok (.aload_n 2, 1) := by decide +kernel
theorem dX5_endsAlike_25 : decode cX5_endsAlike 25 = .ok (.iload_n 3, 1) := by decide +kernel
theorem dX5_endsAlike_26 : decode cX5_endsAlike 26 = .ok (.iload 4, 2) := by decide +kernel
theorem dX5_endsAlike_28 : decode cX5_endsAlike 28 = .ok (.invokevirtual 34, 3) := by decide +kernel
theorem dX5_endsAlike_31 : decode cX5_endsAlike 31 = .ok (.ifCond .eq 28, 3) := by decide +kernel
theorem dX5_endsAlike_34 : decode cX5_endsAlike 34 = .ok (.aload_n 0, 1) := by decide +kernel
theorem dX5_endsAlike_35 : decode cX5_endsAlike 35 = .ok (.aload_n 0, 1) := by decide +kernel
theorem dX5_endsAlike_36 : decode cX5_endsAlike 36 = .ok (.iload_n 1, 1) := by decide +kernel
theorem dX5_endsAlike_37 : decode cX5_endsAlike 37 = .ok (.iload_n 3, 1) := by decide +kernel
theorem dX5_endsAlike_38 : decode cX5_endsAlike 38 = .ok (.iload 4, 2) := by decide +kernel
theorem dX5_endsAlike_40 : decode cX5_endsAlike 40 = .ok (.invokevirtual 38, 3) := by decide +kernel
theorem dX5_endsAlike_43 : decode cX5_endsAlike 43 = .ok (.aload_n 0, 1) := by decide +kernel
theorem dX5_endsAlike_44 : decode cX5_endsAlike 44 = .ok (.iload_n 1, 1) := by decide +kernel
theorem dX5_endsAlike_45 : decode cX5_endsAlike 45 = .ok (.iload 4, 2) := by decide +kernel
theorem dX5_endsAlike_47 : decode cX5_endsAlike 47 = .ok (.iload_n 3, 1) := by decide +kernel
theorem dX5_endsAlike_48 : decode cX5_endsAlike 48 = .ok (.invokevirtual 38, 3) := by decide +kernel
theorem dX5_endsAlike_51 : decode cX5_endsAlike 51 = .ok (.invokevirtual 54, 3) := by decide +kernel
theorem dX5_endsAlike_54 : decode cX5_endsAlike 54 = .ok (.ifCond .eq 5, 3) := by decide +kernel
theorem dX5_endsAlike_57 : decode cX5_endsAlike 57 = .ok (.iconst 0, 1) := by decide +kernel
theorem dX5_endsAlike_58 : decode cX5_endsAlike 58 = .ok (.ireturn, 1) := by decide +kernel
theorem dX5_endsAlike_59 : decode cX5_endsAlike 59 = .ok (.iinc 4 1, 3) := by decide +kernel
theorem dX5_endsAlike_62 : decode cX5_endsAlike 62 = .ok (.goto (-47), 3) := by decide +kernel
theorem dX5_endsAlike_65 : decode cX5_endsAlike 65 = .ok (.iinc 3 1, 3) := by decide +kernel
theorem dX5_endsAlike_68 : decode cX5_endsAlike 68 = .ok (.goto (-66), 3) := by decide +kernel
theorem dX5_endsAlike_71 : decode cX5_endsAlike 71 = .ok (.iconst 1, 1) := by decide +kernel
theorem dX5_endsAlike_72 : decode cX5_endsAlike 72 = .ok (.ireturn, 1) := by decide +kernel
set_option maxRecDepth 20000 in
theorem ggX5_stepTwice_X5_step : GoodIn wsX5_stepTwice wsX5_step := goodIn_r _ [5, 6, 7, 8, 9, 4, 10, 11, 12, 13, 14, 15] (by decide +kernel) (by decide +kernel)
set_option maxRecDepth 20000 in
theorem gX5_stepTwice_X5_step : GoodIn wsX5_stepTwice (wsV RX5 57 RX5 yX5_step wsX5_step) := goodIn_app (goodIn_of _ (by decide +kernel)) ggX5_stepTwice_X5_step
theorem dX5_stepTwice_0 : decode cX5_stepTwice 0 = .ok (.aload_n 0, 1) := by decide +kernel
theorem dX5_stepTwice_1 : decode cX5_stepTwice 1 = .ok (.aload_n 0, 1) := by decide +kernel
theorem dX5_stepTwice_2 : decode cX5_stepTwice 2 = .ok (.iload_n 1, 1) := by decide +kernel
theorem dX5_stepTwice_3 : decode cX5_stepTwice 3 = .ok (.iload_n 2, 1) := by decide +kernel
theorem dX5_stepTwice_4 : decode cX5_stepTwice 4 = .ok (.invokevirtual 57, 3) := by decide +kernel
theorem dX5_stepTwice_7 : decode cX5_stepTwice 7 = .ok (.iload_n 3, 1) := by decide +kernel
theorem dX5_stepTwice_8 : decode cX5_stepTwice 8 = .ok (.invokevirtual 57, 3) := by decide +kernel
theorem dX5_stepTwice_11 : decode cX5_stepTwice 11 = .ok (.ireturn, 1) := by decide +kernel
set_option maxRecDepth 20000 in
theorem ggX5_findReached_X5_step : GoodIn wsX5_findReached wsX5_step := goodIn_r _ [6, 7, 8, 9, 10, 5, 11, 1, 12, 13, 14, 15] (by decide +kernel) (by decide +kernel)
set_option maxRecDepth 20000 in
theorem gX5_findReached_X5_step : GoodIn wsX5_findReached (wsV RX5 57 RX5 yX5_step wsX5_step) := goodIn_app (goodIn_of _ (by decide +kernel)) ggX5_findReached_X5_step
theorem dX5_findReached_0 : decode cX5_findReached 0 = .ok (.iconst 1, 1) := by decide +kernel
theorem dX5_findReached_1 : decode cX5_findReached 1 = .ok (.istore_n 2, 1) := by decide +kernel
theorem dX5_findReached_2 : decode cX5_findReached 2 = .ok (.iconst 0, 1) := by decide +kernel
theorem dX5_findReached_3 : decode cX5_findReached 3 = .ok (.istore_n 3, 1) := by decide +kernel
theorem dX5_findReached_4 : decode cX5_findReached 4 = .ok (.iload_n 3, 1) := by decide +kernel
theorem dX5_findReached_5 : decode cX5_findReached 5 = .ok (.aload_n 0, 1) := by decide +kernel
theorem dX5_findReached_6 : decode cX5_findReached 6 = .ok (.getfield 18, 3) := by decide +kernel
theorem dX5_findReached_9 : decode cX5_findReached 9 = .ok (.if_icmp .ge 64, 3) := by decide +kernel
theorem dX5_findReached_12 : decode cX5_findReached 12 = .ok (.iconst 0, 1) := by decide +kernel
theorem dX5_findReached_13 : decode cX5_findReached 13 = .ok (.istore 4, 2) := by decide +kernel
theorem dX5_findReached_15 : decode cX5_findReached 15 = .ok (.iload 4, 2) := by decide +kernel
theorem dX5_findReached_17 : decode cX5_findReached 17 = .ok (.aload_n 0, 1) := by decide +kernel
theorem dX5_findReached_18 : decode cX5_findReached 18 = .ok (.getfield 18, 3) := by decide +kernel
theorem dX5_findReached_21 : decode cX5_findReached 21 = .ok (.if_icmp .ge 46, 3) := by decide +kernel
theorem dX5_findReached_24 : decode cX5_findReached 24 = .ok (.iconst 0, 1) := by decide +kernel
theorem dX5_findReached_25 : decode cX5_findReached 25 = .ok (.istore 5, 2) := by decide +kernel
theorem dX5_findReached_27 : decode cX5_findReached 27 = .ok (.iload 5, 2) := by decide +kernel
theorem dX5_findReached_29 : decode cX5_findReached 29 = .ok (.iload_n 1, 1) := by decide +kernel
theorem dX5_findReached_30 : decode cX5_findReached 30 = .ok (.if_icmp .ge 31, 3) := by decide +kernel
theorem dX5_findReached_33 : decode cX5_findReached 33 = .ok (.iload_n 2, 1) := by decide +kernel
theorem dX5_findReached_34 : decode cX5_findReached 34 = .ok (.iload 4, 2) := by decide +kernel
theorem dX5_findReached_36 : decode cX5_findReached 36 = .ok (.ishr, 1) := by decide +kernel
theorem dX5_findReached_37 : decode cX5_findReached 37 = .ok (.iconst 1, 1) := by decide +kernel
theorem dX5_findReached_38 : decode cX5_findReached 38 = .ok (.iand, 1) := by decide +kernel
theorem dX5_findReached_39 : decode cX5_findReached 39 = .ok (.ifCond .eq 22, 3) := by decide +kernel
theorem dX5_findReached_42 : decode cX5_findReached 42 = .ok (.iload_n 2, 1) := by decide +kernel
theorem dX5_findReached_43 : decode cX5_findReached 43 = .ok (.iconst 1, 1) := by decide +kernel
theorem dX5_findReached_44 : decode cX5_findReached 44 = .ok (.aload_n 0, 1) := by decide +kernel
theorem dX5_findReached_45 : decode cX5_findReached 45 = .ok (.iload 4, 2) := by decide +kernel
theorem dX5_findReached_47 : decode cX5_findReached 47 = .ok (.iload 5, 2) := by decide +kernel
theorem dX5_findReached_49 : decode cX5_findReached 49 = .ok (.invokevirtual 57, 3) := by decide +kernel
theorem dX5_findReached_52 : decode cX5_findReached 52 = .ok (.ishl, 1) := by decide +kernel
theorem dX5_findReached_53 : decode cX5_findReached 53 = .ok (.ior, 1) := by decide +kernel
theorem dX5_findReached_54 : decode cX5_findReached 54 = .ok (.istore_n 2, 1) := by decide +kernel
theorem dX5_findReached_55 : decode cX5_findReached 55 = .ok (.iinc 5 1, 3) := by decide +kernel
theorem dX5_findReached_58 : decode cX5_findReached 58 = .ok (.goto (-31), 3) := by decide +kernel
theorem dX5_findReached_61 : decode cX5_findReached 61 = .ok (.iinc 4 1, 3) := by decide +kernel
theorem dX5_findReached_64 : decode cX5_findReached 64 = .ok (.goto (-49), 3) := by decide +kernel
theorem dX5_findReached_67 : decode cX5_findReached 67 = .ok (.iinc 3 1, 3) := by decide +kernel
theorem dX5_findReached_70 : decode cX5_findReached 70 = .ok (.goto (-66), 3) := by decide +kernel
theorem dX5_findReached_73 : decode cX5_findReached 73 = .ok (.iload_n 2, 1) := by decide +kernel
theorem dX5_findReached_74 : decode cX5_findReached 74 = .ok (.ireturn, 1) := by decide +kernel
set_option maxRecDepth 20000 in
theorem ggX5_tellApart_X5_accepts : GoodIn wsX5_tellApart wsX5_accepts := goodIn_r _ [8, 2, 9, 10, 11, 7, 12, 3, 26, 27, 28, 29] (by decide +kernel) (by decide +kernel)
set_option maxRecDepth 20000 in
theorem gX5_tellApart_X5_accepts : GoodIn wsX5_tellApart (wsV RX5 61 RX5 yX5_accepts wsX5_accepts) := goodIn_app (goodIn_of _ (by decide +kernel)) ggX5_tellApart_X5_accepts
set_option maxRecDepth 20000 in
theorem ggX5_tellApart_X5_stepApart : GoodIn wsX5_tellApart wsX5_stepApart := goodIn_r _ [16, 17, 18, 19, 7, 20, 21, 9, 10, 11, 12, 3, 22, 23, 24, 25, 1, 26, 27, 28, 29] (by decide +kernel) (by decide +kernel)
set_option maxRecDepth 20000 in
theorem gX5_tellApart_X5_stepApart : GoodIn wsX5_tellApart (wsV RX5 64 RX5 yX5_stepApart wsX5_stepApart) := goodIn_app (goodIn_of _ (by decide +kernel)) ggX5_tellApart_X5_stepApart
theorem dX5_tellApart_0 : decode cX5_tellApart 0 = .ok (.iconst 0, 1) := by decide +kernel
theorem dX5_tellApart_1 : decode cX5_tellApart 1 = .ok (.istore_n 2, 1) := by decide +kernel
theorem dX5_tellApart_2 : decode cX5_tellApart 2 = .ok (.iload_n 2, 1) := by decide +kernel
theorem dX5_tellApart_3 : decode cX5_tellApart 3 = .ok (.bipush 6, 2) := by decide +kernel
theorem dX5_tellApart_5 : decode cX5_tellApart 5 = .ok (.if_icmp .ge 36, 3) := by decide +kernel
theorem dX5_tellApart_8 : decode cX5_tellApart 8 = .ok (.aload_n 0, 1) := by decide +kernel
theorem dX5_tellApart_9 : decode cX5_tellApart 9 = .ok (.getfield 15, 3) := by decide +kernel
theorem dX5_tellApart_12 : decode cX5_tellApart 12 = .ok (.iload_n 2, 1) := by decide +kernel
theorem dX5_tellApart_13 : decode cX5_tellApart 13 = .ok (.aload_n 0, 1) := by decide +kernel
theorem dX5_tellApart_14 : decode cX5_tellApart 14 = .ok (.iload_n 2, 1) := by decide +kernel
theorem dX5_tellApart_15 : decode cX5_tellApart 15 = .ok (.invokevirtual 61, 3) := by decide +kernel
theorem dX5_tellApart_18 : decode cX5_tellApart 18 = .ok (.ifCond .eq 12, 3) := by decide +kernel
theorem dX5_tellApart_21 : decode cX5_tellApart 21 = .ok (.aload_n 0, 1) := by decide +kernel
theorem dX5_tellApart_22 : decode cX5_tellApart 22 = .ok (.getfield 22, 3) := by decide +kernel
theorem dX5_tellApart_25 : decode cX5_tellApart 25 = .ok (.iconst (-1), 1) := by decide +kernel
theorem dX5_tellApart_26 : decode cX5_tellApart 26 = .ok (.ixor, 1) := by decide +kernel
theorem dX5_tellApart_27 : decode cX5_tellApart 27 = .ok (.goto 7, 3) := by decide +kernel
theorem dX5_tellApart_30 : decode cX5_tellApart 30 = .ok (.aload_n 0, 1) := by decide +kernel
theorem dX5_tellApart_31 : decode cX5_tellApart 31 = .ok (.getfield 22, 3) := by decide +kernel
theorem dX5_tellApart_34 : decode cX5_tellApart 34 = .ok (.iastore, 1) := by decide +kernel
theorem dX5_tellApart_35 : decode cX5_tellApart 35 = .ok (.iinc 2 1, 3) := by decide +kernel
theorem dX5_tellApart_38 : decode cX5_tellApart 38 = .ok (.goto (-36), 3) := by decide +kernel
theorem dX5_tellApart_41 : decode cX5_tellApart 41 = .ok (.iconst 0, 1) := by decide +kernel
theorem dX5_tellApart_42 : decode cX5_tellApart 42 = .ok (.istore_n 2, 1) := by decide +kernel
theorem dX5_tellApart_43 : decode cX5_tellApart 43 = .ok (.iload_n 2, 1) := by decide +kernel
theorem dX5_tellApart_44 : decode cX5_tellApart 44 = .ok (.aload_n 0, 1) := by decide +kernel
theorem dX5_tellApart_45 : decode cX5_tellApart 45 = .ok (.getfield 18, 3) := by decide +kernel
theorem dX5_tellApart_48 : decode cX5_tellApart 48 = .ok (.if_icmp .ge 73, 3) := by decide +kernel
theorem dX5_tellApart_51 : decode cX5_tellApart 51 = .ok (.iconst 0, 1) := by decide +kernel
theorem dX5_tellApart_52 : decode cX5_tellApart 52 = .ok (.istore_n 3, 1) := by decide +kernel
theorem dX5_tellApart_53 : decode cX5_tellApart 53 = .ok (.iload_n 3, 1) := by decide +kernel
theorem dX5_tellApart_54 : decode cX5_tellApart 54 = .ok (.aload_n 0, 1) := by decide +kernel
theorem dX5_tellApart_55 : decode cX5_tellApart 55 = .ok (.getfield 18, 3) := by decide +kernel
theorem dX5_tellApart_58 : decode cX5_tellApart 58 = .ok (.if_icmp .ge 57, 3) := by decide +kernel
theorem dX5_tellApart_61 : decode cX5_tellApart 61 = .ok (.iload_n 3, 1) := by decide +kernel
theorem dX5_tellApart_62 : decode cX5_tellApart 62 = .ok (.bipush 6, 2) := by decide +kernel
theorem dX5_tellApart_64 : decode cX5_tellApart 64 = .ok (.if_icmp .ge 51, 3) := by decide +kernel
theorem dX5_tellApart_67 : decode cX5_tellApart 67 = .ok (.iconst 0, 1) := by decide +kernel
theorem dX5_tellApart_68 : decode cX5_tellApart 68 = .ok (.istore 4, 2) := by decide +kernel
theorem dX5_tellApart_70 : decode cX5_tellApart 70 = .ok (.iload 4, 2) := by decide +kernel
theorem dX5_tellApart_72 : decode cX5_tellApart 72 = .ok (.aload_n 0, 1) := by decide +kernel
theorem dX5_tellApart_73 : decode cX5_tellApart 73 = .ok (.getfield 18, 3) := by decide +kernel
theorem dX5_tellApart_76 : decode cX5_tellApart 76 = .ok (.if_icmp .ge 33, 3) := by decide +kernel
theorem dX5_tellApart_79 : decode cX5_tellApart 79 = .ok (.aload_n 0, 1) := by decide +kernel
theorem dX5_tellApart_80 : decode cX5_tellApart 80 = .ok (.iload_n 3, 1) := by decide +kernel
theorem dX5_tellApart_81 : decode cX5_tellApart 81 = .ok (.iload 4, 2) := by decide +kernel
theorem dX5_tellApart_83 : decode cX5_tellApart 83 = .ok (.iload_n 1, 1) := by decide +kernel
theorem dX5_tellApart_84 : decode cX5_tellApart 84 = .ok (.invokevirtual 64, 3) := by decide +kernel
theorem dX5_tellApart_87 : decode cX5_tellApart 87 = .ok (.ifCond .eq 16, 3) := by decide +kernel
theorem dX5_tellApart_90 : decode cX5_tellApart 90 = .ok (.aload_n 0, 1) := by decide +kernel
theorem dX5_tellApart_91 : decode cX5_tellApart 91 = .ok (.getfield 15, 3) := by decide +kernel
theorem dX5_tellApart_94 : decode cX5_tellApart 94 = .ok (.iload_n 3, 1) := by decide +kernel
theorem dX5_tellApart_95 : decode cX5_tellApart 95 = .ok (.dup2, 1) := by decide +kernel
theorem dX5_tellApart_96 : decode cX5_tellApart 96 = .ok (.iaload, 1) := by decide +kernel
theorem dX5_tellApart_97 : decode cX5_tellApart 97 = .ok (.iconst 1, 1) := by decide +kernel
theorem dX5_tellApart_98 : decode cX5_tellApart 98 = .ok (.iload 4, 2) := by decide +kernel
theorem dX5_tellApart_100 : decode cX5_tellApart 100 = .ok (.ishl, 1) := by decide +kernel
theorem dX5_tellApart_101 : decode cX5_tellApart 101 = .ok (.ior, 1) := by decide +kernel
theorem dX5_tellApart_102 : decode cX5_tellApart 102 = .ok (.iastore, 1) := by decide +kernel
theorem dX5_tellApart_103 : decode cX5_tellApart 103 = .ok (.iinc 4 1, 3) := by decide +kernel
theorem dX5_tellApart_106 : decode cX5_tellApart 106 = .ok (.goto (-36), 3) := by decide +kernel
theorem dX5_tellApart_109 : decode cX5_tellApart 109 = .ok (.iinc 3 1, 3) := by decide +kernel
theorem dX5_tellApart_112 : decode cX5_tellApart 112 = .ok (.goto (-59), 3) := by decide +kernel
theorem dX5_tellApart_115 : decode cX5_tellApart 115 = .ok (.iinc 2 1, 3) := by decide +kernel
theorem dX5_tellApart_118 : decode cX5_tellApart 118 = .ok (.goto (-75), 3) := by decide +kernel
theorem dX5_tellApart_121 : decode cX5_tellApart 121 = .ok (.return_, 1) := by decide +kernel
set_option maxRecDepth 20000 in
theorem ggX5_stepApart_X5_step : GoodIn wsX5_stepApart wsX5_step := goodIn_r _ [5, 6, 7, 8, 9, 4, 10, 11, 17, 18, 19, 20] (by decide +kernel) (by decide +kernel)
set_option maxRecDepth 20000 in
theorem gX5_stepApart_X5_step : GoodIn wsX5_stepApart (wsV RX5 57 RX5 yX5_step wsX5_step) := goodIn_app (goodIn_of _ (by decide +kernel)) ggX5_stepApart_X5_step
set_option maxRecDepth 20000 in
theorem ggX5_stepApart_X5_areApart : GoodIn wsX5_stepApart wsX5_areApart := goodIn_r _ [15, 16, 7, 8, 9, 4, 10, 11, 17, 18, 19, 20] (by decide +kernel) (by decide +kernel)
set_option maxRecDepth 20000 in
theorem gX5_stepApart_X5_areApart : GoodIn wsX5_stepApart (wsV RX5 54 RX5 yX5_areApart wsX5_areApart) := goodIn_app (goodIn_of _ (by decide +kernel)) ggX5_stepApart_X5_areApart
theorem dX5_stepApart_0 : decode cX5_stepApart 0 = .ok (.iconst 0, 1) := by decide +kernel
theorem dX5_stepApart_1 : decode cX5_stepApart 1 = .ok (.istore 4, 2) := by decide +kernel
theorem dX5_stepApart_3 : decode cX5_stepApart 3 = .ok (.iload 4, 2) := by decide +kernel
theorem dX5_stepApart_5 : decode cX5_stepApart 5 = .ok (.iload_n 3, 1) := by decide +kernel
theorem dX5_stepApart_6 : decode cX5_stepApart 6 = .ok (.if_icmp .ge 32, 3) := by decide +kernel
theorem dX5_stepApart_9 : decode cX5_stepApart 9 = .ok (.aload_n 0, 1) := by decide +kernel
theorem dX5_stepApart_10 : decode cX5_stepApart 10 = .ok (.aload_n 0, 1) := by decide +kernel
theorem dX5_stepApart_11 : decode cX5_stepApart 11 = .ok (.iload_n 1, 1) := by decide +kernel
theorem dX5_stepApart_12 : decode cX5_stepApart 12 = .ok (.iload 4, 2) := by decide +kernel
theorem dX5_stepApart_14 : decode cX5_stepApart 14 = .ok (.invokevirtual 57, 3) := by decide +kernel
theorem dX5_stepApart_17 : decode cX5_stepApart 17 = .ok (.aload_n 0, 1) := by decide +kernel
theorem dX5_stepApart_18 : decode cX5_stepApart 18 = .ok (.iload_n 2, 1) := by decide +kernel
theorem dX5_stepApart_19 : decode cX5_stepApart 19 = .ok (.iload 4, 2) := by decide +kernel
theorem dX5_stepApart_21 : decode cX5_stepApart 21 = .ok (.invokevirtual 57, 3) := by decide +kernel
theorem dX5_stepApart_24 : decode cX5_stepApart 24 = .ok (.invokevirtual 54, 3) := by decide +kernel
theorem dX5_stepApart_27 : decode cX5_stepApart 27 = .ok (.ifCond .eq 5, 3) := by decide +kernel
theorem dX5_stepApart_30 : decode cX5_stepApart 30 = .ok (.iconst 1, 1) := by decide +kernel
theorem dX5_stepApart_31 : decode cX5_stepApart 31 = .ok (.ireturn, 1) := by decide +kernel
theorem dX5_stepApart_32 : decode cX5_stepApart 32 = .ok (.iinc 4 1, 3) := by decide +kernel
theorem dX5_stepApart_35 : decode cX5_stepApart 35 = .ok (.goto (-32), 3) := by decide +kernel
theorem dX5_stepApart_38 : decode cX5_stepApart 38 = .ok (.iconst 0, 1) := by decide +kernel
theorem dX5_stepApart_39 : decode cX5_stepApart 39 = .ok (.ireturn, 1) := by decide +kernel
set_option maxRecDepth 20000 in
theorem ggX5_areApart_X5_has : GoodIn wsX5_areApart wsX5_has := goodIn_r _ [6, 7, 8, 9, 10, 11] (by decide +kernel) (by decide +kernel)
set_option maxRecDepth 20000 in
theorem gX5_areApart_X5_has : GoodIn wsX5_areApart (wsV RX5 25 RX5 yX5_has wsX5_has) := goodIn_app (goodIn_of _ (by decide +kernel)) ggX5_areApart_X5_has
theorem dX5_areApart_0 : decode cX5_areApart 0 = .ok (.aload_n 0, 1) := by decide +kernel
theorem dX5_areApart_1 : decode cX5_areApart 1 = .ok (.iload_n 1, 1) := by decide +kernel
theorem dX5_areApart_2 : decode cX5_areApart 2 = .ok (.invokevirtual 25, 3) := by decide +kernel
theorem dX5_areApart_5 : decode cX5_areApart 5 = .ok (.ifCond .eq 28, 3) := by decide +kernel
theorem dX5_areApart_8 : decode cX5_areApart 8 = .ok (.aload_n 0, 1) := by decide +kernel
theorem dX5_areApart_9 : decode cX5_areApart 9 = .ok (.iload_n 2, 1) := by decide +kernel
theorem dX5_areApart_10 : decode cX5_areApart 10 = .ok (.invokevirtual 25, 3) := by decide +kernel
theorem dX5_areApart_13 : decode cX5_areApart 13 = .ok (.ifCond .eq 20, 3) := by decide +kernel
theorem dX5_areApart_16 : decode cX5_areApart 16 = .ok (.aload_n 0, 1) := by decide +kernel
theorem dX5_areApart_17 : decode cX5_areApart 17 = .ok (.getfield 15, 3) := by decide +kernel
theorem dX5_areApart_20 : decode cX5_areApart 20 = .ok (.iload_n 1, 1) := by decide +kernel
theorem dX5_areApart_21 : decode cX5_areApart 21 = .ok (.iaload, 1) := by decide +kernel
theorem dX5_areApart_22 : decode cX5_areApart 22 = .ok (.iload_n 2, 1) := by decide +kernel
theorem dX5_areApart_23 : decode cX5_areApart 23 = .ok (.ishr, 1) := by decide +kernel
theorem dX5_areApart_24 : decode cX5_areApart 24 = .ok (.iconst 1, 1) := by decide +kernel
theorem dX5_areApart_25 : decode cX5_areApart 25 = .ok (.iand, 1) := by decide +kernel
theorem dX5_areApart_26 : decode cX5_areApart 26 = .ok (.ifCond .eq 7, 3) := by decide +kernel
theorem dX5_areApart_29 : decode cX5_areApart 29 = .ok (.iconst 1, 1) := by decide +kernel
theorem dX5_areApart_30 : decode cX5_areApart 30 = .ok (.goto 4, 3) := by decide +kernel
theorem dX5_areApart_33 : decode cX5_areApart 33 = .ok (.iconst 0, 1) := by decide +kernel
theorem dX5_areApart_34 : decode cX5_areApart 34 = .ok (.ireturn, 1) := by decide +kernel
set_option maxRecDepth 20000 in
theorem ggX6_init_X0_init : GoodIn wsX6_init wsX0_init := goodIn_r _ [17, 18, 2, 3, 19, 20, 55, 56] (by decide +kernel) (by decide +kernel)
set_option maxRecDepth 20000 in
theorem gX6_init_X0_init_n11 : GoodIn wsX6_init (wsX0_init) := ggX6_init_X0_init
set_option maxRecDepth 20000 in
theorem ggX6_init_X5_init : GoodIn wsX6_init wsX5_init := goodIn_r _ [22, 23, 2, 3, 19, 24, 25, 60, 61, 62, 63] (by decide +kernel) (by decide +kernel)
set_option maxRecDepth 20000 in
theorem gX6_init_X5_init_n26 : GoodIn wsX6_init (wsX5_init) := ggX6_init_X5_init
set_option maxRecDepth 20000 in
theorem ggX6_init_X9_init : GoodIn wsX6_init wsX9_init := goodIn_r _ [27, 28, 2, 3, 19, 29, 64, 65] (by decide +kernel) (by decide +kernel)
set_option maxRecDepth 20000 in
theorem gX6_init_X9_init_n31 : GoodIn wsX6_init (wsX9_init) := ggX6_init_X9_init
set_option maxRecDepth 20000 in
theorem ggX6_init_X6_begin : GoodIn wsX6_init wsX6_begin := goodIn_r _ [34, 7, 9, 13, 35, 36, 37, 6, 38, 39, 20, 40, 41, 42, 43, 44, 45, 46, 15, 47, 48, 49, 50, 51, 12, 52, 53, 54, 24, 57, 58, 59, 55, 56, 64, 65, 60, 61, 62, 63] (by decide +kernel) (by decide +kernel)
set_option maxRecDepth 20000 in
theorem gX6_init_X6_begin : GoodIn wsX6_init (wsV RX6 32 RX6 yX6_begin wsX6_begin) := goodIn_app (goodIn_of _ (by decide +kernel)) ggX6_init_X6_begin
theorem dX6_init_0 : decode cX6_init 0 = .ok (.aload_n 0, 1) := by decide +kernel
theorem dX6_init_1 : decode cX6_init 1 = .ok (.invokespecial 3, 3) := by decide +kernel
theorem dX6_init_4 : decode cX6_init 4 = .ok (.aload_n 0, 1) := by decide +kernel
theorem dX6_init_5 : decode cX6_init 5 = .ok (.new 9, 3) := by decide +kernel
theorem dX6_init_8 : decode cX6_init 8 = .ok (.dup, 1) := by decide +kernel
theorem dX6_init_9 : decode cX6_init 9 = .ok (.invokespecial 11, 3) := by decide +kernel
theorem dX6_init_12 : decode cX6_init 12 = .ok (.putfield 12, 3) := by decide +kernel
theorem dX6_init_15 : decode cX6_init 15 = .ok (.aload_n 0, 1) := by decide +kernel
theorem dX6_init_16 : decode cX6_init 16 = .ok (.bipush 6, 2) := by decide +kernel
theorem dX6_init_18 : decode cX6_init 18 = .ok (.anewarray 18, 3) := by decide +kernel
theorem dX6_init_21 : decode cX6_init 21 = .ok (.putfield 20, 3) := by decide +kernel
theorem dX6_init_24 : decode cX6_init 24 = .ok (.aload_n 0, 1) := by decide +kernel
theorem dX6_init_25 : decode cX6_init 25 = .ok (.new 24, 3) := by decide +kernel
theorem dX6_init_28 : decode cX6_init 28 = .ok (.dup, 1) := by decide +kernel
theorem dX6_init_29 : decode cX6_init 29 = .ok (.invokespecial 26, 3) := by decide +kernel
theorem dX6_init_32 : decode cX6_init 32 = .ok (.putfield 27, 3) := by decide +kernel
theorem dX6_init_35 : decode cX6_init 35 = .ok (.iconst 0, 1) := by decide +kernel
theorem dX6_init_36 : decode cX6_init 36 = .ok (.istore_n 1, 1) := by decide +kernel
theorem dX6_init_37 : decode cX6_init 37 = .ok (.iload_n 1, 1) := by decide +kernel
theorem dX6_init_38 : decode cX6_init 38 = .ok (.bipush 6, 2) := by decide +kernel
theorem dX6_init_40 : decode cX6_init 40 = .ok (.if_icmp .ge 22, 3) := by decide +kernel
theorem dX6_init_43 : decode cX6_init 43 = .ok (.aload_n 0, 1) := by decide +kernel
theorem dX6_init_44 : decode cX6_init 44 = .ok (.getfield 20, 3) := by decide +kernel
theorem dX6_init_47 : decode cX6_init 47 = .ok (.iload_n 1, 1) := by decide +kernel
theorem dX6_init_48 : decode cX6_init 48 = .ok (.new 18, 3) := by decide +kernel
theorem dX6_init_51 : decode cX6_init 51 = .ok (.dup, 1) := by decide +kernel
theorem dX6_init_52 : decode cX6_init 52 = .ok (.invokespecial 31, 3) := by decide +kernel
theorem dX6_init_55 : decode cX6_init 55 = .ok (.aastore, 1) := by decide +kernel
theorem dX6_init_56 : decode cX6_init 56 = .ok (.iinc 1 1, 3) := by decide +kernel
theorem dX6_init_59 : decode cX6_init 59 = .ok (.goto (-22), 3) := by decide +kernel
theorem dX6_init_62 : decode cX6_init 62 = .ok (.aload_n 0, 1) := by decide +kernel
theorem dX6_init_63 : decode cX6_init 63 = .ok (.iconst 4, 1) := by decide +kernel
theorem dX6_init_64 : decode cX6_init 64 = .ok (.invokevirtual 32, 3) := by decide +kernel
theorem dX6_init_67 : decode cX6_init 67 = .ok (.return_, 1) := by decide +kernel
set_option maxRecDepth 20000 in
theorem ggX6_begin_X0_begin : GoodIn wsX6_begin wsX0_begin := goodIn_r _ [8, 9, 10, 11, 12, 13, 14, 32, 33] (by decide +kernel) (by decide +kernel)
set_option maxRecDepth 20000 in
theorem gX6_begin_X0_begin : GoodIn wsX6_begin (wsV RX6 36 RX0 yX0_begin wsX0_begin) := goodIn_app (goodIn_of _ (by decide +kernel)) ggX6_begin_X0_begin
set_option maxRecDepth 20000 in
theorem ggX6_begin_X9_empty : GoodIn wsX6_begin wsX9_empty := goodIn_r _ [19, 20, 34, 35] (by decide +kernel) (by decide +kernel)
set_option maxRecDepth 20000 in
theorem gX6_begin_X9_empty : GoodIn wsX6_begin (wsV RX6 37 RX9 yX9_empty wsX9_empty) := goodIn_app (goodIn_of _ (by decide +kernel)) ggX6_begin_X9_empty
set_option maxRecDepth 20000 in
theorem ggX6_begin_X5_begin : GoodIn wsX6_begin wsX5_begin := goodIn_r _ [25, 26, 27, 28, 36, 37, 38, 39] (by decide +kernel) (by decide +kernel)
set_option maxRecDepth 20000 in
theorem gX6_begin_X5_begin : GoodIn wsX6_begin (wsV RX6 40 RX5 yX5_begin wsX5_begin) := goodIn_app (goodIn_of _ (by decide +kernel)) ggX6_begin_X5_begin
theorem dX6_begin_0 : decode cX6_begin 0 = .ok (.aload_n 0, 1) := by decide +kernel
theorem dX6_begin_1 : decode cX6_begin 1 = .ok (.getfield 12, 3) := by decide +kernel
theorem dX6_begin_4 : decode cX6_begin 4 = .ok (.iload_n 1, 1) := by decide +kernel
theorem dX6_begin_5 : decode cX6_begin 5 = .ok (.invokevirtual 36, 3) := by decide +kernel
theorem dX6_begin_8 : decode cX6_begin 8 = .ok (.iconst 0, 1) := by decide +kernel
theorem dX6_begin_9 : decode cX6_begin 9 = .ok (.istore_n 2, 1) := by decide +kernel
theorem dX6_begin_10 : decode cX6_begin 10 = .ok (.iload_n 2, 1) := by decide +kernel
theorem dX6_begin_11 : decode cX6_begin 11 = .ok (.bipush 6, 2) := by decide +kernel
theorem dX6_begin_13 : decode cX6_begin 13 = .ok (.if_icmp .ge 18, 3) := by decide +kernel
theorem dX6_begin_16 : decode cX6_begin 16 = .ok (.aload_n 0, 1) := by decide +kernel
theorem dX6_begin_17 : decode cX6_begin 17 = .ok (.getfield 20, 3) := by decide +kernel
theorem dX6_begin_20 : decode cX6_begin 20 = .ok (.iload_n 2, 1) := by decide +kernel
theorem dX6_begin_21 : decode cX6_begin 21 = .ok (.aaload, 1) := by decide +kernel
theorem dX6_begin_22 : decode cX6_begin 22 = .ok (.invokevirtual 37, 3) := by decide +kernel
theorem dX6_begin_25 : decode cX6_begin 25 = .ok (.iinc 2 1, 3) := by decide +kernel
theorem dX6_begin_28 : decode cX6_begin 28 = .ok (.goto (-18), 3) := by decide +kernel
theorem dX6_begin_31 : decode cX6_begin 31 = .ok (.aload_n 0, 1) := by decide +kernel
theorem dX6_begin_32 : decode cX6_begin 32 = .ok (.getfield 27, 3) := by decide +kernel
theorem dX6_begin_35 : decode cX6_begin 35 = .ok (.iconst 1, 1) := by decide +kernel
theorem dX6_begin_36 : decode cX6_begin 36 = .ok (.invokevirtual 40, 3) := by decide +kernel
theorem dX6_begin_39 : decode cX6_begin 39 = .ok (.return_, 1) := by decide +kernel
set_option maxRecDepth 20000 in
theorem ggX6_become_X0_become : GoodIn wsX6_become wsX0_become := goodIn_r _ [8, 9, 10, 29, 30] (by decide +kernel) (by decide +kernel)
set_option maxRecDepth 20000 in
theorem gX6_become_X0_become : GoodIn wsX6_become (wsV RX6 41 RX0 yX0_become wsX0_become) := goodIn_app (goodIn_of _ (by decide +kernel)) ggX6_become_X0_become
set_option maxRecDepth 20000 in
theorem ggX6_become_X9_become : GoodIn wsX6_become wsX9_become := goodIn_r _ [15, 16, 17, 31, 32] (by decide +kernel) (by decide +kernel)
set_option maxRecDepth 20000 in
theorem gX6_become_X9_become : GoodIn wsX6_become (wsV RX6 45 RX9 yX9_become wsX9_become) := goodIn_app (goodIn_of _ (by decide +kernel)) ggX6_become_X9_become
set_option maxRecDepth 20000 in
theorem ggX6_become_X5_become : GoodIn wsX6_become wsX5_become := goodIn_r _ [22, 23, 24, 25, 33, 34, 35, 36] (by decide +kernel) (by decide +kernel)
set_option maxRecDepth 20000 in
theorem gX6_become_X5_become : GoodIn wsX6_become (wsV RX6 48 RX5 yX5_become wsX5_become) := goodIn_app (goodIn_of _ (by decide +kernel)) ggX6_become_X5_become
theorem dX6_become_0 : decode cX6_become 0 = .ok (.aload_n 0, 1) := by decide +kernel
theorem dX6_become_1 : decode cX6_become 1 = .ok (.getfield 12, 3) := by decide +kernel
theorem dX6_become_4 : decode cX6_become 4 = .ok (.aload_n 1, 1) := by decide +kernel
theorem dX6_become_5 : decode cX6_become 5 = .ok (.getfield 12, 3) := by decide +kernel
theorem dX6_become_8 : decode cX6_become 8 = .ok (.invokevirtual 41, 3) := by decide +kernel
theorem dX6_become_11 : decode cX6_become 11 = .ok (.iconst 0, 1) := by decide +kernel
theorem dX6_become_12 : decode cX6_become 12 = .ok (.istore_n 2, 1) := by decide +kernel
theorem dX6_become_13 : decode cX6_become 13 = .ok (.iload_n 2, 1) := by decide +kernel
theorem dX6_become_14 : decode cX6_become 14 = .ok (.bipush 6, 2) := by decide +kernel
theorem dX6_become_16 : decode cX6_become 16 = .ok (.if_icmp .ge 24, 3) := by decide +kernel
theorem dX6_become_19 : decode cX6_become 19 = .ok (.aload_n 0, 1) := by decide +kernel
theorem dX6_become_20 : decode cX6_become 20 = .ok (.getfield 20, 3) := by decide +kernel
theorem dX6_become_23 : decode cX6_become 23 = .ok (.iload_n 2, 1) := by decide +kernel
theorem dX6_become_24 : decode cX6_become 24 = .ok (.aaload, 1) := by decide +kernel
theorem dX6_become_25 : decode cX6_become 25 = .ok (.aload_n 1, 1) := by decide +kernel
theorem dX6_become_26 : decode cX6_become 26 = .ok (.getfield 20, 3) := by decide +kernel
theorem dX6_become_29 : decode cX6_become 29 = .ok (.iload_n 2, 1) := by decide +kernel
theorem dX6_become_30 : decode cX6_become 30 = .ok (.aaload, 1) := by decide +kernel
theorem dX6_become_31 : decode cX6_become 31 = .ok (.invokevirtual 45, 3) := by decide +kernel
theorem dX6_become_34 : decode cX6_become 34 = .ok (.iinc 2 1, 3) := by decide +kernel
theorem dX6_become_37 : decode cX6_become 37 = .ok (.goto (-24), 3) := by decide +kernel
theorem dX6_become_40 : decode cX6_become 40 = .ok (.aload_n 0, 1) := by decide +kernel
theorem dX6_become_41 : decode cX6_become 41 = .ok (.getfield 27, 3) := by decide +kernel
theorem dX6_become_44 : decode cX6_become 44 = .ok (.aload_n 1, 1) := by decide +kernel
theorem dX6_become_45 : decode cX6_become 45 = .ok (.getfield 27, 3) := by decide +kernel
theorem dX6_become_48 : decode cX6_become 48 = .ok (.invokevirtual 48, 3) := by decide +kernel
theorem dX6_become_51 : decode cX6_become 51 = .ok (.return_, 1) := by decide +kernel
theorem dX7_init_0 : decode cX7_init 0 = .ok (.aload_n 0, 1) := by decide +kernel
theorem dX7_init_1 : decode cX7_init 1 = .ok (.invokespecial 3, 3) := by decide +kernel
theorem dX7_init_4 : decode cX7_init 4 = .ok (.aload_n 0, 1) := by decide +kernel
theorem dX7_init_5 : decode cX7_init 5 = .ok (.bipush 80, 2) := by decide +kernel
theorem dX7_init_7 : decode cX7_init 7 = .ok (.newarray .int, 2) := by decide +kernel
theorem dX7_init_9 : decode cX7_init 9 = .ok (.putfield 9, 3) := by decide +kernel
theorem dX7_init_12 : decode cX7_init 12 = .ok (.return_, 1) := by decide +kernel
theorem dX7_empty_0 : decode cX7_empty 0 = .ok (.aload_n 0, 1) := by decide +kernel
theorem dX7_empty_1 : decode cX7_empty 1 = .ok (.iconst 0, 1) := by decide +kernel
theorem dX7_empty_2 : decode cX7_empty 2 = .ok (.putfield 15, 3) := by decide +kernel
theorem dX7_empty_5 : decode cX7_empty 5 = .ok (.return_, 1) := by decide +kernel
theorem dX7_push_0 : decode cX7_push 0 = .ok (.aload_n 0, 1) := by decide +kernel
theorem dX7_push_1 : decode cX7_push 1 = .ok (.getfield 15, 3) := by decide +kernel
theorem dX7_push_4 : decode cX7_push 4 = .ok (.ifCond .lt 32, 3) := by decide +kernel
theorem dX7_push_7 : decode cX7_push 7 = .ok (.aload_n 0, 1) := by decide +kernel
theorem dX7_push_8 : decode cX7_push 8 = .ok (.getfield 15, 3) := by decide +kernel
theorem dX7_push_11 : decode cX7_push 11 = .ok (.bipush 80, 2) := by decide +kernel
theorem dX7_push_13 : decode cX7_push 13 = .ok (.if_icmp .ge 23, 3) := by decide +kernel
theorem dX7_push_16 : decode cX7_push 16 = .ok (.aload_n 0, 1) := by decide +kernel
theorem dX7_push_17 : decode cX7_push 17 = .ok (.getfield 9, 3) := by decide +kernel
theorem dX7_push_20 : decode cX7_push 20 = .ok (.aload_n 0, 1) := by decide +kernel
theorem dX7_push_21 : decode cX7_push 21 = .ok (.getfield 15, 3) := by decide +kernel
theorem dX7_push_24 : decode cX7_push 24 = .ok (.iload_n 1, 1) := by decide +kernel
theorem dX7_push_25 : decode cX7_push 25 = .ok (.iastore, 1) := by decide +kernel
theorem dX7_push_26 : decode cX7_push 26 = .ok (.aload_n 0, 1) := by decide +kernel
theorem dX7_push_27 : decode cX7_push 27 = .ok (.dup, 1) := by decide +kernel
theorem dX7_push_28 : decode cX7_push 28 = .ok (.getfield 15, 3) := by decide +kernel
theorem dX7_push_31 : decode cX7_push 31 = .ok (.iconst 1, 1) := by decide +kernel
theorem dX7_push_32 : decode cX7_push 32 = .ok (.iadd, 1) := by decide +kernel
theorem dX7_push_33 : decode cX7_push 33 = .ok (.putfield 15, 3) := by decide +kernel
theorem dX7_push_36 : decode cX7_push 36 = .ok (.return_, 1) := by decide +kernel
theorem dX7_at_0 : decode cX7_at 0 = .ok (.iload_n 1, 1) := by decide +kernel
theorem dX7_at_1 : decode cX7_at 1 = .ok (.ifCond .lt 26, 3) := by decide +kernel
theorem dX7_at_4 : decode cX7_at 4 = .ok (.iload_n 1, 1) := by decide +kernel
theorem dX7_at_5 : decode cX7_at 5 = .ok (.aload_n 0, 1) := by decide +kernel
theorem dX7_at_6 : decode cX7_at 6 = .ok (.getfield 15, 3) := by decide +kernel
theorem dX7_at_9 : decode cX7_at 9 = .ok (.if_icmp .ge 18, 3) := by decide +kernel
theorem dX7_at_12 : decode cX7_at 12 = .ok (.iload_n 1, 1) := by decide +kernel
theorem dX7_at_13 : decode cX7_at 13 = .ok (.bipush 80, 2) := by decide +kernel
theorem dX7_at_15 : decode cX7_at 15 = .ok (.if_icmp .ge 12, 3) := by decide +kernel
theorem dX7_at_18 : decode cX7_at 18 = .ok (.aload_n 0, 1) := by decide +kernel
theorem dX7_at_19 : decode cX7_at 19 = .ok (.getfield 9, 3) := by decide +kernel
theorem dX7_at_22 : decode cX7_at 22 = .ok (.iload_n 1, 1) := by decide +kernel
theorem dX7_at_23 : decode cX7_at 23 = .ok (.iaload, 1) := by decide +kernel
theorem dX7_at_24 : decode cX7_at 24 = .ok (.goto 4, 3) := by decide +kernel
theorem dX7_at_27 : decode cX7_at 27 = .ok (.iconst (-1), 1) := by decide +kernel
theorem dX7_at_28 : decode cX7_at 28 = .ok (.ireturn, 1) := by decide +kernel
set_option maxRecDepth 20000 in
theorem ggX7_faultAt_X7_at : GoodIn wsX7_faultAt wsX7_at := goodIn_r _ [6, 1, 7, 8, 9] (by decide +kernel) (by decide +kernel)
set_option maxRecDepth 20000 in
theorem gX7_faultAt_X7_at : GoodIn wsX7_faultAt (wsV RX7 19 RX7 yX7_at wsX7_at) := goodIn_app (goodIn_of _ (by decide +kernel)) ggX7_faultAt_X7_at
theorem dX7_faultAt_0 : decode cX7_faultAt 0 = .ok (.iconst 1, 1) := by decide +kernel
theorem dX7_faultAt_1 : decode cX7_faultAt 1 = .ok (.istore_n 2, 1) := by decide +kernel
theorem dX7_faultAt_2 : decode cX7_faultAt 2 = .ok (.iconst 0, 1) := by decide +kernel
theorem dX7_faultAt_3 : decode cX7_faultAt 3 = .ok (.istore_n 3, 1) := by decide +kernel
theorem dX7_faultAt_4 : decode cX7_faultAt 4 = .ok (.iconst 0, 1) := by decide +kernel
theorem dX7_faultAt_5 : decode cX7_faultAt 5 = .ok (.istore 4, 2) := by decide +kernel
theorem dX7_faultAt_7 : decode cX7_faultAt 7 = .ok (.iload 4, 2) := by decide +kernel
theorem dX7_faultAt_9 : decode cX7_faultAt 9 = .ok (.aload_n 0, 1) := by decide +kernel
theorem dX7_faultAt_10 : decode cX7_faultAt 10 = .ok (.getfield 15, 3) := by decide +kernel
theorem dX7_faultAt_13 : decode cX7_faultAt 13 = .ok (.if_icmp .ge 106, 3) := by decide +kernel
theorem dX7_faultAt_16 : decode cX7_faultAt 16 = .ok (.aload_n 0, 1) := by decide +kernel
theorem dX7_faultAt_17 : decode cX7_faultAt 17 = .ok (.iload 4, 2) := by decide +kernel
theorem dX7_faultAt_19 : decode cX7_faultAt 19 = .ok (.invokevirtual 19, 3) := by decide +kernel
theorem dX7_faultAt_22 : decode cX7_faultAt 22 = .ok (.istore 5, 2) := by decide +kernel
theorem dX7_faultAt_24 : decode cX7_faultAt 24 = .ok (.iload 5, 2) := by decide +kernel
theorem dX7_faultAt_26 : decode cX7_faultAt 26 = .ok (.bipush 49, 2) := by decide +kernel
theorem dX7_faultAt_28 : decode cX7_faultAt 28 = .ok (.if_icmp .eq 19, 3) := by decide +kernel
theorem dX7_faultAt_31 : decode cX7_faultAt 31 = .ok (.iload 5, 2) := by decide +kernel
theorem dX7_faultAt_33 : decode cX7_faultAt 33 = .ok (.bipush 97, 2) := by decide +kernel
theorem dX7_faultAt_35 : decode cX7_faultAt 35 = .ok (.if_icmp .lt 17, 3) := by decide +kernel
theorem dX7_faultAt_38 : decode cX7_faultAt 38 = .ok (.iload 5, 2) := by decide +kernel
theorem dX7_faultAt_40 : decode cX7_faultAt 40 = .ok (.bipush 97, 2) := by decide +kernel
theorem dX7_faultAt_42 : decode cX7_faultAt 42 = .ok (.iload_n 1, 1) := by decide +kernel
theorem dX7_faultAt_43 : decode cX7_faultAt 43 = .ok (.iadd, 1) := by decide +kernel
theorem dX7_faultAt_44 : decode cX7_faultAt 44 = .ok (.if_icmp .ge 8, 3) := by decide +kernel
theorem dX7_faultAt_47 : decode cX7_faultAt 47 = .ok (.iconst 0, 1) := by decide +kernel
theorem dX7_faultAt_48 : decode cX7_faultAt 48 = .ok (.istore_n 2, 1) := by decide +kernel
theorem dX7_faultAt_49 : decode cX7_faultAt 49 = .ok (.goto 64, 3) := by decide +kernel
theorem dX7_faultAt_52 : decode cX7_faultAt 52 = .ok (.iload 5, 2) := by decide +kernel
theorem dX7_faultAt_54 : decode cX7_faultAt 54 = .ok (.bipush 40, 2) := by decide +kernel
theorem dX7_faultAt_56 : decode cX7_faultAt 56 = .ok (.if_icmp .ne 11, 3) := by decide +kernel
theorem dX7_faultAt_59 : decode cX7_faultAt 59 = .ok (.iinc 3 1, 3) := by decide +kernel
theorem dX7_faultAt_62 : decode cX7_faultAt 62 = .ok (.iconst 1, 1) := by decide +kernel
theorem dX7_faultAt_63 : decode cX7_faultAt 63 = .ok (.istore_n 2, 1) := by decide +kernel
theorem dX7_faultAt_64 : decode cX7_faultAt 64 = .ok (.goto 49, 3) := by decide +kernel
theorem dX7_faultAt_67 : decode cX7_faultAt 67 = .ok (.iload_n 2, 1) := by decide +kernel
theorem dX7_faultAt_68 : decode cX7_faultAt 68 = .ok (.ifCond .eq 6, 3) := by decide +kernel
theorem dX7_faultAt_71 : decode cX7_faultAt 71 = .ok (.iload 4, 2) := by decide +kernel
theorem dX7_faultAt_73 : decode cX7_faultAt 73 = .ok (.ireturn, 1) := by decide +kernel
theorem dX7_faultAt_74 : decode cX7_faultAt 74 = .ok (.iload 5, 2) := by decide +kernel
theorem dX7_faultAt_76 : decode cX7_faultAt 76 = .ok (.bipush 43, 2) := by decide +kernel
theorem dX7_faultAt_78 : decode cX7_faultAt 78 = .ok (.if_icmp .ne 8, 3) := by decide +kernel
theorem dX7_faultAt_81 : decode cX7_faultAt 81 = .ok (.iconst 1, 1) := by decide +kernel
theorem dX7_faultAt_82 : decode cX7_faultAt 82 = .ok (.istore_n 2, 1) := by decide +kernel
theorem dX7_faultAt_83 : decode cX7_faultAt 83 = .ok (.goto 30, 3) := by decide +kernel
theorem dX7_faultAt_86 : decode cX7_faultAt 86 = .ok (.iload 5, 2) := by decide +kernel
theorem dX7_faultAt_88 : decode cX7_faultAt 88 = .ok (.bipush 41, 2) := by decide +kernel
theorem dX7_faultAt_90 : decode cX7_faultAt 90 = .ok (.if_icmp .ne 13, 3) := by decide +kernel
theorem dX7_faultAt_93 : decode cX7_faultAt 93 = .ok (.iload_n 3, 1) := by decide +kernel
theorem dX7_faultAt_94 : decode cX7_faultAt 94 = .ok (.ifCond .le 9, 3) := by decide +kernel
theorem dX7_faultAt_97 : decode cX7_faultAt 97 = .ok (.iinc 3 (-1), 3) := by decide +kernel
theorem dX7_faultAt_100 : decode cX7_faultAt 100 = .ok (.goto 13, 3) := by decide +kernel
theorem dX7_faultAt_103 : decode cX7_faultAt 103 = .ok (.iload 5, 2) := by decide +kernel
theorem dX7_faultAt_105 : decode cX7_faultAt 105 = .ok (.bipush 42, 2) := by decide +kernel
theorem dX7_faultAt_107 : decode cX7_faultAt 107 = .ok (.if_icmp .eq 6, 3) := by decide +kernel
theorem dX7_faultAt_110 : decode cX7_faultAt 110 = .ok (.iload 4, 2) := by decide +kernel
theorem dX7_faultAt_112 : decode cX7_faultAt 112 = .ok (.ireturn, 1) := by decide +kernel
theorem dX7_faultAt_113 : decode cX7_faultAt 113 = .ok (.iinc 4 1, 3) := by decide +kernel
theorem dX7_faultAt_116 : decode cX7_faultAt 116 = .ok (.goto (-109), 3) := by decide +kernel
theorem dX7_faultAt_119 : decode cX7_faultAt 119 = .ok (.iload_n 2, 1) := by decide +kernel
theorem dX7_faultAt_120 : decode cX7_faultAt 120 = .ok (.ifCond .ne 7, 3) := by decide +kernel
theorem dX7_faultAt_123 : decode cX7_faultAt 123 = .ok (.iload_n 3, 1) := by decide +kernel
theorem dX7_faultAt_124 : decode cX7_faultAt 124 = .ok (.ifCond .le 10, 3) := by decide +kernel
theorem dX7_faultAt_127 : decode cX7_faultAt 127 = .ok (.aload_n 0, 1) := by decide +kernel
theorem dX7_faultAt_128 : decode cX7_faultAt 128 = .ok (.getfield 15, 3) := by decide +kernel
theorem dX7_faultAt_131 : decode cX7_faultAt 131 = .ok (.goto 4, 3) := by decide +kernel
theorem dX7_faultAt_134 : decode cX7_faultAt 134 = .ok (.iconst (-1), 1) := by decide +kernel
theorem dX7_faultAt_135 : decode cX7_faultAt 135 = .ok (.ireturn, 1) := by decide +kernel
theorem dX8_init_0 : decode cX8_init 0 = .ok (.aload_n 0, 1) := by decide +kernel
theorem dX8_init_1 : decode cX8_init 1 = .ok (.invokespecial 3, 3) := by decide +kernel
theorem dX8_init_4 : decode cX8_init 4 = .ok (.aload_n 0, 1) := by decide +kernel
theorem dX8_init_5 : decode cX8_init 5 = .ok (.sipush 160, 3) := by decide +kernel
theorem dX8_init_8 : decode cX8_init 8 = .ok (.newarray .int, 2) := by decide +kernel
theorem dX8_init_10 : decode cX8_init 10 = .ok (.putfield 9, 3) := by decide +kernel
theorem dX8_init_13 : decode cX8_init 13 = .ok (.aload_n 0, 1) := by decide +kernel
theorem dX8_init_14 : decode cX8_init 14 = .ok (.sipush 160, 3) := by decide +kernel
theorem dX8_init_17 : decode cX8_init 17 = .ok (.newarray .int, 2) := by decide +kernel
theorem dX8_init_19 : decode cX8_init 19 = .ok (.putfield 15, 3) := by decide +kernel
theorem dX8_init_22 : decode cX8_init 22 = .ok (.aload_n 0, 1) := by decide +kernel
theorem dX8_init_23 : decode cX8_init 23 = .ok (.sipush 160, 3) := by decide +kernel
theorem dX8_init_26 : decode cX8_init 26 = .ok (.newarray .int, 2) := by decide +kernel
theorem dX8_init_28 : decode cX8_init 28 = .ok (.putfield 18, 3) := by decide +kernel
theorem dX8_init_31 : decode cX8_init 31 = .ok (.aload_n 0, 1) := by decide +kernel
theorem dX8_init_32 : decode cX8_init 32 = .ok (.sipush 160, 3) := by decide +kernel
theorem dX8_init_35 : decode cX8_init 35 = .ok (.newarray .int, 2) := by decide +kernel
theorem dX8_init_37 : decode cX8_init 37 = .ok (.putfield 21, 3) := by decide +kernel
theorem dX8_init_40 : decode cX8_init 40 = .ok (.aload_n 0, 1) := by decide +kernel
theorem dX8_init_41 : decode cX8_init 41 = .ok (.sipush 160, 3) := by decide +kernel
theorem dX8_init_44 : decode cX8_init 44 = .ok (.newarray .long, 2) := by decide +kernel
theorem dX8_init_46 : decode cX8_init 46 = .ok (.putfield 24, 3) := by decide +kernel
theorem dX8_init_49 : decode cX8_init 49 = .ok (.aload_n 0, 1) := by decide +kernel
theorem dX8_init_50 : decode cX8_init 50 = .ok (.bipush 81, 2) := by decide +kernel
theorem dX8_init_52 : decode cX8_init 52 = .ok (.newarray .int, 2) := by decide +kernel
theorem dX8_init_54 : decode cX8_init 54 = .ok (.putfield 28, 3) := by decide +kernel
theorem dX8_init_57 : decode cX8_init 57 = .ok (.aload_n 0, 1) := by decide +kernel
theorem dX8_init_58 : decode cX8_init 58 = .ok (.bipush 81, 2) := by decide +kernel
theorem dX8_init_60 : decode cX8_init 60 = .ok (.newarray .int, 2) := by decide +kernel
theorem dX8_init_62 : decode cX8_init 62 = .ok (.putfield 31, 3) := by decide +kernel
theorem dX8_init_65 : decode cX8_init 65 = .ok (.aload_n 0, 1) := by decide +kernel
theorem dX8_init_66 : decode cX8_init 66 = .ok (.bipush 81, 2) := by decide +kernel
theorem dX8_init_68 : decode cX8_init 68 = .ok (.newarray .int, 2) := by decide +kernel
theorem dX8_init_70 : decode cX8_init 70 = .ok (.putfield 34, 3) := by decide +kernel
theorem dX8_init_73 : decode cX8_init 73 = .ok (.return_, 1) := by decide +kernel
set_option maxRecDepth 20000 in
theorem ggX8_plant_X7_faultAt : GoodIn wsX8_plant wsX7_faultAt := goodIn_r _ [12, 13, 14, 15, 16, 11, 17, 18, 87, 88] (by decide +kernel) (by decide +kernel)
set_option maxRecDepth 20000 in
theorem gX8_plant_X7_faultAt : GoodIn wsX8_plant (wsV RX8 37 RX7 yX7_faultAt wsX7_faultAt) := goodIn_app (goodIn_of _ (by decide +kernel)) ggX8_plant_X7_faultAt
set_option maxRecDepth 20000 in
theorem ggX8_plant_X8_openLevel : GoodIn wsX8_plant wsX8_openLevel := goodIn_r _ [23, 24, 2, 25, 26, 27, 28, 29, 22, 30, 76, 77, 78, 79, 80, 81, 82, 83, 84, 85, 86] (by decide +kernel) (by decide +kernel)
set_option maxRecDepth 20000 in
theorem gX8_plant_X8_openLevel : GoodIn wsX8_plant (wsV RX8 50 RX8 yX8_openLevel wsX8_openLevel) := goodIn_app (goodIn_of _ (by decide +kernel)) ggX8_plant_X8_openLevel
set_option maxRecDepth 20000 in
theorem ggX8_plant_X7_at : GoodIn wsX8_plant wsX7_at := goodIn_r _ [17, 13, 18, 87, 88] (by decide +kernel) (by decide +kernel)
set_option maxRecDepth 20000 in
theorem gX8_plant_X7_at : GoodIn wsX8_plant (wsV RX8 54 RX7 yX7_at wsX7_at) := goodIn_app (goodIn_of _ (by decide +kernel)) ggX8_plant_X7_at
set_option maxRecDepth 20000 in
theorem ggX8_plant_X8_plantSign : GoodIn wsX8_plant wsX8_plantSign := goodIn_r _ [35, 2, 36, 37, 38, 22, 39, 25, 26, 27, 28, 29, 30, 40, 41, 42, 43, 44, 45, 46, 47, 1, 5, 6, 7, 19, 20, 21, 23, 24, 48, 49, 50, 51, 52, 53, 54, 55, 56, 57, 58, 59, 76, 77, 78, 79, 80, 81, 82, 83, 84, 85, 86] (by decide +kernel) (by decide +kernel)
set_option maxRecDepth 20000 in
theorem gX8_plant_X8_plantSign : GoodIn wsX8_plant (wsV RX8 57 RX8 yX8_plantSign wsX8_plantSign) := goodIn_app (goodIn_of _ (by decide +kernel)) ggX8_plant_X8_plantSign
set_option maxRecDepth 20000 in
theorem ggX8_plant_X8_closeSum : GoodIn wsX8_plant wsX8_closeSum := goodIn_r _ [51, 24, 2, 25, 27, 28, 29, 22, 30, 36, 37, 38, 39, 26, 40, 41, 42, 43, 44, 45, 46, 47, 1, 5, 6, 7, 76, 77, 78, 79, 80, 81, 82, 83, 84, 85, 86] (by decide +kernel) (by decide +kernel)
set_option maxRecDepth 20000 in
theorem gX8_plant_X8_closeSum : GoodIn wsX8_plant (wsV RX8 61 RX8 yX8_closeSum wsX8_closeSum) := goodIn_app (goodIn_of _ (by decide +kernel)) ggX8_plant_X8_closeSum
set_option maxRecDepth 20000 in
theorem ggX8_plant_X8_findLeast : GoodIn wsX8_plant wsX8_findLeast := goodIn_r _ [63, 64, 65, 66, 67, 68, 69, 70, 22, 71, 4, 72, 73, 74, 75, 1, 76, 77, 78, 79, 80, 81, 82, 83, 84, 85, 86] (by decide +kernel) (by decide +kernel)
set_option maxRecDepth 20000 in
theorem gX8_plant_X8_findLeast : GoodIn wsX8_plant (wsV RX8 68 RX8 yX8_findLeast wsX8_findLeast) := goodIn_app (goodIn_of _ (by decide +kernel)) ggX8_plant_X8_findLeast
theorem dX8_plant_0 : decode cX8_plant 0 = .ok (.aload_n 1, 1) := by decide +kernel
theorem dX8_plant_1 : decode cX8_plant 1 = .ok (.iload_n 2, 1) := by decide +kernel
theorem dX8_plant_2 : decode cX8_plant 2 = .ok (.invokevirtual 37, 3) := by decide +kernel
theorem dX8_plant_5 : decode cX8_plant 5 = .ok (.iconst (-1), 1) := by decide +kernel
theorem dX8_plant_6 : decode cX8_plant 6 = .ok (.if_icmp .eq 5, 3) := by decide +kernel
theorem dX8_plant_9 : decode cX8_plant 9 = .ok (.iconst 0, 1) := by decide +kernel
theorem dX8_plant_10 : decode cX8_plant 10 = .ok (.ireturn, 1) := by decide +kernel
theorem dX8_plant_11 : decode cX8_plant 11 = .ok (.aload_n 0, 1) := by decide +kernel
theorem dX8_plant_12 : decode cX8_plant 12 = .ok (.iconst 0, 1) := by decide +kernel
theorem dX8_plant_13 : decode cX8_plant 13 = .ok (.putfield 43, 3) := by decide +kernel
theorem dX8_plant_16 : decode cX8_plant 16 = .ok (.aload_n 0, 1) := by decide +kernel
theorem dX8_plant_17 : decode cX8_plant 17 = .ok (.iconst 0, 1) := by decide +kernel
theorem dX8_plant_18 : decode cX8_plant 18 = .ok (.putfield 47, 3) := by decide +kernel
theorem dX8_plant_21 : decode cX8_plant 21 = .ok (.aload_n 0, 1) := by decide +kernel
theorem dX8_plant_22 : decode cX8_plant 22 = .ok (.invokevirtual 50, 3) := by decide +kernel
theorem dX8_plant_25 : decode cX8_plant 25 = .ok (.iconst 0, 1) := by decide +kernel
theorem dX8_plant_26 : decode cX8_plant 26 = .ok (.istore_n 3, 1) := by decide +kernel
theorem dX8_plant_27 : decode cX8_plant 27 = .ok (.iload_n 3, 1) := by decide +kernel
theorem dX8_plant_28 : decode cX8_plant 28 = .ok (.aload_n 1, 1) := by decide +kernel
theorem dX8_plant_29 : decode cX8_plant 29 = .ok (.getfield 53, 3) := by decide +kernel
theorem dX8_plant_32 : decode cX8_plant 32 = .ok (.if_icmp .ge 18, 3) := by decide +kernel
theorem dX8_plant_35 : decode cX8_plant 35 = .ok (.aload_n 0, 1) := by decide +kernel
theorem dX8_plant_36 : decode cX8_plant 36 = .ok (.aload_n 1, 1) := by decide +kernel
theorem dX8_plant_37 : decode cX8_plant 37 = .ok (.iload_n 3, 1) := by decide +kernel
theorem dX8_plant_38 : decode cX8_plant 38 = .ok (.invokevirtual 54, 3) := by decide +kernel
theorem dX8_plant_41 : decode cX8_plant 41 = .ok (.invokevirtual 57, 3) := by decide +kernel
theorem dX8_plant_44 : decode cX8_plant 44 = .ok (.iinc 3 1, 3) := by decide +kernel
theorem dX8_plant_47 : decode cX8_plant 47 = .ok (.goto (-20), 3) := by decide +kernel
theorem dX8_plant_50 : decode cX8_plant 50 = .ok (.aload_n 0, 1) := by decide +kernel
theorem dX8_plant_51 : decode cX8_plant 51 = .ok (.aload_n 0, 1) := by decide +kernel
theorem dX8_plant_52 : decode cX8_plant 52 = .ok (.invokevirtual 61, 3) := by decide +kernel
theorem dX8_plant_55 : decode cX8_plant 55 = .ok (.putfield 65, 3) := by decide +kernel
theorem dX8_plant_58 : decode cX8_plant 58 = .ok (.iconst 0, 1) := by decide +kernel
theorem dX8_plant_59 : decode cX8_plant 59 = .ok (.istore_n 3, 1) := by decide +kernel
theorem dX8_plant_60 : decode cX8_plant 60 = .ok (.iload_n 3, 1) := by decide +kernel
theorem dX8_plant_61 : decode cX8_plant 61 = .ok (.aload_n 0, 1) := by decide +kernel
theorem dX8_plant_62 : decode cX8_plant 62 = .ok (.getfield 43, 3) := by decide +kernel
theorem dX8_plant_65 : decode cX8_plant 65 = .ok (.if_icmp .ge 44, 3) := by decide +kernel
theorem dX8_plant_68 : decode cX8_plant 68 = .ok (.iload_n 3, 1) := by decide +kernel
theorem dX8_plant_69 : decode cX8_plant 69 = .ok (.sipush 160, 3) := by decide +kernel
theorem dX8_plant_72 : decode cX8_plant 72 = .ok (.if_icmp .ge 37, 3) := by decide +kernel
theorem dX8_plant_75 : decode cX8_plant 75 = .ok (.aload_n 0, 1) := by decide +kernel
theorem dX8_plant_76 : decode cX8_plant 76 = .ok (.getfield 21, 3) := by decide +kernel
theorem dX8_plant_79 : decode cX8_plant 79 = .ok (.iload_n 3, 1) := by decide +kernel
theorem dX8_plant_80 : decode cX8_plant 80 = .ok (.aload_n 0, 1) := by decide +kernel
theorem dX8_plant_81 : decode cX8_plant 81 = .ok (.aload_n 0, 1) := by decide +kernel
theorem dX8_plant_82 : decode cX8_plant 82 = .ok (.getfield 9, 3) := by decide +kernel
theorem dX8_plant_85 : decode cX8_plant 85 = .ok (.iload_n 3, 1) := by decide +kernel
theorem dX8_plant_86 : decode cX8_plant 86 = .ok (.iaload, 1) := by decide +kernel
theorem dX8_plant_87 : decode cX8_plant 87 = .ok (.aload_n 0, 1) := by decide +kernel
theorem dX8_plant_88 : decode cX8_plant 88 = .ok (.getfield 15, 3) := by decide +kernel
theorem dX8_plant_91 : decode cX8_plant 91 = .ok (.iload_n 3, 1) := by decide +kernel
theorem dX8_plant_92 : decode cX8_plant 92 = .ok (.iaload, 1) := by decide +kernel
theorem dX8_plant_93 : decode cX8_plant 93 = .ok (.aload_n 0, 1) := by decide +kernel
theorem dX8_plant_94 : decode cX8_plant 94 = .ok (.getfield 18, 3) := by decide +kernel
theorem dX8_plant_97 : decode cX8_plant 97 = .ok (.iload_n 3, 1) := by decide +kernel
theorem dX8_plant_98 : decode cX8_plant 98 = .ok (.iaload, 1) := by decide +kernel
theorem dX8_plant_99 : decode cX8_plant 99 = .ok (.invokevirtual 68, 3) := by decide +kernel
theorem dX8_plant_102 : decode cX8_plant 102 = .ok (.iastore, 1) := by decide +kernel
theorem dX8_plant_103 : decode cX8_plant 103 = .ok (.iinc 3 1, 3) := by decide +kernel
theorem dX8_plant_106 : decode cX8_plant 106 = .ok (.goto (-46), 3) := by decide +kernel
theorem dX8_plant_109 : decode cX8_plant 109 = .ok (.iconst 1, 1) := by decide +kernel
theorem dX8_plant_110 : decode cX8_plant 110 = .ok (.ireturn, 1) := by decide +kernel
set_option maxRecDepth 20000 in
theorem ggX8_leastLength_X8_leastOf : GoodIn wsX8_leastLength wsX8_leastOf := goodIn_r _ [6, 7, 8, 9, 10, 5, 11, 12, 13, 14, 15, 16, 17, 18, 19, 20, 21, 22, 23] (by decide +kernel) (by decide +kernel)
set_option maxRecDepth 20000 in
theorem gX8_leastLength_X8_leastOf : GoodIn wsX8_leastLength (wsV RX8 72 RX8 yX8_leastOf wsX8_leastOf) := goodIn_app (goodIn_of _ (by decide +kernel)) ggX8_leastLength_X8_leastOf
theorem dX8_leastLength_0 : decode cX8_leastLength 0 = .ok (.aload_n 0, 1) := by decide +kernel
theorem dX8_leastLength_1 : decode cX8_leastLength 1 = .ok (.aload_n 0, 1) := by decide +kernel
theorem dX8_leastLength_2 : decode cX8_leastLength 2 = .ok (.getfield 65, 3) := by decide +kernel
theorem dX8_leastLength_5 : decode cX8_leastLength 5 = .ok (.invokevirtual 72, 3) := by decide +kernel
theorem dX8_leastLength_8 : decode cX8_leastLength 8 = .ok (.ireturn, 1) := by decide +kernel
set_option maxRecDepth 20000 in
theorem ggX8_hasConnectedStars_X0_connectedSets : GoodIn wsX8_hasConnectedStars wsX0_connectedSets := goodIn_r _ [11, 12, 13, 14, 15, 10, 16, 17, 18, 19, 20, 21, 55, 56] (by decide +kernel) (by decide +kernel)
set_option maxRecDepth 20000 in
theorem gX8_hasConnectedStars_X0_connectedSets : GoodIn wsX8_hasConnectedStars (wsV RX8 75 RX0 yX0_connectedSets wsX0_connectedSets) := goodIn_app (goodIn_of _ (by decide +kernel)) ggX8_hasConnectedStars_X0_connectedSets
set_option maxRecDepth 20000 in
theorem ggX8_hasConnectedStars_X8_setsOf : GoodIn wsX8_hasConnectedStars wsX8_setsOf := goodIn_r _ [26, 5, 27, 28, 29, 25, 30, 1, 44, 45, 46, 47, 48, 49, 50, 51, 52, 53, 54] (by decide +kernel) (by decide +kernel)
set_option maxRecDepth 20000 in
theorem gX8_hasConnectedStars_X8_setsOf : GoodIn wsX8_hasConnectedStars (wsV RX8 81 RX8 yX8_setsOf wsX8_setsOf) := goodIn_app (goodIn_of _ (by decide +kernel)) ggX8_hasConnectedStars_X8_setsOf
set_option maxRecDepth 20000 in
theorem ggX8_hasConnectedStars_X8_joinSets : GoodIn wsX8_hasConnectedStars wsX8_joinSets := goodIn_r _ [33, 34, 35, 25, 36, 37, 38, 39, 40, 4, 41, 42, 43] (by decide +kernel) (by decide +kernel)
set_option maxRecDepth 20000 in
theorem gX8_hasConnectedStars_X8_joinSets : GoodIn wsX8_hasConnectedStars (va_wsS RX8 87 yX8_joinSets wsX8_joinSets) := goodIn_app (goodIn_of _ (by decide +kernel)) ggX8_hasConnectedStars_X8_joinSets
theorem dX8_hasConnectedStars_0 : decode cX8_hasConnectedStars 0 = .ok (.aload_n 1, 1) := by decide +kernel
theorem dX8_hasConnectedStars_1 : decode cX8_hasConnectedStars 1 = .ok (.invokevirtual 75, 3) := by decide +kernel
theorem dX8_hasConnectedStars_4 : decode cX8_hasConnectedStars 4 = .ok (.lstore_n 2, 1) := by decide +kernel
theorem dX8_hasConnectedStars_5 : decode cX8_hasConnectedStars 5 = .ok (.iconst 0, 1) := by decide +kernel
theorem dX8_hasConnectedStars_6 : decode cX8_hasConnectedStars 6 = .ok (.istore 4, 2) := by decide +kernel
theorem dX8_hasConnectedStars_8 : decode cX8_hasConnectedStars 8 = .ok (.iload 4, 2) := by decide +kernel
theorem dX8_hasConnectedStars_10 : decode cX8_hasConnectedStars 10 = .ok (.aload_n 0, 1) := by decide +kernel
theorem dX8_hasConnectedStars_11 : decode cX8_hasConnectedStars 11 = .ok (.getfield 43, 3) := by decide +kernel
theorem dX8_hasConnectedStars_14 : decode cX8_hasConnectedStars 14 = .ok (.if_icmp .ge 93, 3) := by decide +kernel
theorem dX8_hasConnectedStars_17 : decode cX8_hasConnectedStars 17 = .ok (.iload 4, 2) := by decide +kernel
theorem dX8_hasConnectedStars_19 : decode cX8_hasConnectedStars 19 = .ok (.sipush 160, 3) := by decide +kernel
theorem dX8_hasConnectedStars_22 : decode cX8_hasConnectedStars 22 = .ok (.if_icmp .ge 85, 3) := by decide +kernel
theorem dX8_hasConnectedStars_25 : decode cX8_hasConnectedStars 25 = .ok (.aload_n 0, 1) := by decide +kernel
theorem dX8_hasConnectedStars_26 : decode cX8_hasConnectedStars 26 = .ok (.aload_n 0, 1) := by decide +kernel
theorem dX8_hasConnectedStars_27 : decode cX8_hasConnectedStars 27 = .ok (.getfield 15, 3) := by decide +kernel
theorem dX8_hasConnectedStars_30 : decode cX8_hasConnectedStars 30 = .ok (.iload 4, 2) := by decide +kernel
theorem dX8_hasConnectedStars_32 : decode cX8_hasConnectedStars 32 = .ok (.iaload, 1) := by decide +kernel
theorem dX8_hasConnectedStars_33 : decode cX8_hasConnectedStars 33 = .ok (.invokevirtual 81, 3) := by decide +kernel
theorem dX8_hasConnectedStars_36 : decode cX8_hasConnectedStars 36 = .ok (.lstore 5, 2) := by decide +kernel
theorem dX8_hasConnectedStars_38 : decode cX8_hasConnectedStars 38 = .ok (.aload_n 0, 1) := by decide +kernel
theorem dX8_hasConnectedStars_39 : decode cX8_hasConnectedStars 39 = .ok (.getfield 9, 3) := by decide +kernel
theorem dX8_hasConnectedStars_42 : decode cX8_hasConnectedStars 42 = .ok (.iload 4, 2) := by decide +kernel
theorem dX8_hasConnectedStars_44 : decode cX8_hasConnectedStars 44 = .ok (.iaload, 1) := by decide +kernel
theorem dX8_hasConnectedStars_45 : decode cX8_hasConnectedStars 45 = .ok (.iconst 4, 1) := by decide +kernel
theorem dX8_hasConnectedStars_46 : decode cX8_hasConnectedStars 46 = .ok (.if_icmp .ne 18, 3) := by decide +kernel
theorem dX8_hasConnectedStars_49 : decode cX8_hasConnectedStars 49 = .ok (.lload 5, 2) := by decide +kernel
theorem dX8_hasConnectedStars_51 : decode cX8_hasConnectedStars 51 = .ok (.lload_n 2, 1) := by decide +kernel
theorem dX8_hasConnectedStars_52 : decode cX8_hasConnectedStars 52 = .ok (.ldc2_w 85, 3) := by decide +kernel
theorem dX8_hasConnectedStars_55 : decode cX8_hasConnectedStars 55 = .ok (.lxor, 1) := by decide +kernel
theorem dX8_hasConnectedStars_56 : decode cX8_hasConnectedStars 56 = .ok (.land, 1) := by decide +kernel
theorem dX8_hasConnectedStars_57 : decode cX8_hasConnectedStars 57 = .ok (.lconst 0, 1) := by decide +kernel
theorem dX8_hasConnectedStars_58 : decode cX8_hasConnectedStars 58 = .ok (.lcmp, 1) := by decide +kernel
theorem dX8_hasConnectedStars_59 : decode cX8_hasConnectedStars 59 = .ok (.ifCond .eq 5, 3) := by decide +kernel
theorem dX8_hasConnectedStars_62 : decode cX8_hasConnectedStars 62 = .ok (.iconst 0, 1) := by decide +kernel
theorem dX8_hasConnectedStars_63 : decode cX8_hasConnectedStars 63 = .ok (.ireturn, 1) := by decide +kernel
theorem dX8_hasConnectedStars_64 : decode cX8_hasConnectedStars 64 = .ok (.aload_n 0, 1) := by decide +kernel
theorem dX8_hasConnectedStars_65 : decode cX8_hasConnectedStars 65 = .ok (.getfield 24, 3) := by decide +kernel
theorem dX8_hasConnectedStars_68 : decode cX8_hasConnectedStars 68 = .ok (.iload 4, 2) := by decide +kernel
theorem dX8_hasConnectedStars_70 : decode cX8_hasConnectedStars 70 = .ok (.aload_n 0, 1) := by decide +kernel
theorem dX8_hasConnectedStars_71 : decode cX8_hasConnectedStars 71 = .ok (.getfield 9, 3) := by decide +kernel
theorem dX8_hasConnectedStars_74 : decode cX8_hasConnectedStars 74 = .ok (.iload 4, 2) := by decide +kernel
theorem dX8_hasConnectedStars_76 : decode cX8_hasConnectedStars 76 = .ok (.iaload, 1) := by decide +kernel
theorem dX8_hasConnectedStars_77 : decode cX8_hasConnectedStars 77 = .ok (.aload_n 0, 1) := by decide +kernel
theorem dX8_hasConnectedStars_78 : decode cX8_hasConnectedStars 78 = .ok (.getfield 15, 3) := by decide +kernel
theorem dX8_hasConnectedStars_81 : decode cX8_hasConnectedStars 81 = .ok (.iload 4, 2) := by decide +kernel
theorem dX8_hasConnectedStars_83 : decode cX8_hasConnectedStars 83 = .ok (.iaload, 1) := by decide +kernel
theorem dX8_hasConnectedStars_84 : decode cX8_hasConnectedStars 84 = .ok (.lload 5, 2) := by decide +kernel
theorem dX8_hasConnectedStars_86 : decode cX8_hasConnectedStars 86 = .ok (.aload_n 0, 1) := by decide +kernel
theorem dX8_hasConnectedStars_87 : decode cX8_hasConnectedStars 87 = .ok (.aload_n 0, 1) := by decide +kernel
theorem dX8_hasConnectedStars_88 : decode cX8_hasConnectedStars 88 = .ok (.getfield 18, 3) := by decide +kernel
theorem dX8_hasConnectedStars_91 : decode cX8_hasConnectedStars 91 = .ok (.iload 4, 2) := by decide +kernel
theorem dX8_hasConnectedStars_93 : decode cX8_hasConnectedStars 93 = .ok (.iaload, 1) := by decide +kernel
theorem dX8_hasConnectedStars_94 : decode cX8_hasConnectedStars 94 = .ok (.invokevirtual 81, 3) := by decide +kernel
theorem dX8_hasConnectedStars_97 : decode cX8_hasConnectedStars 97 = .ok (.invokestatic 87, 3) := by decide +kernel
theorem dX8_hasConnectedStars_100 : decode cX8_hasConnectedStars 100 = .ok (.lastore, 1) := by decide +kernel
theorem dX8_hasConnectedStars_101 : decode cX8_hasConnectedStars 101 = .ok (.iinc 4 1, 3) := by decide +kernel
theorem dX8_hasConnectedStars_104 : decode cX8_hasConnectedStars 104 = .ok (.goto (-96), 3) := by decide +kernel
theorem dX8_hasConnectedStars_107 : decode cX8_hasConnectedStars 107 = .ok (.iconst 1, 1) := by decide +kernel
theorem dX8_hasConnectedStars_108 : decode cX8_hasConnectedStars 108 = .ok (.ireturn, 1) := by decide +kernel
theorem dX8_isNode_0 : decode cX8_isNode 0 = .ok (.iload_n 1, 1) := by decide +kernel
theorem dX8_isNode_1 : decode cX8_isNode 1 = .ok (.ifCond .lt 22, 3) := by decide +kernel
theorem dX8_isNode_4 : decode cX8_isNode 4 = .ok (.iload_n 1, 1) := by decide +kernel
theorem dX8_isNode_5 : decode cX8_isNode 5 = .ok (.aload_n 0, 1) := by decide +kernel
theorem dX8_isNode_6 : decode cX8_isNode 6 = .ok (.getfield 43, 3) := by decide +kernel
theorem dX8_isNode_9 : decode cX8_isNode 9 = .ok (.if_icmp .ge 14, 3) := by decide +kernel
theorem dX8_isNode_12 : decode cX8_isNode 12 = .ok (.iload_n 1, 1) := by decide +kernel
theorem dX8_isNode_13 : decode cX8_isNode 13 = .ok (.sipush 160, 3) := by decide +kernel
theorem dX8_isNode_16 : decode cX8_isNode 16 = .ok (.if_icmp .ge 7, 3) := by decide +kernel
theorem dX8_isNode_19 : decode cX8_isNode 19 = .ok (.iconst 1, 1) := by decide +kernel
theorem dX8_isNode_20 : decode cX8_isNode 20 = .ok (.goto 4, 3) := by decide +kernel
theorem dX8_isNode_23 : decode cX8_isNode 23 = .ok (.iconst 0, 1) := by decide +kernel
theorem dX8_isNode_24 : decode cX8_isNode 24 = .ok (.ireturn, 1) := by decide +kernel
set_option maxRecDepth 20000 in
theorem ggX8_plantSign_X8_closeProduct : GoodIn wsX8_plantSign wsX8_closeProduct := goodIn_r _ [6, 7, 1, 8, 9, 10, 11, 5, 12, 13, 14, 15, 16, 17, 18, 19, 20, 21, 22, 23, 24, 42, 43, 44, 45, 46, 47, 48, 49, 50, 51, 52] (by decide +kernel) (by decide +kernel)
set_option maxRecDepth 20000 in
theorem gX8_plantSign_X8_closeProduct : GoodIn wsX8_plantSign (wsV RX8 91 RX8 yX8_closeProduct wsX8_closeProduct) := goodIn_app (goodIn_of _ (by decide +kernel)) ggX8_plantSign_X8_closeProduct
set_option maxRecDepth 20000 in
theorem ggX8_plantSign_X8_openLevel : GoodIn wsX8_plantSign wsX8_openLevel := goodIn_r _ [28, 29, 1, 7, 8, 9, 10, 11, 5, 12, 42, 43, 44, 45, 46, 47, 48, 49, 50, 51, 52] (by decide +kernel) (by decide +kernel)
set_option maxRecDepth 20000 in
theorem gX8_plantSign_X8_openLevel : GoodIn wsX8_plantSign (wsV RX8 50 RX8 yX8_openLevel wsX8_openLevel) := goodIn_app (goodIn_of _ (by decide +kernel)) ggX8_plantSign_X8_openLevel
set_option maxRecDepth 20000 in
theorem ggX8_plantSign_X8_closeSum : GoodIn wsX8_plantSign wsX8_closeSum := goodIn_r _ [33, 29, 1, 7, 9, 10, 11, 5, 12, 2, 3, 4, 6, 8, 13, 14, 15, 16, 17, 18, 19, 20, 21, 22, 23, 24, 42, 43, 44, 45, 46, 47, 48, 49, 50, 51, 52] (by decide +kernel) (by decide +kernel)
set_option maxRecDepth 20000 in
theorem gX8_plantSign_X8_closeSum : GoodIn wsX8_plantSign (wsV RX8 61 RX8 yX8_closeSum wsX8_closeSum) := goodIn_app (goodIn_of _ (by decide +kernel)) ggX8_plantSign_X8_closeSum
set_option maxRecDepth 20000 in
theorem ggX8_plantSign_X8_putItem : GoodIn wsX8_plantSign wsX8_putItem := goodIn_r _ [37, 8, 1, 9, 10, 11, 5, 12, 42, 43, 44, 45, 46, 47, 48, 49, 50, 51, 52] (by decide +kernel) (by decide +kernel)
set_option maxRecDepth 20000 in
theorem gX8_plantSign_X8_putItem : GoodIn wsX8_plantSign (wsV RX8 94 RX8 yX8_putItem wsX8_putItem) := goodIn_app (goodIn_of _ (by decide +kernel)) ggX8_plantSign_X8_putItem
set_option maxRecDepth 20000 in
theorem ggX8_plantSign_X8_getItem : GoodIn wsX8_plantSign wsX8_getItem := goodIn_r _ [41, 8, 1, 9, 10, 11, 5, 12, 42, 43, 44, 45, 46, 47, 48, 49, 50, 51, 52] (by decide +kernel) (by decide +kernel)
set_option maxRecDepth 20000 in
theorem gX8_plantSign_X8_getItem : GoodIn wsX8_plantSign (wsV RX8 97 RX8 yX8_getItem wsX8_getItem) := goodIn_app (goodIn_of _ (by decide +kernel)) ggX8_plantSign_X8_getItem
set_option maxRecDepth 20000 in
theorem ggX8_plantSign_X8_addNode : GoodIn wsX8_plantSign wsX8_addNode := goodIn_r _ [20, 21, 22, 23, 24, 42, 43, 44, 45, 46, 47, 48, 49, 50, 51, 52] (by decide +kernel) (by decide +kernel)
set_option maxRecDepth 20000 in
theorem gX8_plantSign_X8_addNode : GoodIn wsX8_plantSign (wsV RX8 100 RX8 yX8_addNode wsX8_addNode) := goodIn_app (goodIn_of _ (by decide +kernel)) ggX8_plantSign_X8_addNode
theorem dX8_plantSign_0 : decode cX8_plantSign 0 = .ok (.iload_n 1, 1) := by decide +kernel
theorem dX8_plantSign_1 : decode cX8_plantSign 1 = .ok (.tableswitch 142 40 49 #[55, 76, 99, 116, 142, 142, 142, 142, 142, 124], 55) := by decide +kernel
theorem dX8_plantSign_56 : decode cX8_plantSign 56 = .ok (.aload_n 0, 1) := by decide +kernel
theorem dX8_plantSign_57 : decode cX8_plantSign 57 = .ok (.invokevirtual 91, 3) := by decide +kernel
theorem dX8_plantSign_60 : decode cX8_plantSign 60 = .ok (.aload_n 0, 1) := by decide +kernel
theorem dX8_plantSign_61 : decode cX8_plantSign 61 = .ok (.dup, 1) := by decide +kernel
theorem dX8_plantSign_62 : decode cX8_plantSign 62 = .ok (.getfield 47, 3) := by decide +kernel
theorem dX8_plantSign_65 : decode cX8_plantSign 65 = .ok (.iconst 1, 1) := by decide +kernel
theorem dX8_plantSign_66 : decode cX8_plantSign 66 = .ok (.iadd, 1) := by decide +kernel
theorem dX8_plantSign_67 : decode cX8_plantSign 67 = .ok (.putfield 47, 3) := by decide +kernel
theorem dX8_plantSign_70 : decode cX8_plantSign 70 = .ok (.aload_n 0, 1) := by decide +kernel
theorem dX8_plantSign_71 : decode cX8_plantSign 71 = .ok (.invokevirtual 50, 3) := by decide +kernel
theorem dX8_plantSign_74 : decode cX8_plantSign 74 = .ok (.goto 87, 3) := by decide +kernel
theorem dX8_plantSign_77 : decode cX8_plantSign 77 = .ok (.aload_n 0, 1) := by decide +kernel
theorem dX8_plantSign_78 : decode cX8_plantSign 78 = .ok (.invokevirtual 61, 3) := by decide +kernel
theorem dX8_plantSign_81 : decode cX8_plantSign 81 = .ok (.istore_n 2, 1) := by decide +kernel
theorem dX8_plantSign_82 : decode cX8_plantSign 82 = .ok (.aload_n 0, 1) := by decide +kernel
theorem dX8_plantSign_83 : decode cX8_plantSign 83 = .ok (.dup, 1) := by decide +kernel
theorem dX8_plantSign_84 : decode cX8_plantSign 84 = .ok (.getfield 47, 3) := by decide +kernel
theorem dX8_plantSign_87 : decode cX8_plantSign 87 = .ok (.iconst 1, 1) := by decide +kernel
theorem dX8_plantSign_88 : decode cX8_plantSign 88 = .ok (.isub, 1) := by decide +kernel
theorem dX8_plantSign_89 : decode cX8_plantSign 89 = .ok (.putfield 47, 3) := by decide +kernel
theorem dX8_plantSign_92 : decode cX8_plantSign 92 = .ok (.aload_n 0, 1) := by decide +kernel
theorem dX8_plantSign_93 : decode cX8_plantSign 93 = .ok (.iload_n 2, 1) := by decide +kernel
theorem dX8_plantSign_94 : decode cX8_plantSign 94 = .ok (.invokevirtual 94, 3) := by decide +kernel
theorem dX8_plantSign_97 : decode cX8_plantSign 97 = .ok (.goto 64, 3) := by decide +kernel
theorem dX8_plantSign_100 : decode cX8_plantSign 100 = .ok (.aload_n 0, 1) := by decide +kernel
theorem dX8_plantSign_101 : decode cX8_plantSign 101 = .ok (.aload_n 0, 1) := by decide +kernel
theorem dX8_plantSign_102 : decode cX8_plantSign 102 = .ok (.iconst 4, 1) := by decide +kernel
theorem dX8_plantSign_103 : decode cX8_plantSign 103 = .ok (.aload_n 0, 1) := by decide +kernel
theorem dX8_plantSign_104 : decode cX8_plantSign 104 = .ok (.invokevirtual 97, 3) := by decide +kernel
theorem dX8_plantSign_107 : decode cX8_plantSign 107 = .ok (.iconst (-1), 1) := by decide +kernel
theorem dX8_plantSign_108 : decode cX8_plantSign 108 = .ok (.invokevirtual 100, 3) := by decide +kernel
theorem dX8_plantSign_111 : decode cX8_plantSign 111 = .ok (.invokevirtual 94, 3) := by decide +kernel
theorem dX8_plantSign_114 : decode cX8_plantSign 114 = .ok (.goto 47, 3) := by decide +kernel
theorem dX8_plantSign_117 : decode cX8_plantSign 117 = .ok (.aload_n 0, 1) := by decide +kernel
theorem dX8_plantSign_118 : decode cX8_plantSign 118 = .ok (.invokevirtual 61, 3) := by decide +kernel
theorem dX8_plantSign_121 : decode cX8_plantSign 121 = .ok (.pop, 1) := by decide +kernel
theorem dX8_plantSign_122 : decode cX8_plantSign 122 = .ok (.goto 39, 3) := by decide +kernel
theorem dX8_plantSign_125 : decode cX8_plantSign 125 = .ok (.aload_n 0, 1) := by decide +kernel
theorem dX8_plantSign_126 : decode cX8_plantSign 126 = .ok (.invokevirtual 91, 3) := by decide +kernel
theorem dX8_plantSign_129 : decode cX8_plantSign 129 = .ok (.aload_n 0, 1) := by decide +kernel
theorem dX8_plantSign_130 : decode cX8_plantSign 130 = .ok (.aload_n 0, 1) := by decide +kernel
theorem dX8_plantSign_131 : decode cX8_plantSign 131 = .ok (.iconst 0, 1) := by decide +kernel
theorem dX8_plantSign_132 : decode cX8_plantSign 132 = .ok (.iconst (-1), 1) := by decide +kernel
theorem dX8_plantSign_133 : decode cX8_plantSign 133 = .ok (.iconst (-1), 1) := by decide +kernel
theorem dX8_plantSign_134 : decode cX8_plantSign 134 = .ok (.invokevirtual 100, 3) := by decide +kernel
theorem dX8_plantSign_137 : decode cX8_plantSign 137 = .ok (.invokevirtual 94, 3) := by decide +kernel
theorem dX8_plantSign_140 : decode cX8_plantSign 140 = .ok (.goto 21, 3) := by decide +kernel
theorem dX8_plantSign_143 : decode cX8_plantSign 143 = .ok (.aload_n 0, 1) := by decide +kernel
theorem dX8_plantSign_144 : decode cX8_plantSign 144 = .ok (.invokevirtual 91, 3) := by decide +kernel
theorem dX8_plantSign_147 : decode cX8_plantSign 147 = .ok (.aload_n 0, 1) := by decide +kernel
theorem dX8_plantSign_148 : decode cX8_plantSign 148 = .ok (.aload_n 0, 1) := by decide +kernel
theorem dX8_plantSign_149 : decode cX8_plantSign 149 = .ok (.iconst 1, 1) := by decide +kernel
theorem dX8_plantSign_150 : decode cX8_plantSign 150 = .ok (.iload_n 1, 1) := by decide +kernel
theorem dX8_plantSign_151 : decode cX8_plantSign 151 = .ok (.bipush 97, 2) := by decide +kernel
theorem dX8_plantSign_153 : decode cX8_plantSign 153 = .ok (.isub, 1) := by decide +kernel
theorem dX8_plantSign_154 : decode cX8_plantSign 154 = .ok (.iconst (-1), 1) := by decide +kernel
theorem dX8_plantSign_155 : decode cX8_plantSign 155 = .ok (.invokevirtual 100, 3) := by decide +kernel
theorem dX8_plantSign_158 : decode cX8_plantSign 158 = .ok (.invokevirtual 94, 3) := by decide +kernel
theorem dX8_plantSign_161 : decode cX8_plantSign 161 = .ok (.return_, 1) := by decide +kernel
theorem dX8_isLevel_0 : decode cX8_isLevel 0 = .ok (.aload_n 0, 1) := by decide +kernel
theorem dX8_isLevel_1 : decode cX8_isLevel 1 = .ok (.getfield 47, 3) := by decide +kernel
theorem dX8_isLevel_4 : decode cX8_isLevel 4 = .ok (.ifCond .lt 16, 3) := by decide +kernel
theorem dX8_isLevel_7 : decode cX8_isLevel 7 = .ok (.aload_n 0, 1) := by decide +kernel
theorem dX8_isLevel_8 : decode cX8_isLevel 8 = .ok (.getfield 47, 3) := by decide +kernel
theorem dX8_isLevel_11 : decode cX8_isLevel 11 = .ok (.bipush 80, 2) := by decide +kernel
theorem dX8_isLevel_13 : decode cX8_isLevel 13 = .ok (.if_icmp .gt 7, 3) := by decide +kernel
theorem dX8_isLevel_16 : decode cX8_isLevel 16 = .ok (.iconst 1, 1) := by decide +kernel
theorem dX8_isLevel_17 : decode cX8_isLevel 17 = .ok (.goto 4, 3) := by decide +kernel
theorem dX8_isLevel_20 : decode cX8_isLevel 20 = .ok (.iconst 0, 1) := by decide +kernel
theorem dX8_isLevel_21 : decode cX8_isLevel 21 = .ok (.ireturn, 1) := by decide +kernel
set_option maxRecDepth 20000 in
theorem ggX8_openLevel_X8_isLevel : GoodIn wsX8_openLevel wsX8_isLevel := goodIn_r _ [9, 2, 10, 11, 12, 13, 14, 15, 16, 17, 18, 19, 20] (by decide +kernel) (by decide +kernel)
set_option maxRecDepth 20000 in
theorem gX8_openLevel_X8_isLevel : GoodIn wsX8_openLevel (wsV RX8 103 RX8 yX8_isLevel wsX8_isLevel) := goodIn_app (goodIn_of _ (by decide +kernel)) ggX8_openLevel_X8_isLevel
theorem dX8_openLevel_0 : decode cX8_openLevel 0 = .ok (.aload_n 0, 1) := by decide +kernel
theorem dX8_openLevel_1 : decode cX8_openLevel 1 = .ok (.invokevirtual 103, 3) := by decide +kernel
theorem dX8_openLevel_4 : decode cX8_openLevel 4 = .ok (.ifCond .eq 33, 3) := by decide +kernel
theorem dX8_openLevel_7 : decode cX8_openLevel 7 = .ok (.aload_n 0, 1) := by decide +kernel
theorem dX8_openLevel_8 : decode cX8_openLevel 8 = .ok (.getfield 28, 3) := by decide +kernel
theorem dX8_openLevel_11 : decode cX8_openLevel 11 = .ok (.aload_n 0, 1) := by decide +kernel
theorem dX8_openLevel_12 : decode cX8_openLevel 12 = .ok (.getfield 47, 3) := by decide +kernel
theorem dX8_openLevel_15 : decode cX8_openLevel 15 = .ok (.iconst (-1), 1) := by decide +kernel
theorem dX8_openLevel_16 : decode cX8_openLevel 16 = .ok (.iastore, 1) := by decide +kernel
theorem dX8_openLevel_17 : decode cX8_openLevel 17 = .ok (.aload_n 0, 1) := by decide +kernel
theorem dX8_openLevel_18 : decode cX8_openLevel 18 = .ok (.getfield 31, 3) := by decide +kernel
theorem dX8_openLevel_21 : decode cX8_openLevel 21 = .ok (.aload_n 0, 1) := by decide +kernel
theorem dX8_openLevel_22 : decode cX8_openLevel 22 = .ok (.getfield 47, 3) := by decide +kernel
theorem dX8_openLevel_25 : decode cX8_openLevel 25 = .ok (.iconst (-1), 1) := by decide +kernel
theorem dX8_openLevel_26 : decode cX8_openLevel 26 = .ok (.iastore, 1) := by decide +kernel
theorem dX8_openLevel_27 : decode cX8_openLevel 27 = .ok (.aload_n 0, 1) := by decide +kernel
theorem dX8_openLevel_28 : decode cX8_openLevel 28 = .ok (.getfield 34, 3) := by decide +kernel
theorem dX8_openLevel_31 : decode cX8_openLevel 31 = .ok (.aload_n 0, 1) := by decide +kernel
theorem dX8_openLevel_32 : decode cX8_openLevel 32 = .ok (.getfield 47, 3) := by decide +kernel
theorem dX8_openLevel_35 : decode cX8_openLevel 35 = .ok (.iconst (-1), 1) := by decide +kernel
theorem dX8_openLevel_36 : decode cX8_openLevel 36 = .ok (.iastore, 1) := by decide +kernel
theorem dX8_openLevel_37 : decode cX8_openLevel 37 = .ok (.return_, 1) := by decide +kernel
set_option maxRecDepth 20000 in
theorem ggX8_getItem_X8_isLevel : GoodIn wsX8_getItem wsX8_isLevel := goodIn_r _ [7, 2, 8, 9, 10, 11, 12, 13, 14, 15, 16, 17, 18] (by decide +kernel) (by decide +kernel)
set_option maxRecDepth 20000 in
theorem gX8_getItem_X8_isLevel : GoodIn wsX8_getItem (wsV RX8 103 RX8 yX8_isLevel wsX8_isLevel) := goodIn_app (goodIn_of _ (by decide +kernel)) ggX8_getItem_X8_isLevel
theorem dX8_getItem_0 : decode cX8_getItem 0 = .ok (.aload_n 0, 1) := by decide +kernel
theorem dX8_getItem_1 : decode cX8_getItem 1 = .ok (.invokevirtual 103, 3) := by decide +kernel
theorem dX8_getItem_4 : decode cX8_getItem 4 = .ok (.ifCond .eq 15, 3) := by decide +kernel
theorem dX8_getItem_7 : decode cX8_getItem 7 = .ok (.aload_n 0, 1) := by decide +kernel
theorem dX8_getItem_8 : decode cX8_getItem 8 = .ok (.getfield 34, 3) := by decide +kernel
theorem dX8_getItem_11 : decode cX8_getItem 11 = .ok (.aload_n 0, 1) := by decide +kernel
theorem dX8_getItem_12 : decode cX8_getItem 12 = .ok (.getfield 47, 3) := by decide +kernel
theorem dX8_getItem_15 : decode cX8_getItem 15 = .ok (.iaload, 1) := by decide +kernel
theorem dX8_getItem_16 : decode cX8_getItem 16 = .ok (.goto 4, 3) := by decide +kernel
theorem dX8_getItem_19 : decode cX8_getItem 19 = .ok (.iconst (-1), 1) := by decide +kernel
theorem dX8_getItem_20 : decode cX8_getItem 20 = .ok (.ireturn, 1) := by decide +kernel
set_option maxRecDepth 20000 in
theorem ggX8_putItem_X8_isLevel : GoodIn wsX8_putItem wsX8_isLevel := goodIn_r _ [7, 2, 8, 9, 10, 11, 12, 13, 14, 15, 16, 17, 18] (by decide +kernel) (by decide +kernel)
set_option maxRecDepth 20000 in
theorem gX8_putItem_X8_isLevel : GoodIn wsX8_putItem (wsV RX8 103 RX8 yX8_isLevel wsX8_isLevel) := goodIn_app (goodIn_of _ (by decide +kernel)) ggX8_putItem_X8_isLevel
theorem dX8_putItem_0 : decode cX8_putItem 0 = .ok (.aload_n 0, 1) := by decide +kernel
theorem dX8_putItem_1 : decode cX8_putItem 1 = .ok (.invokevirtual 103, 3) := by decide +kernel
theorem dX8_putItem_4 : decode cX8_putItem 4 = .ok (.ifCond .eq 13, 3) := by decide +kernel
theorem dX8_putItem_7 : decode cX8_putItem 7 = .ok (.aload_n 0, 1) := by decide +kernel
theorem dX8_putItem_8 : decode cX8_putItem 8 = .ok (.getfield 34, 3) := by decide +kernel
theorem dX8_putItem_11 : decode cX8_putItem 11 = .ok (.aload_n 0, 1) := by decide +kernel
theorem dX8_putItem_12 : decode cX8_putItem 12 = .ok (.getfield 47, 3) := by decide +kernel
theorem dX8_putItem_15 : decode cX8_putItem 15 = .ok (.iload_n 1, 1) := by decide +kernel
theorem dX8_putItem_16 : decode cX8_putItem 16 = .ok (.iastore, 1) := by decide +kernel
theorem dX8_putItem_17 : decode cX8_putItem 17 = .ok (.return_, 1) := by decide +kernel
set_option maxRecDepth 20000 in
theorem ggX8_closeProduct_X8_isLevel : GoodIn wsX8_closeProduct wsX8_isLevel := goodIn_r _ [8, 2, 21, 22, 23, 24, 25, 26, 27, 28, 29, 30, 31] (by decide +kernel) (by decide +kernel)
set_option maxRecDepth 20000 in
theorem gX8_closeProduct_X8_isLevel : GoodIn wsX8_closeProduct (wsV RX8 103 RX8 yX8_isLevel wsX8_isLevel) := goodIn_app (goodIn_of _ (by decide +kernel)) ggX8_closeProduct_X8_isLevel
set_option maxRecDepth 20000 in
theorem ggX8_closeProduct_X8_join : GoodIn wsX8_closeProduct wsX8_join := goodIn_r _ [12, 13, 14, 15, 7, 16, 17, 18, 19, 20, 21, 22, 23, 24, 25, 26, 27, 28, 29, 30, 31] (by decide +kernel) (by decide +kernel)
set_option maxRecDepth 20000 in
theorem gX8_closeProduct_X8_join : GoodIn wsX8_closeProduct (wsV RX8 107 RX8 yX8_join wsX8_join) := goodIn_app (goodIn_of _ (by decide +kernel)) ggX8_closeProduct_X8_join
theorem dX8_closeProduct_0 : decode cX8_closeProduct 0 = .ok (.aload_n 0, 1) := by decide +kernel
theorem dX8_closeProduct_1 : decode cX8_closeProduct 1 = .ok (.invokevirtual 103, 3) := by decide +kernel
theorem dX8_closeProduct_4 : decode cX8_closeProduct 4 = .ok (.ifCond .eq 45, 3) := by decide +kernel
theorem dX8_closeProduct_7 : decode cX8_closeProduct 7 = .ok (.aload_n 0, 1) := by decide +kernel
theorem dX8_closeProduct_8 : decode cX8_closeProduct 8 = .ok (.getfield 31, 3) := by decide +kernel
theorem dX8_closeProduct_11 : decode cX8_closeProduct 11 = .ok (.aload_n 0, 1) := by decide +kernel
theorem dX8_closeProduct_12 : decode cX8_closeProduct 12 = .ok (.getfield 47, 3) := by decide +kernel
theorem dX8_closeProduct_15 : decode cX8_closeProduct 15 = .ok (.aload_n 0, 1) := by decide +kernel
theorem dX8_closeProduct_16 : decode cX8_closeProduct 16 = .ok (.iconst 3, 1) := by decide +kernel
theorem dX8_closeProduct_17 : decode cX8_closeProduct 17 = .ok (.aload_n 0, 1) := by decide +kernel
theorem dX8_closeProduct_18 : decode cX8_closeProduct 18 = .ok (.getfield 31, 3) := by decide +kernel
theorem dX8_closeProduct_21 : decode cX8_closeProduct 21 = .ok (.aload_n 0, 1) := by decide +kernel
theorem dX8_closeProduct_22 : decode cX8_closeProduct 22 = .ok (.getfield 47, 3) := by decide +kernel
theorem dX8_closeProduct_25 : decode cX8_closeProduct 25 = .ok (.iaload, 1) := by decide +kernel
theorem dX8_closeProduct_26 : decode cX8_closeProduct 26 = .ok (.aload_n 0, 1) := by decide +kernel
theorem dX8_closeProduct_27 : decode cX8_closeProduct 27 = .ok (.getfield 34, 3) := by decide +kernel
theorem dX8_closeProduct_30 : decode cX8_closeProduct 30 = .ok (.aload_n 0, 1) := by decide +kernel
theorem dX8_closeProduct_31 : decode cX8_closeProduct 31 = .ok (.getfield 47, 3) := by decide +kernel
theorem dX8_closeProduct_34 : decode cX8_closeProduct 34 = .ok (.iaload, 1) := by decide +kernel
theorem dX8_closeProduct_35 : decode cX8_closeProduct 35 = .ok (.invokevirtual 107, 3) := by decide +kernel
theorem dX8_closeProduct_38 : decode cX8_closeProduct 38 = .ok (.iastore, 1) := by decide +kernel
theorem dX8_closeProduct_39 : decode cX8_closeProduct 39 = .ok (.aload_n 0, 1) := by decide +kernel
theorem dX8_closeProduct_40 : decode cX8_closeProduct 40 = .ok (.getfield 34, 3) := by decide +kernel
theorem dX8_closeProduct_43 : decode cX8_closeProduct 43 = .ok (.aload_n 0, 1) := by decide +kernel
theorem dX8_closeProduct_44 : decode cX8_closeProduct 44 = .ok (.getfield 47, 3) := by decide +kernel
theorem dX8_closeProduct_47 : decode cX8_closeProduct 47 = .ok (.iconst (-1), 1) := by decide +kernel
theorem dX8_closeProduct_48 : decode cX8_closeProduct 48 = .ok (.iastore, 1) := by decide +kernel
theorem dX8_closeProduct_49 : decode cX8_closeProduct 49 = .ok (.return_, 1) := by decide +kernel
set_option maxRecDepth 20000 in
theorem ggX8_closeSum_X8_isLevel : GoodIn wsX8_closeSum wsX8_isLevel := goodIn_r _ [8, 2, 26, 27, 28, 29, 30, 31, 32, 33, 34, 35, 36] (by decide +kernel) (by decide +kernel)
set_option maxRecDepth 20000 in
theorem gX8_closeSum_X8_isLevel : GoodIn wsX8_closeSum (wsV RX8 103 RX8 yX8_isLevel wsX8_isLevel) := goodIn_app (goodIn_of _ (by decide +kernel)) ggX8_closeSum_X8_isLevel
set_option maxRecDepth 20000 in
theorem ggX8_closeSum_X8_closeProduct : GoodIn wsX8_closeSum wsX8_closeProduct := goodIn_r _ [12, 3, 2, 13, 4, 5, 6, 7, 8, 14, 15, 16, 17, 18, 19, 20, 21, 22, 23, 24, 25, 26, 27, 28, 29, 30, 31, 32, 33, 34, 35, 36] (by decide +kernel) (by decide +kernel)
set_option maxRecDepth 20000 in
theorem gX8_closeSum_X8_closeProduct : GoodIn wsX8_closeSum (wsV RX8 91 RX8 yX8_closeProduct wsX8_closeProduct) := goodIn_app (goodIn_of _ (by decide +kernel)) ggX8_closeSum_X8_closeProduct
set_option maxRecDepth 20000 in
theorem ggX8_closeSum_X8_join : GoodIn wsX8_closeSum wsX8_join := goodIn_r _ [17, 18, 19, 20, 7, 21, 22, 23, 24, 25, 26, 27, 28, 29, 30, 31, 32, 33, 34, 35, 36] (by decide +kernel) (by decide +kernel)
set_option maxRecDepth 20000 in
theorem gX8_closeSum_X8_join : GoodIn wsX8_closeSum (wsV RX8 107 RX8 yX8_join wsX8_join) := goodIn_app (goodIn_of _ (by decide +kernel)) ggX8_closeSum_X8_join
theorem dX8_closeSum_0 : decode cX8_closeSum 0 = .ok (.aload_n 0, 1) := by decide +kernel
theorem dX8_closeSum_1 : decode cX8_closeSum 1 = .ok (.invokevirtual 103, 3) := by decide +kernel
theorem dX8_closeSum_4 : decode cX8_closeSum 4 = .ok (.ifCond .ne 5, 3) := by decide +kernel
theorem dX8_closeSum_7 : decode cX8_closeSum 7 = .ok (.iconst (-1), 1) := by decide +kernel
theorem dX8_closeSum_8 : decode cX8_closeSum 8 = .ok (.ireturn, 1) := by decide +kernel
theorem dX8_closeSum_9 : decode cX8_closeSum 9 = .ok (.aload_n 0, 1) := by decide +kernel
theorem dX8_closeSum_10 : decode cX8_closeSum 10 = .ok (.invokevirtual 91, 3) := by decide +kernel
theorem dX8_closeSum_13 : decode cX8_closeSum 13 = .ok (.aload_n 0, 1) := by decide +kernel
theorem dX8_closeSum_14 : decode cX8_closeSum 14 = .ok (.getfield 28, 3) := by decide +kernel
theorem dX8_closeSum_17 : decode cX8_closeSum 17 = .ok (.aload_n 0, 1) := by decide +kernel
theorem dX8_closeSum_18 : decode cX8_closeSum 18 = .ok (.getfield 47, 3) := by decide +kernel
theorem dX8_closeSum_21 : decode cX8_closeSum 21 = .ok (.aload_n 0, 1) := by decide +kernel
theorem dX8_closeSum_22 : decode cX8_closeSum 22 = .ok (.iconst 2, 1) := by decide +kernel
theorem dX8_closeSum_23 : decode cX8_closeSum 23 = .ok (.aload_n 0, 1) := by decide +kernel
theorem dX8_closeSum_24 : decode cX8_closeSum 24 = .ok (.getfield 28, 3) := by decide +kernel
theorem dX8_closeSum_27 : decode cX8_closeSum 27 = .ok (.aload_n 0, 1) := by decide +kernel
theorem dX8_closeSum_28 : decode cX8_closeSum 28 = .ok (.getfield 47, 3) := by decide +kernel
theorem dX8_closeSum_31 : decode cX8_closeSum 31 = .ok (.iaload, 1) := by decide +kernel
theorem dX8_closeSum_32 : decode cX8_closeSum 32 = .ok (.aload_n 0, 1) := by decide +kernel
theorem dX8_closeSum_33 : decode cX8_closeSum 33 = .ok (.getfield 31, 3) := by decide +kernel
theorem dX8_closeSum_36 : decode cX8_closeSum 36 = .ok (.aload_n 0, 1) := by decide +kernel
theorem dX8_closeSum_37 : decode cX8_closeSum 37 = .ok (.getfield 47, 3) := by decide +kernel
theorem dX8_closeSum_40 : decode cX8_closeSum 40 = .ok (.iaload, 1) := by decide +kernel
theorem dX8_closeSum_41 : decode cX8_closeSum 41 = .ok (.invokevirtual 107, 3) := by decide +kernel
theorem dX8_closeSum_44 : decode cX8_closeSum 44 = .ok (.iastore, 1) := by decide +kernel
theorem dX8_closeSum_45 : decode cX8_closeSum 45 = .ok (.aload_n 0, 1) := by decide +kernel
theorem dX8_closeSum_46 : decode cX8_closeSum 46 = .ok (.getfield 31, 3) := by decide +kernel
theorem dX8_closeSum_49 : decode cX8_closeSum 49 = .ok (.aload_n 0, 1) := by decide +kernel
theorem dX8_closeSum_50 : decode cX8_closeSum 50 = .ok (.getfield 47, 3) := by decide +kernel
theorem dX8_closeSum_53 : decode cX8_closeSum 53 = .ok (.iconst (-1), 1) := by decide +kernel
theorem dX8_closeSum_54 : decode cX8_closeSum 54 = .ok (.iastore, 1) := by decide +kernel
theorem dX8_closeSum_55 : decode cX8_closeSum 55 = .ok (.aload_n 0, 1) := by decide +kernel
theorem dX8_closeSum_56 : decode cX8_closeSum 56 = .ok (.getfield 28, 3) := by decide +kernel
theorem dX8_closeSum_59 : decode cX8_closeSum 59 = .ok (.aload_n 0, 1) := by decide +kernel
theorem dX8_closeSum_60 : decode cX8_closeSum 60 = .ok (.getfield 47, 3) := by decide +kernel
theorem dX8_closeSum_63 : decode cX8_closeSum 63 = .ok (.iaload, 1) := by decide +kernel
theorem dX8_closeSum_64 : decode cX8_closeSum 64 = .ok (.ireturn, 1) := by decide +kernel
set_option maxRecDepth 20000 in
theorem ggX8_join_X8_addNode : GoodIn wsX8_join wsX8_addNode := goodIn_r _ [5, 6, 7, 8, 9, 10, 11, 12, 13, 14, 15, 16, 17, 18, 19, 20] (by decide +kernel) (by decide +kernel)
set_option maxRecDepth 20000 in
theorem gX8_join_X8_addNode : GoodIn wsX8_join (wsV RX8 100 RX8 yX8_addNode wsX8_addNode) := goodIn_app (goodIn_of _ (by decide +kernel)) ggX8_join_X8_addNode
theorem dX8_join_0 : decode cX8_join 0 = .ok (.iload_n 2, 1) := by decide +kernel
theorem dX8_join_1 : decode cX8_join 1 = .ok (.iconst (-1), 1) := by decide +kernel
theorem dX8_join_2 : decode cX8_join 2 = .ok (.if_icmp .ne 5, 3) := by decide +kernel
theorem dX8_join_5 : decode cX8_join 5 = .ok (.iload_n 3, 1) := by decide +kernel
theorem dX8_join_6 : decode cX8_join 6 = .ok (.ireturn, 1) := by decide +kernel
theorem dX8_join_7 : decode cX8_join 7 = .ok (.iload_n 3, 1) := by decide +kernel
theorem dX8_join_8 : decode cX8_join 8 = .ok (.iconst (-1), 1) := by decide +kernel
theorem dX8_join_9 : decode cX8_join 9 = .ok (.if_icmp .ne 7, 3) := by decide +kernel
theorem dX8_join_12 : decode cX8_join 12 = .ok (.iload_n 2, 1) := by decide +kernel
theorem dX8_join_13 : decode cX8_join 13 = .ok (.goto 10, 3) := by decide +kernel
theorem dX8_join_16 : decode cX8_join 16 = .ok (.aload_n 0, 1) := by decide +kernel
theorem dX8_join_17 : decode cX8_join 17 = .ok (.iload_n 1, 1) := by decide +kernel
theorem dX8_join_18 : decode cX8_join 18 = .ok (.iload_n 2, 1) := by decide +kernel
theorem dX8_join_19 : decode cX8_join 19 = .ok (.iload_n 3, 1) := by decide +kernel
theorem dX8_join_20 : decode cX8_join 20 = .ok (.invokevirtual 100, 3) := by decide +kernel
theorem dX8_join_23 : decode cX8_join 23 = .ok (.ireturn, 1) := by decide +kernel
theorem dX8_addNode_0 : decode cX8_addNode 0 = .ok (.aload_n 0, 1) := by decide +kernel
theorem dX8_addNode_1 : decode cX8_addNode 1 = .ok (.getfield 43, 3) := by decide +kernel
theorem dX8_addNode_4 : decode cX8_addNode 4 = .ok (.ifCond .lt 13, 3) := by decide +kernel
theorem dX8_addNode_7 : decode cX8_addNode 7 = .ok (.aload_n 0, 1) := by decide +kernel
theorem dX8_addNode_8 : decode cX8_addNode 8 = .ok (.getfield 43, 3) := by decide +kernel
theorem dX8_addNode_11 : decode cX8_addNode 11 = .ok (.sipush 160, 3) := by decide +kernel
theorem dX8_addNode_14 : decode cX8_addNode 14 = .ok (.if_icmp .lt 5, 3) := by decide +kernel
theorem dX8_addNode_17 : decode cX8_addNode 17 = .ok (.iconst (-1), 1) := by decide +kernel
theorem dX8_addNode_18 : decode cX8_addNode 18 = .ok (.ireturn, 1) := by decide +kernel
theorem dX8_addNode_19 : decode cX8_addNode 19 = .ok (.aload_n 0, 1) := by decide +kernel
theorem dX8_addNode_20 : decode cX8_addNode 20 = .ok (.getfield 9, 3) := by decide +kernel
theorem dX8_addNode_23 : decode cX8_addNode 23 = .ok (.aload_n 0, 1) := by decide +kernel
theorem dX8_addNode_24 : decode cX8_addNode 24 = .ok (.getfield 43, 3) := by decide +kernel
theorem dX8_addNode_27 : decode cX8_addNode 27 = .ok (.iload_n 1, 1) := by decide +kernel
theorem dX8_addNode_28 : decode cX8_addNode 28 = .ok (.iastore, 1) := by decide +kernel
theorem dX8_addNode_29 : decode cX8_addNode 29 = .ok (.aload_n 0, 1) := by decide +kernel
theorem dX8_addNode_30 : decode cX8_addNode 30 = .ok (.getfield 15, 3) := by decide +kernel
theorem dX8_addNode_33 : decode cX8_addNode 33 = .ok (.aload_n 0, 1) := by decide +kernel
theorem dX8_addNode_34 : decode cX8_addNode 34 = .ok (.getfield 43, 3) := by decide +kernel
theorem dX8_addNode_37 : decode cX8_addNode 37 = .ok (.iload_n 2, 1) := by decide +kernel
theorem dX8_addNode_38 : decode cX8_addNode 38 = .ok (.iastore, 1) := by decide +kernel
theorem dX8_addNode_39 : decode cX8_addNode 39 = .ok (.aload_n 0, 1) := by decide +kernel
theorem dX8_addNode_40 : decode cX8_addNode 40 = .ok (.getfield 18, 3) := by decide +kernel
theorem dX8_addNode_43 : decode cX8_addNode 43 = .ok (.aload_n 0, 1) := by decide +kernel
theorem dX8_addNode_44 : decode cX8_addNode 44 = .ok (.getfield 43, 3) := by decide +kernel
theorem dX8_addNode_47 : decode cX8_addNode 47 = .ok (.iload_n 3, 1) := by decide +kernel
theorem dX8_addNode_48 : decode cX8_addNode 48 = .ok (.iastore, 1) := by decide +kernel
theorem dX8_addNode_49 : decode cX8_addNode 49 = .ok (.aload_n 0, 1) := by decide +kernel
theorem dX8_addNode_50 : decode cX8_addNode 50 = .ok (.dup, 1) := by decide +kernel
theorem dX8_addNode_51 : decode cX8_addNode 51 = .ok (.getfield 43, 3) := by decide +kernel
theorem dX8_addNode_54 : decode cX8_addNode 54 = .ok (.iconst 1, 1) := by decide +kernel
theorem dX8_addNode_55 : decode cX8_addNode 55 = .ok (.iadd, 1) := by decide +kernel
theorem dX8_addNode_56 : decode cX8_addNode 56 = .ok (.putfield 43, 3) := by decide +kernel
theorem dX8_addNode_59 : decode cX8_addNode 59 = .ok (.aload_n 0, 1) := by decide +kernel
theorem dX8_addNode_60 : decode cX8_addNode 60 = .ok (.getfield 43, 3) := by decide +kernel
theorem dX8_addNode_63 : decode cX8_addNode 63 = .ok (.iconst 1, 1) := by decide +kernel
theorem dX8_addNode_64 : decode cX8_addNode 64 = .ok (.isub, 1) := by decide +kernel
theorem dX8_addNode_65 : decode cX8_addNode 65 = .ok (.ireturn, 1) := by decide +kernel
set_option maxRecDepth 20000 in
theorem ggX8_leastOf_X8_isNode : GoodIn wsX8_leastOf wsX8_isNode := goodIn_r _ [6, 7, 8, 9, 10, 11, 12, 13, 14, 15, 16, 17, 18] (by decide +kernel) (by decide +kernel)
set_option maxRecDepth 20000 in
theorem gX8_leastOf_X8_isNode : GoodIn wsX8_leastOf (wsV RX8 110 RX8 yX8_isNode wsX8_isNode) := goodIn_app (goodIn_of _ (by decide +kernel)) ggX8_leastOf_X8_isNode
theorem dX8_leastOf_0 : decode cX8_leastOf 0 = .ok (.aload_n 0, 1) := by decide +kernel
theorem dX8_leastOf_1 : decode cX8_leastOf 1 = .ok (.iload_n 1, 1) := by decide +kernel
theorem dX8_leastOf_2 : decode cX8_leastOf 2 = .ok (.invokevirtual 110, 3) := by decide +kernel
theorem dX8_leastOf_5 : decode cX8_leastOf 5 = .ok (.ifCond .eq 12, 3) := by decide +kernel
theorem dX8_leastOf_8 : decode cX8_leastOf 8 = .ok (.aload_n 0, 1) := by decide +kernel
theorem dX8_leastOf_9 : decode cX8_leastOf 9 = .ok (.getfield 21, 3) := by decide +kernel
theorem dX8_leastOf_12 : decode cX8_leastOf 12 = .ok (.iload_n 1, 1) := by decide +kernel
theorem dX8_leastOf_13 : decode cX8_leastOf 13 = .ok (.iaload, 1) := by decide +kernel
theorem dX8_leastOf_14 : decode cX8_leastOf 14 = .ok (.goto 4, 3) := by decide +kernel
theorem dX8_leastOf_17 : decode cX8_leastOf 17 = .ok (.iconst 0, 1) := by decide +kernel
theorem dX8_leastOf_18 : decode cX8_leastOf 18 = .ok (.ireturn, 1) := by decide +kernel
set_option maxRecDepth 20000 in
theorem ggX8_findLeast_X8_leastOf : GoodIn wsX8_findLeast wsX8_leastOf := goodIn_r _ [9, 10, 11, 12, 13, 8, 14, 15, 16, 17, 18, 19, 20, 21, 22, 23, 24, 25, 26] (by decide +kernel) (by decide +kernel)
set_option maxRecDepth 20000 in
theorem gX8_findLeast_X8_leastOf : GoodIn wsX8_findLeast (wsV RX8 72 RX8 yX8_leastOf wsX8_leastOf) := goodIn_app (goodIn_of _ (by decide +kernel)) ggX8_findLeast_X8_leastOf
theorem dX8_findLeast_0 : decode cX8_findLeast 0 = .ok (.iload_n 1, 1) := by decide +kernel
theorem dX8_findLeast_1 : decode cX8_findLeast 1 = .ok (.tableswitch 55 1 3 #[27, 29, 43], 27) := by decide +kernel
theorem dX8_findLeast_28 : decode cX8_findLeast 28 = .ok (.iconst 1, 1) := by decide +kernel
theorem dX8_findLeast_29 : decode cX8_findLeast 29 = .ok (.ireturn, 1) := by decide +kernel
theorem dX8_findLeast_30 : decode cX8_findLeast 30 = .ok (.aload_n 0, 1) := by decide +kernel
theorem dX8_findLeast_31 : decode cX8_findLeast 31 = .ok (.iload_n 2, 1) := by decide +kernel
theorem dX8_findLeast_32 : decode cX8_findLeast 32 = .ok (.invokevirtual 72, 3) := by decide +kernel
theorem dX8_findLeast_35 : decode cX8_findLeast 35 = .ok (.aload_n 0, 1) := by decide +kernel
theorem dX8_findLeast_36 : decode cX8_findLeast 36 = .ok (.iload_n 3, 1) := by decide +kernel
theorem dX8_findLeast_37 : decode cX8_findLeast 37 = .ok (.invokevirtual 72, 3) := by decide +kernel
theorem dX8_findLeast_40 : decode cX8_findLeast 40 = .ok (.invokestatic 114, 3) := by decide +kernel
theorem dX8_findLeast_43 : decode cX8_findLeast 43 = .ok (.ireturn, 1) := by decide +kernel
theorem dX8_findLeast_44 : decode cX8_findLeast 44 = .ok (.aload_n 0, 1) := by decide +kernel
theorem dX8_findLeast_45 : decode cX8_findLeast 45 = .ok (.iload_n 2, 1) := by decide +kernel
theorem dX8_findLeast_46 : decode cX8_findLeast 46 = .ok (.invokevirtual 72, 3) := by decide +kernel
theorem dX8_findLeast_49 : decode cX8_findLeast 49 = .ok (.aload_n 0, 1) := by decide +kernel
theorem dX8_findLeast_50 : decode cX8_findLeast 50 = .ok (.iload_n 3, 1) := by decide +kernel
theorem dX8_findLeast_51 : decode cX8_findLeast 51 = .ok (.invokevirtual 72, 3) := by decide +kernel
theorem dX8_findLeast_54 : decode cX8_findLeast 54 = .ok (.iadd, 1) := by decide +kernel
theorem dX8_findLeast_55 : decode cX8_findLeast 55 = .ok (.ireturn, 1) := by decide +kernel
theorem dX8_findLeast_56 : decode cX8_findLeast 56 = .ok (.iconst 0, 1) := by decide +kernel
theorem dX8_findLeast_57 : decode cX8_findLeast 57 = .ok (.ireturn, 1) := by decide +kernel
set_option maxRecDepth 20000 in
theorem ggX8_setsOf_X8_isNode : GoodIn wsX8_setsOf wsX8_isNode := goodIn_r _ [6, 7, 8, 9, 10, 11, 12, 13, 14, 15, 16, 17, 18] (by decide +kernel) (by decide +kernel)
set_option maxRecDepth 20000 in
theorem gX8_setsOf_X8_isNode : GoodIn wsX8_setsOf (wsV RX8 110 RX8 yX8_isNode wsX8_isNode) := goodIn_app (goodIn_of _ (by decide +kernel)) ggX8_setsOf_X8_isNode
theorem dX8_setsOf_0 : decode cX8_setsOf 0 = .ok (.aload_n 0, 1) := by decide +kernel
theorem dX8_setsOf_1 : decode cX8_setsOf 1 = .ok (.iload_n 1, 1) := by decide +kernel
theorem dX8_setsOf_2 : decode cX8_setsOf 2 = .ok (.invokevirtual 110, 3) := by decide +kernel
theorem dX8_setsOf_5 : decode cX8_setsOf 5 = .ok (.ifCond .eq 12, 3) := by decide +kernel
theorem dX8_setsOf_8 : decode cX8_setsOf 8 = .ok (.aload_n 0, 1) := by decide +kernel
theorem dX8_setsOf_9 : decode cX8_setsOf 9 = .ok (.getfield 24, 3) := by decide +kernel
theorem dX8_setsOf_12 : decode cX8_setsOf 12 = .ok (.iload_n 1, 1) := by decide +kernel
theorem dX8_setsOf_13 : decode cX8_setsOf 13 = .ok (.laload, 1) := by decide +kernel
theorem dX8_setsOf_14 : decode cX8_setsOf 14 = .ok (.goto 4, 3) := by decide +kernel
theorem dX8_setsOf_17 : decode cX8_setsOf 17 = .ok (.lconst 0, 1) := by decide +kernel
theorem dX8_setsOf_18 : decode cX8_setsOf 18 = .ok (.lreturn, 1) := by decide +kernel
set_option maxRecDepth 20000 in
theorem ggX8_joinSets_X8_unite : GoodIn wsX8_joinSets wsX8_unite := goodIn_r _ [4, 5, 6, 3, 7, 8, 9] (by decide +kernel) (by decide +kernel)
set_option maxRecDepth 20000 in
theorem gX8_joinSets_X8_unite : GoodIn wsX8_joinSets (va_wsS RX8 120 yX8_unite wsX8_unite) := goodIn_app (goodIn_of _ (by decide +kernel)) ggX8_joinSets_X8_unite
set_option maxRecDepth 20000 in
theorem ggX8_joinSets_X8_repeat : GoodIn wsX8_joinSets wsX8_repeat := goodIn_r _ [12, 5, 6, 3, 7, 8, 9] (by decide +kernel) (by decide +kernel)
set_option maxRecDepth 20000 in
theorem gX8_joinSets_X8_repeat : GoodIn wsX8_joinSets (va_wsS RX8 124 yX8_repeat wsX8_repeat) := goodIn_app (goodIn_of _ (by decide +kernel)) ggX8_joinSets_X8_repeat
theorem dX8_joinSets_0 : decode cX8_joinSets 0 = .ok (.iload_n 0, 1) := by decide +kernel
theorem dX8_joinSets_1 : decode cX8_joinSets 1 = .ok (.tableswitch 54 1 4 #[31, 37, 42, 49], 31) := by decide +kernel
theorem dX8_joinSets_32 : decode cX8_joinSets 32 = .ok (.lconst 1, 1) := by decide +kernel
theorem dX8_joinSets_33 : decode cX8_joinSets 33 = .ok (.iconst 1, 1) := by decide +kernel
theorem dX8_joinSets_34 : decode cX8_joinSets 34 = .ok (.iload_n 1, 1) := by decide +kernel
theorem dX8_joinSets_35 : decode cX8_joinSets 35 = .ok (.ishl, 1) := by decide +kernel
theorem dX8_joinSets_36 : decode cX8_joinSets 36 = .ok (.lshl, 1) := by decide +kernel
theorem dX8_joinSets_37 : decode cX8_joinSets 37 = .ok (.lreturn, 1) := by decide +kernel
theorem dX8_joinSets_38 : decode cX8_joinSets 38 = .ok (.lload_n 2, 1) := by decide +kernel
theorem dX8_joinSets_39 : decode cX8_joinSets 39 = .ok (.lload 4, 2) := by decide +kernel
theorem dX8_joinSets_41 : decode cX8_joinSets 41 = .ok (.lor, 1) := by decide +kernel
theorem dX8_joinSets_42 : decode cX8_joinSets 42 = .ok (.lreturn, 1) := by decide +kernel
theorem dX8_joinSets_43 : decode cX8_joinSets 43 = .ok (.lload_n 2, 1) := by decide +kernel
theorem dX8_joinSets_44 : decode cX8_joinSets 44 = .ok (.lload 4, 2) := by decide +kernel
theorem dX8_joinSets_46 : decode cX8_joinSets 46 = .ok (.invokestatic 120, 3) := by decide +kernel
theorem dX8_joinSets_49 : decode cX8_joinSets 49 = .ok (.lreturn, 1) := by decide +kernel
theorem dX8_joinSets_50 : decode cX8_joinSets 50 = .ok (.lload_n 2, 1) := by decide +kernel
theorem dX8_joinSets_51 : decode cX8_joinSets 51 = .ok (.invokestatic 124, 3) := by decide +kernel
theorem dX8_joinSets_54 : decode cX8_joinSets 54 = .ok (.lreturn, 1) := by decide +kernel
theorem dX8_joinSets_55 : decode cX8_joinSets 55 = .ok (.lconst 1, 1) := by decide +kernel
theorem dX8_joinSets_56 : decode cX8_joinSets 56 = .ok (.lreturn, 1) := by decide +kernel
set_option maxRecDepth 20000 in
theorem ggX8_unite_X8_addLetters : GoodIn wsX8_unite wsX8_addLetters := goodIn_r _ [4, 5, 6] (by decide +kernel) (by decide +kernel)
set_option maxRecDepth 20000 in
theorem gX8_unite_X8_addLetters : GoodIn wsX8_unite (va_wsS RX8 128 yX8_addLetters wsX8_addLetters) := goodIn_app (goodIn_of _ (by decide +kernel)) ggX8_unite_X8_addLetters
theorem dX8_unite_0 : decode cX8_unite 0 = .ok (.lconst 0, 1) := by decide +kernel
theorem dX8_unite_1 : decode cX8_unite 1 = .ok (.lstore 4, 2) := by decide +kernel
theorem dX8_unite_3 : decode cX8_unite 3 = .ok (.iconst 0, 1) := by decide +kernel
theorem dX8_unite_4 : decode cX8_unite 4 = .ok (.istore 6, 2) := by decide +kernel
theorem dX8_unite_6 : decode cX8_unite 6 = .ok (.iload 6, 2) := by decide +kernel
theorem dX8_unite_8 : decode cX8_unite 8 = .ok (.bipush 64, 2) := by decide +kernel
theorem dX8_unite_10 : decode cX8_unite 10 = .ok (.if_icmp .ge 31, 3) := by decide +kernel
theorem dX8_unite_13 : decode cX8_unite 13 = .ok (.lload_n 2, 1) := by decide +kernel
theorem dX8_unite_14 : decode cX8_unite 14 = .ok (.iload 6, 2) := by decide +kernel
theorem dX8_unite_16 : decode cX8_unite 16 = .ok (.lushr, 1) := by decide +kernel
theorem dX8_unite_17 : decode cX8_unite 17 = .ok (.lconst 1, 1) := by decide +kernel
theorem dX8_unite_18 : decode cX8_unite 18 = .ok (.land, 1) := by decide +kernel
theorem dX8_unite_19 : decode cX8_unite 19 = .ok (.lconst 0, 1) := by decide +kernel
theorem dX8_unite_20 : decode cX8_unite 20 = .ok (.lcmp, 1) := by decide +kernel
theorem dX8_unite_21 : decode cX8_unite 21 = .ok (.ifCond .eq 14, 3) := by decide +kernel
theorem dX8_unite_24 : decode cX8_unite 24 = .ok (.lload 4, 2) := by decide +kernel
theorem dX8_unite_26 : decode cX8_unite 26 = .ok (.lload_n 0, 1) := by decide +kernel
theorem dX8_unite_27 : decode cX8_unite 27 = .ok (.iload 6, 2) := by decide +kernel
theorem dX8_unite_29 : decode cX8_unite 29 = .ok (.invokestatic 128, 3) := by decide +kernel
theorem dX8_unite_32 : decode cX8_unite 32 = .ok (.lor, 1) := by decide +kernel
theorem dX8_unite_33 : decode cX8_unite 33 = .ok (.lstore 4, 2) := by decide +kernel
theorem dX8_unite_35 : decode cX8_unite 35 = .ok (.iinc 6 1, 3) := by decide +kernel
theorem dX8_unite_38 : decode cX8_unite 38 = .ok (.goto (-32), 3) := by decide +kernel
theorem dX8_unite_41 : decode cX8_unite 41 = .ok (.lload 4, 2) := by decide +kernel
theorem dX8_unite_43 : decode cX8_unite 43 = .ok (.lreturn, 1) := by decide +kernel
set_option maxRecDepth 20000 in
theorem ggX8_repeat_X8_addLetters : GoodIn wsX8_repeat wsX8_addLetters := goodIn_r _ [4, 5, 6] (by decide +kernel) (by decide +kernel)
set_option maxRecDepth 20000 in
theorem gX8_repeat_X8_addLetters : GoodIn wsX8_repeat (va_wsS RX8 128 yX8_addLetters wsX8_addLetters) := goodIn_app (goodIn_of _ (by decide +kernel)) ggX8_repeat_X8_addLetters
theorem dX8_repeat_0 : decode cX8_repeat 0 = .ok (.lconst 1, 1) := by decide +kernel
theorem dX8_repeat_1 : decode cX8_repeat 1 = .ok (.lstore_n 2, 1) := by decide +kernel
theorem dX8_repeat_2 : decode cX8_repeat 2 = .ok (.iconst 0, 1) := by decide +kernel
theorem dX8_repeat_3 : decode cX8_repeat 3 = .ok (.istore 4, 2) := by decide +kernel
theorem dX8_repeat_5 : decode cX8_repeat 5 = .ok (.iload 4, 2) := by decide +kernel
theorem dX8_repeat_7 : decode cX8_repeat 7 = .ok (.bipush 64, 2) := by decide +kernel
theorem dX8_repeat_9 : decode cX8_repeat 9 = .ok (.if_icmp .ge 29, 3) := by decide +kernel
theorem dX8_repeat_12 : decode cX8_repeat 12 = .ok (.lload_n 0, 1) := by decide +kernel
theorem dX8_repeat_13 : decode cX8_repeat 13 = .ok (.iload 4, 2) := by decide +kernel
theorem dX8_repeat_15 : decode cX8_repeat 15 = .ok (.lushr, 1) := by decide +kernel
theorem dX8_repeat_16 : decode cX8_repeat 16 = .ok (.lconst 1, 1) := by decide +kernel
theorem dX8_repeat_17 : decode cX8_repeat 17 = .ok (.land, 1) := by decide +kernel
theorem dX8_repeat_18 : decode cX8_repeat 18 = .ok (.lconst 0, 1) := by decide +kernel
theorem dX8_repeat_19 : decode cX8_repeat 19 = .ok (.lcmp, 1) := by decide +kernel
theorem dX8_repeat_20 : decode cX8_repeat 20 = .ok (.ifCond .eq 12, 3) := by decide +kernel
theorem dX8_repeat_23 : decode cX8_repeat 23 = .ok (.lload_n 2, 1) := by decide +kernel
theorem dX8_repeat_24 : decode cX8_repeat 24 = .ok (.lload_n 2, 1) := by decide +kernel
theorem dX8_repeat_25 : decode cX8_repeat 25 = .ok (.iload 4, 2) := by decide +kernel
theorem dX8_repeat_27 : decode cX8_repeat 27 = .ok (.invokestatic 128, 3) := by decide +kernel
theorem dX8_repeat_30 : decode cX8_repeat 30 = .ok (.lor, 1) := by decide +kernel
theorem dX8_repeat_31 : decode cX8_repeat 31 = .ok (.lstore_n 2, 1) := by decide +kernel
theorem dX8_repeat_32 : decode cX8_repeat 32 = .ok (.iinc 4 1, 3) := by decide +kernel
theorem dX8_repeat_35 : decode cX8_repeat 35 = .ok (.goto (-30), 3) := by decide +kernel
theorem dX8_repeat_38 : decode cX8_repeat 38 = .ok (.lload_n 2, 1) := by decide +kernel
theorem dX8_repeat_39 : decode cX8_repeat 39 = .ok (.lreturn, 1) := by decide +kernel
theorem dX8_addLetters_0 : decode cX8_addLetters 0 = .ok (.lload_n 0, 1) := by decide +kernel
theorem dX8_addLetters_1 : decode cX8_addLetters 1 = .ok (.lstore_n 3, 1) := by decide +kernel
theorem dX8_addLetters_2 : decode cX8_addLetters 2 = .ok (.iconst 0, 1) := by decide +kernel
theorem dX8_addLetters_3 : decode cX8_addLetters 3 = .ok (.istore 5, 2) := by decide +kernel
theorem dX8_addLetters_5 : decode cX8_addLetters 5 = .ok (.iload 5, 2) := by decide +kernel
theorem dX8_addLetters_7 : decode cX8_addLetters 7 = .ok (.bipush 6, 2) := by decide +kernel
theorem dX8_addLetters_9 : decode cX8_addLetters 9 = .ok (.if_icmp .ge 49, 3) := by decide +kernel
theorem dX8_addLetters_12 : decode cX8_addLetters 12 = .ok (.iload_n 2, 1) := by decide +kernel
theorem dX8_addLetters_13 : decode cX8_addLetters 13 = .ok (.iload 5, 2) := by decide +kernel
theorem dX8_addLetters_15 : decode cX8_addLetters 15 = .ok (.ishr, 1) := by decide +kernel
theorem dX8_addLetters_16 : decode cX8_addLetters 16 = .ok (.iconst 1, 1) := by decide +kernel
theorem dX8_addLetters_17 : decode cX8_addLetters 17 = .ok (.iand, 1) := by decide +kernel
theorem dX8_addLetters_18 : decode cX8_addLetters 18 = .ok (.ifCond .eq 34, 3) := by decide +kernel
theorem dX8_addLetters_21 : decode cX8_addLetters 21 = .ok (.lload_n 3, 1) := by decide +kernel
theorem dX8_addLetters_22 : decode cX8_addLetters 22 = .ok (.getstatic 132, 3) := by decide +kernel
theorem dX8_addLetters_25 : decode cX8_addLetters 25 = .ok (.iload 5, 2) := by decide +kernel
theorem dX8_addLetters_27 : decode cX8_addLetters 27 = .ok (.laload, 1) := by decide +kernel
theorem dX8_addLetters_28 : decode cX8_addLetters 28 = .ok (.ldc2_w 85, 3) := by decide +kernel
theorem dX8_addLetters_31 : decode cX8_addLetters 31 = .ok (.lxor, 1) := by decide +kernel
theorem dX8_addLetters_32 : decode cX8_addLetters 32 = .ok (.land, 1) := by decide +kernel
theorem dX8_addLetters_33 : decode cX8_addLetters 33 = .ok (.lstore 6, 2) := by decide +kernel
theorem dX8_addLetters_35 : decode cX8_addLetters 35 = .ok (.lload_n 3, 1) := by decide +kernel
theorem dX8_addLetters_36 : decode cX8_addLetters 36 = .ok (.getstatic 132, 3) := by decide +kernel
theorem dX8_addLetters_39 : decode cX8_addLetters 39 = .ok (.iload 5, 2) := by decide +kernel
theorem dX8_addLetters_41 : decode cX8_addLetters 41 = .ok (.laload, 1) := by decide +kernel
theorem dX8_addLetters_42 : decode cX8_addLetters 42 = .ok (.land, 1) := by decide +kernel
theorem dX8_addLetters_43 : decode cX8_addLetters 43 = .ok (.lload 6, 2) := by decide +kernel
theorem dX8_addLetters_45 : decode cX8_addLetters 45 = .ok (.iconst 1, 1) := by decide +kernel
theorem dX8_addLetters_46 : decode cX8_addLetters 46 = .ok (.iload 5, 2) := by decide +kernel
theorem dX8_addLetters_48 : decode cX8_addLetters 48 = .ok (.ishl, 1) := by decide +kernel
theorem dX8_addLetters_49 : decode cX8_addLetters 49 = .ok (.lshl, 1) := by decide +kernel
theorem dX8_addLetters_50 : decode cX8_addLetters 50 = .ok (.lor, 1) := by decide +kernel
theorem dX8_addLetters_51 : decode cX8_addLetters 51 = .ok (.lstore_n 3, 1) := by decide +kernel
theorem dX8_addLetters_52 : decode cX8_addLetters 52 = .ok (.iinc 5 1, 3) := by decide +kernel
theorem dX8_addLetters_55 : decode cX8_addLetters 55 = .ok (.goto (-50), 3) := by decide +kernel
theorem dX8_addLetters_58 : decode cX8_addLetters 58 = .ok (.lload_n 3, 1) := by decide +kernel
theorem dX8_addLetters_59 : decode cX8_addLetters 59 = .ok (.lreturn, 1) := by decide +kernel
theorem dX9_init_0 : decode cX9_init 0 = .ok (.aload_n 0, 1) := by decide +kernel
theorem dX9_init_1 : decode cX9_init 1 = .ok (.invokespecial 3, 3) := by decide +kernel
theorem dX9_init_4 : decode cX9_init 4 = .ok (.aload_n 0, 1) := by decide +kernel
theorem dX9_init_5 : decode cX9_init 5 = .ok (.bipush 32, 2) := by decide +kernel
theorem dX9_init_7 : decode cX9_init 7 = .ok (.newarray .int, 2) := by decide +kernel
theorem dX9_init_9 : decode cX9_init 9 = .ok (.putfield 9, 3) := by decide +kernel
theorem dX9_init_12 : decode cX9_init 12 = .ok (.return_, 1) := by decide +kernel
theorem dX9_empty_0 : decode cX9_empty 0 = .ok (.aload_n 0, 1) := by decide +kernel
theorem dX9_empty_1 : decode cX9_empty 1 = .ok (.iconst 0, 1) := by decide +kernel
theorem dX9_empty_2 : decode cX9_empty 2 = .ok (.putfield 15, 3) := by decide +kernel
theorem dX9_empty_5 : decode cX9_empty 5 = .ok (.return_, 1) := by decide +kernel
theorem dX9_at_0 : decode cX9_at 0 = .ok (.iload_n 1, 1) := by decide +kernel
theorem dX9_at_1 : decode cX9_at 1 = .ok (.ifCond .lt 26, 3) := by decide +kernel
theorem dX9_at_4 : decode cX9_at 4 = .ok (.iload_n 1, 1) := by decide +kernel
theorem dX9_at_5 : decode cX9_at 5 = .ok (.aload_n 0, 1) := by decide +kernel
theorem dX9_at_6 : decode cX9_at 6 = .ok (.getfield 15, 3) := by decide +kernel
theorem dX9_at_9 : decode cX9_at 9 = .ok (.if_icmp .ge 18, 3) := by decide +kernel
theorem dX9_at_12 : decode cX9_at 12 = .ok (.iload_n 1, 1) := by decide +kernel
theorem dX9_at_13 : decode cX9_at 13 = .ok (.bipush 32, 2) := by decide +kernel
theorem dX9_at_15 : decode cX9_at 15 = .ok (.if_icmp .ge 12, 3) := by decide +kernel
theorem dX9_at_18 : decode cX9_at 18 = .ok (.aload_n 0, 1) := by decide +kernel
theorem dX9_at_19 : decode cX9_at 19 = .ok (.getfield 9, 3) := by decide +kernel
theorem dX9_at_22 : decode cX9_at 22 = .ok (.iload_n 1, 1) := by decide +kernel
theorem dX9_at_23 : decode cX9_at 23 = .ok (.iaload, 1) := by decide +kernel
theorem dX9_at_24 : decode cX9_at 24 = .ok (.goto 4, 3) := by decide +kernel
theorem dX9_at_27 : decode cX9_at 27 = .ok (.iconst (-1), 1) := by decide +kernel
theorem dX9_at_28 : decode cX9_at 28 = .ok (.ireturn, 1) := by decide +kernel
theorem dX9_push_0 : decode cX9_push 0 = .ok (.aload_n 0, 1) := by decide +kernel
theorem dX9_push_1 : decode cX9_push 1 = .ok (.getfield 15, 3) := by decide +kernel
theorem dX9_push_4 : decode cX9_push 4 = .ok (.ifCond .lt 32, 3) := by decide +kernel
theorem dX9_push_7 : decode cX9_push 7 = .ok (.aload_n 0, 1) := by decide +kernel
theorem dX9_push_8 : decode cX9_push 8 = .ok (.getfield 15, 3) := by decide +kernel
theorem dX9_push_11 : decode cX9_push 11 = .ok (.bipush 32, 2) := by decide +kernel
theorem dX9_push_13 : decode cX9_push 13 = .ok (.if_icmp .ge 23, 3) := by decide +kernel
theorem dX9_push_16 : decode cX9_push 16 = .ok (.aload_n 0, 1) := by decide +kernel
theorem dX9_push_17 : decode cX9_push 17 = .ok (.getfield 9, 3) := by decide +kernel
theorem dX9_push_20 : decode cX9_push 20 = .ok (.aload_n 0, 1) := by decide +kernel
theorem dX9_push_21 : decode cX9_push 21 = .ok (.getfield 15, 3) := by decide +kernel
theorem dX9_push_24 : decode cX9_push 24 = .ok (.iload_n 1, 1) := by decide +kernel
theorem dX9_push_25 : decode cX9_push 25 = .ok (.iastore, 1) := by decide +kernel
theorem dX9_push_26 : decode cX9_push 26 = .ok (.aload_n 0, 1) := by decide +kernel
theorem dX9_push_27 : decode cX9_push 27 = .ok (.dup, 1) := by decide +kernel
theorem dX9_push_28 : decode cX9_push 28 = .ok (.getfield 15, 3) := by decide +kernel
theorem dX9_push_31 : decode cX9_push 31 = .ok (.iconst 1, 1) := by decide +kernel
theorem dX9_push_32 : decode cX9_push 32 = .ok (.iadd, 1) := by decide +kernel
theorem dX9_push_33 : decode cX9_push 33 = .ok (.putfield 15, 3) := by decide +kernel
theorem dX9_push_36 : decode cX9_push 36 = .ok (.return_, 1) := by decide +kernel
set_option maxRecDepth 20000 in
theorem ggX9_pushAll_X9_at : GoodIn wsX9_pushAll wsX9_at := goodIn_r _ [6, 1, 7, 12, 13] (by decide +kernel) (by decide +kernel)
set_option maxRecDepth 20000 in
theorem gX9_pushAll_X9_at : GoodIn wsX9_pushAll (wsV RX9 19 RX9 yX9_at wsX9_at) := goodIn_app (goodIn_of _ (by decide +kernel)) ggX9_pushAll_X9_at
set_option maxRecDepth 20000 in
theorem ggX9_pushAll_X9_push : GoodIn wsX9_pushAll wsX9_push := goodIn_r _ [11, 1, 7, 12, 13] (by decide +kernel) (by decide +kernel)
set_option maxRecDepth 20000 in
theorem gX9_pushAll_X9_push : GoodIn wsX9_pushAll (wsV RX9 23 RX9 yX9_push wsX9_push) := goodIn_app (goodIn_of _ (by decide +kernel)) ggX9_pushAll_X9_push
theorem dX9_pushAll_0 : decode cX9_pushAll 0 = .ok (.aload_n 1, 1) := by decide +kernel
theorem dX9_pushAll_1 : decode cX9_pushAll 1 = .ok (.getfield 15, 3) := by decide +kernel
theorem dX9_pushAll_4 : decode cX9_pushAll 4 = .ok (.istore_n 2, 1) := by decide +kernel
theorem dX9_pushAll_5 : decode cX9_pushAll 5 = .ok (.iconst 0, 1) := by decide +kernel
theorem dX9_pushAll_6 : decode cX9_pushAll 6 = .ok (.istore_n 3, 1) := by decide +kernel
theorem dX9_pushAll_7 : decode cX9_pushAll 7 = .ok (.iload_n 3, 1) := by decide +kernel
theorem dX9_pushAll_8 : decode cX9_pushAll 8 = .ok (.iload_n 2, 1) := by decide +kernel
theorem dX9_pushAll_9 : decode cX9_pushAll 9 = .ok (.if_icmp .ge 18, 3) := by decide +kernel
theorem dX9_pushAll_12 : decode cX9_pushAll 12 = .ok (.aload_n 0, 1) := by decide +kernel
theorem dX9_pushAll_13 : decode cX9_pushAll 13 = .ok (.aload_n 1, 1) := by decide +kernel
theorem dX9_pushAll_14 : decode cX9_pushAll 14 = .ok (.iload_n 3, 1) := by decide +kernel
theorem dX9_pushAll_15 : decode cX9_pushAll 15 = .ok (.invokevirtual 19, 3) := by decide +kernel
theorem dX9_pushAll_18 : decode cX9_pushAll 18 = .ok (.invokevirtual 23, 3) := by decide +kernel
theorem dX9_pushAll_21 : decode cX9_pushAll 21 = .ok (.iinc 3 1, 3) := by decide +kernel
theorem dX9_pushAll_24 : decode cX9_pushAll 24 = .ok (.goto (-17), 3) := by decide +kernel
theorem dX9_pushAll_27 : decode cX9_pushAll 27 = .ok (.return_, 1) := by decide +kernel
theorem dX9_become_0 : decode cX9_become 0 = .ok (.aload_n 0, 1) := by decide +kernel
theorem dX9_become_1 : decode cX9_become 1 = .ok (.aload_n 1, 1) := by decide +kernel
theorem dX9_become_2 : decode cX9_become 2 = .ok (.getfield 15, 3) := by decide +kernel
theorem dX9_become_5 : decode cX9_become 5 = .ok (.putfield 15, 3) := by decide +kernel
theorem dX9_become_8 : decode cX9_become 8 = .ok (.iconst 0, 1) := by decide +kernel
theorem dX9_become_9 : decode cX9_become 9 = .ok (.istore_n 2, 1) := by decide +kernel
theorem dX9_become_10 : decode cX9_become 10 = .ok (.iload_n 2, 1) := by decide +kernel
theorem dX9_become_11 : decode cX9_become 11 = .ok (.bipush 32, 2) := by decide +kernel
theorem dX9_become_13 : decode cX9_become 13 = .ok (.if_icmp .ge 21, 3) := by decide +kernel
theorem dX9_become_16 : decode cX9_become 16 = .ok (.aload_n 0, 1) := by decide +kernel
theorem dX9_become_17 : decode cX9_become 17 = .ok (.getfield 9, 3) := by decide +kernel
theorem dX9_become_20 : decode cX9_become 20 = .ok (.iload_n 2, 1) := by decide +kernel
theorem dX9_become_21 : decode cX9_become 21 = .ok (.aload_n 1, 1) := by decide +kernel
theorem dX9_become_22 : decode cX9_become 22 = .ok (.getfield 9, 3) := by decide +kernel
theorem dX9_become_25 : decode cX9_become 25 = .ok (.iload_n 2, 1) := by decide +kernel
theorem dX9_become_26 : decode cX9_become 26 = .ok (.iaload, 1) := by decide +kernel
theorem dX9_become_27 : decode cX9_become 27 = .ok (.iastore, 1) := by decide +kernel
theorem dX9_become_28 : decode cX9_become 28 = .ok (.iinc 2 1, 3) := by decide +kernel
theorem dX9_become_31 : decode cX9_become 31 = .ok (.goto (-21), 3) := by decide +kernel
theorem dX9_become_34 : decode cX9_become 34 = .ok (.return_, 1) := by decide +kernel
set_option maxRecDepth 20000 in
theorem ggX9_countBefore_X9_at : GoodIn wsX9_countBefore wsX9_at := goodIn_r _ [6, 1, 7, 8, 9] (by decide +kernel) (by decide +kernel)
set_option maxRecDepth 20000 in
theorem gX9_countBefore_X9_at : GoodIn wsX9_countBefore (wsV RX9 19 RX9 yX9_at wsX9_at) := goodIn_app (goodIn_of _ (by decide +kernel)) ggX9_countBefore_X9_at
theorem dX9_countBefore_0 : decode cX9_countBefore 0 = .ok (.iconst 0, 1) := by decide +kernel
theorem dX9_countBefore_1 : decode cX9_countBefore 1 = .ok (.istore_n 3, 1) := by decide +kernel
theorem dX9_countBefore_2 : decode cX9_countBefore 2 = .ok (.iconst 0, 1) := by decide +kernel
theorem dX9_countBefore_3 : decode cX9_countBefore 3 = .ok (.istore 4, 2) := by decide +kernel
theorem dX9_countBefore_5 : decode cX9_countBefore 5 = .ok (.iload 4, 2) := by decide +kernel
theorem dX9_countBefore_7 : decode cX9_countBefore 7 = .ok (.iload_n 2, 1) := by decide +kernel
theorem dX9_countBefore_8 : decode cX9_countBefore 8 = .ok (.if_icmp .ge 31, 3) := by decide +kernel
theorem dX9_countBefore_11 : decode cX9_countBefore 11 = .ok (.iload 4, 2) := by decide +kernel
theorem dX9_countBefore_13 : decode cX9_countBefore 13 = .ok (.aload_n 0, 1) := by decide +kernel
theorem dX9_countBefore_14 : decode cX9_countBefore 14 = .ok (.getfield 15, 3) := by decide +kernel
theorem dX9_countBefore_17 : decode cX9_countBefore 17 = .ok (.if_icmp .ge 22, 3) := by decide +kernel
theorem dX9_countBefore_20 : decode cX9_countBefore 20 = .ok (.aload_n 0, 1) := by decide +kernel
theorem dX9_countBefore_21 : decode cX9_countBefore 21 = .ok (.iload 4, 2) := by decide +kernel
theorem dX9_countBefore_23 : decode cX9_countBefore 23 = .ok (.invokevirtual 19, 3) := by decide +kernel
theorem dX9_countBefore_26 : decode cX9_countBefore 26 = .ok (.iload_n 1, 1) := by decide +kernel
theorem dX9_countBefore_27 : decode cX9_countBefore 27 = .ok (.if_icmp .ne 6, 3) := by decide +kernel
theorem dX9_countBefore_30 : decode cX9_countBefore 30 = .ok (.iinc 3 1, 3) := by decide +kernel
theorem dX9_countBefore_33 : decode cX9_countBefore 33 = .ok (.iinc 4 1, 3) := by decide +kernel
theorem dX9_countBefore_36 : decode cX9_countBefore 36 = .ok (.goto (-31), 3) := by decide +kernel
theorem dX9_countBefore_39 : decode cX9_countBefore 39 = .ok (.iload_n 3, 1) := by decide +kernel
theorem dX9_countBefore_40 : decode cX9_countBefore 40 = .ok (.ireturn, 1) := by decide +kernel
set_option maxRecDepth 20000 in
theorem ggX9_letterSet_X9_at : GoodIn wsX9_letterSet wsX9_at := goodIn_r _ [6, 1, 7, 8, 9] (by decide +kernel) (by decide +kernel)
set_option maxRecDepth 20000 in
theorem gX9_letterSet_X9_at : GoodIn wsX9_letterSet (wsV RX9 19 RX9 yX9_at wsX9_at) := goodIn_app (goodIn_of _ (by decide +kernel)) ggX9_letterSet_X9_at
theorem dX9_letterSet_0 : decode cX9_letterSet 0 = .ok (.iconst 0, 1) := by decide +kernel
theorem dX9_letterSet_1 : decode cX9_letterSet 1 = .ok (.istore_n 1, 1) := by decide +kernel
theorem dX9_letterSet_2 : decode cX9_letterSet 2 = .ok (.iconst 0, 1) := by decide +kernel
theorem dX9_letterSet_3 : decode cX9_letterSet 3 = .ok (.istore_n 2, 1) := by decide +kernel
theorem dX9_letterSet_4 : decode cX9_letterSet 4 = .ok (.iload_n 2, 1) := by decide +kernel
theorem dX9_letterSet_5 : decode cX9_letterSet 5 = .ok (.aload_n 0, 1) := by decide +kernel
theorem dX9_letterSet_6 : decode cX9_letterSet 6 = .ok (.getfield 15, 3) := by decide +kernel
theorem dX9_letterSet_9 : decode cX9_letterSet 9 = .ok (.if_icmp .ge 19, 3) := by decide +kernel
theorem dX9_letterSet_12 : decode cX9_letterSet 12 = .ok (.iload_n 1, 1) := by decide +kernel
theorem dX9_letterSet_13 : decode cX9_letterSet 13 = .ok (.iconst 1, 1) := by decide +kernel
theorem dX9_letterSet_14 : decode cX9_letterSet 14 = .ok (.aload_n 0, 1) := by decide +kernel
theorem dX9_letterSet_15 : decode cX9_letterSet 15 = .ok (.iload_n 2, 1) := by decide +kernel
theorem dX9_letterSet_16 : decode cX9_letterSet 16 = .ok (.invokevirtual 19, 3) := by decide +kernel
theorem dX9_letterSet_19 : decode cX9_letterSet 19 = .ok (.ishl, 1) := by decide +kernel
theorem dX9_letterSet_20 : decode cX9_letterSet 20 = .ok (.ior, 1) := by decide +kernel
theorem dX9_letterSet_21 : decode cX9_letterSet 21 = .ok (.istore_n 1, 1) := by decide +kernel
theorem dX9_letterSet_22 : decode cX9_letterSet 22 = .ok (.iinc 2 1, 3) := by decide +kernel
theorem dX9_letterSet_25 : decode cX9_letterSet 25 = .ok (.goto (-21), 3) := by decide +kernel
theorem dX9_letterSet_28 : decode cX9_letterSet 28 = .ok (.iload_n 1, 1) := by decide +kernel
theorem dX9_letterSet_29 : decode cX9_letterSet 29 = .ok (.ireturn, 1) := by decide +kernel
theorem dJ6_numberOfTrailingZeros_0f7a4_0 : decode cJ6_numberOfTrailingZeros_0f7a4 0 = .ok (.iload_n 0, 1) := by decide +kernel
theorem dJ6_numberOfTrailingZeros_0f7a4_1 : decode cJ6_numberOfTrailingZeros_0f7a4 1 = .ok (.iconst (-1), 1) := by decide +kernel
theorem dJ6_numberOfTrailingZeros_0f7a4_2 : decode cJ6_numberOfTrailingZeros_0f7a4 2 = .ok (.ixor, 1) := by decide +kernel
theorem dJ6_numberOfTrailingZeros_0f7a4_3 : decode cJ6_numberOfTrailingZeros_0f7a4 3 = .ok (.iload_n 0, 1) := by decide +kernel
theorem dJ6_numberOfTrailingZeros_0f7a4_4 : decode cJ6_numberOfTrailingZeros_0f7a4 4 = .ok (.iconst 1, 1) := by decide +kernel
theorem dJ6_numberOfTrailingZeros_0f7a4_5 : decode cJ6_numberOfTrailingZeros_0f7a4 5 = .ok (.isub, 1) := by decide +kernel
theorem dJ6_numberOfTrailingZeros_0f7a4_6 : decode cJ6_numberOfTrailingZeros_0f7a4 6 = .ok (.iand, 1) := by decide +kernel
theorem dJ6_numberOfTrailingZeros_0f7a4_7 : decode cJ6_numberOfTrailingZeros_0f7a4 7 = .ok (.istore_n 0, 1) := by decide +kernel
theorem dJ6_numberOfTrailingZeros_0f7a4_8 : decode cJ6_numberOfTrailingZeros_0f7a4 8 = .ok (.iload_n 0, 1) := by decide +kernel
theorem dJ6_numberOfTrailingZeros_0f7a4_9 : decode cJ6_numberOfTrailingZeros_0f7a4 9 = .ok (.ifCond .gt 8, 3) := by decide +kernel
theorem dJ6_numberOfTrailingZeros_0f7a4_12 : decode cJ6_numberOfTrailingZeros_0f7a4 12 = .ok (.iload_n 0, 1) := by decide +kernel
theorem dJ6_numberOfTrailingZeros_0f7a4_13 : decode cJ6_numberOfTrailingZeros_0f7a4 13 = .ok (.bipush 32, 2) := by decide +kernel
theorem dJ6_numberOfTrailingZeros_0f7a4_15 : decode cJ6_numberOfTrailingZeros_0f7a4 15 = .ok (.iand, 1) := by decide +kernel
theorem dJ6_numberOfTrailingZeros_0f7a4_16 : decode cJ6_numberOfTrailingZeros_0f7a4 16 = .ok (.ireturn, 1) := by decide +kernel
theorem dJ6_numberOfTrailingZeros_0f7a4_17 : decode cJ6_numberOfTrailingZeros_0f7a4 17 = .ok (.iconst 1, 1) := by decide +kernel
theorem dJ6_numberOfTrailingZeros_0f7a4_18 : decode cJ6_numberOfTrailingZeros_0f7a4 18 = .ok (.istore_n 1, 1) := by decide +kernel
theorem dJ6_numberOfTrailingZeros_0f7a4_19 : decode cJ6_numberOfTrailingZeros_0f7a4 19 = .ok (.iload_n 0, 1) := by decide +kernel
theorem dJ6_numberOfTrailingZeros_0f7a4_20 : decode cJ6_numberOfTrailingZeros_0f7a4 20 = .ok (.ldc_w 264, 3) := by decide +kernel
theorem dJ6_numberOfTrailingZeros_0f7a4_23 : decode cJ6_numberOfTrailingZeros_0f7a4 23 = .ok (.if_icmp .le 11, 3) := by decide +kernel
theorem dJ6_numberOfTrailingZeros_0f7a4_26 : decode cJ6_numberOfTrailingZeros_0f7a4 26 = .ok (.iinc 1 16, 3) := by decide +kernel
theorem dJ6_numberOfTrailingZeros_0f7a4_29 : decode cJ6_numberOfTrailingZeros_0f7a4 29 = .ok (.iload_n 0, 1) := by decide +kernel
theorem dJ6_numberOfTrailingZeros_0f7a4_30 : decode cJ6_numberOfTrailingZeros_0f7a4 30 = .ok (.bipush 16, 2) := by decide +kernel
theorem dJ6_numberOfTrailingZeros_0f7a4_32 : decode cJ6_numberOfTrailingZeros_0f7a4 32 = .ok (.iushr, 1) := by decide +kernel
theorem dJ6_numberOfTrailingZeros_0f7a4_33 : decode cJ6_numberOfTrailingZeros_0f7a4 33 = .ok (.istore_n 0, 1) := by decide +kernel
theorem dJ6_numberOfTrailingZeros_0f7a4_34 : decode cJ6_numberOfTrailingZeros_0f7a4 34 = .ok (.iload_n 0, 1) := by decide +kernel
theorem dJ6_numberOfTrailingZeros_0f7a4_35 : decode cJ6_numberOfTrailingZeros_0f7a4 35 = .ok (.sipush 256, 3) := by decide +kernel
theorem dJ6_numberOfTrailingZeros_0f7a4_38 : decode cJ6_numberOfTrailingZeros_0f7a4 38 = .ok (.if_icmp .le 11, 3) := by decide +kernel
theorem dJ6_numberOfTrailingZeros_0f7a4_41 : decode cJ6_numberOfTrailingZeros_0f7a4 41 = .ok (.iinc 1 8, 3) := by decide +kernel
theorem dJ6_numberOfTrailingZeros_0f7a4_44 : decode cJ6_numberOfTrailingZeros_0f7a4 44 = .ok (.iload_n 0, 1) := by decide +kernel
theorem dJ6_numberOfTrailingZeros_0f7a4_45 : decode cJ6_numberOfTrailingZeros_0f7a4 45 = .ok (.bipush 8, 2) := by decide +kernel
theorem dJ6_numberOfTrailingZeros_0f7a4_47 : decode cJ6_numberOfTrailingZeros_0f7a4 47 = .ok (.iushr, 1) := by decide +kernel
theorem dJ6_numberOfTrailingZeros_0f7a4_48 : decode cJ6_numberOfTrailingZeros_0f7a4 48 = .ok (.istore_n 0, 1) := by decide +kernel
theorem dJ6_numberOfTrailingZeros_0f7a4_49 : decode cJ6_numberOfTrailingZeros_0f7a4 49 = .ok (.iload_n 0, 1) := by decide +kernel
theorem dJ6_numberOfTrailingZeros_0f7a4_50 : decode cJ6_numberOfTrailingZeros_0f7a4 50 = .ok (.bipush 16, 2) := by decide +kernel
theorem dJ6_numberOfTrailingZeros_0f7a4_52 : decode cJ6_numberOfTrailingZeros_0f7a4 52 = .ok (.if_icmp .le 10, 3) := by decide +kernel
theorem dJ6_numberOfTrailingZeros_0f7a4_55 : decode cJ6_numberOfTrailingZeros_0f7a4 55 = .ok (.iinc 1 4, 3) := by decide +kernel
theorem dJ6_numberOfTrailingZeros_0f7a4_58 : decode cJ6_numberOfTrailingZeros_0f7a4 58 = .ok (.iload_n 0, 1) := by decide +kernel
theorem dJ6_numberOfTrailingZeros_0f7a4_59 : decode cJ6_numberOfTrailingZeros_0f7a4 59 = .ok (.iconst 4, 1) := by decide +kernel
theorem dJ6_numberOfTrailingZeros_0f7a4_60 : decode cJ6_numberOfTrailingZeros_0f7a4 60 = .ok (.iushr, 1) := by decide +kernel
theorem dJ6_numberOfTrailingZeros_0f7a4_61 : decode cJ6_numberOfTrailingZeros_0f7a4 61 = .ok (.istore_n 0, 1) := by decide +kernel
theorem dJ6_numberOfTrailingZeros_0f7a4_62 : decode cJ6_numberOfTrailingZeros_0f7a4 62 = .ok (.iload_n 0, 1) := by decide +kernel
theorem dJ6_numberOfTrailingZeros_0f7a4_63 : decode cJ6_numberOfTrailingZeros_0f7a4 63 = .ok (.iconst 4, 1) := by decide +kernel
theorem dJ6_numberOfTrailingZeros_0f7a4_64 : decode cJ6_numberOfTrailingZeros_0f7a4 64 = .ok (.if_icmp .le 10, 3) := by decide +kernel
theorem dJ6_numberOfTrailingZeros_0f7a4_67 : decode cJ6_numberOfTrailingZeros_0f7a4 67 = .ok (.iinc 1 2, 3) := by decide +kernel
theorem dJ6_numberOfTrailingZeros_0f7a4_70 : decode cJ6_numberOfTrailingZeros_0f7a4 70 = .ok (.iload_n 0, 1) := by decide +kernel
theorem dJ6_numberOfTrailingZeros_0f7a4_71 : decode cJ6_numberOfTrailingZeros_0f7a4 71 = .ok (.iconst 2, 1) := by decide +kernel
theorem dJ6_numberOfTrailingZeros_0f7a4_72 : decode cJ6_numberOfTrailingZeros_0f7a4 72 = .ok (.iushr, 1) := by decide +kernel
theorem dJ6_numberOfTrailingZeros_0f7a4_73 : decode cJ6_numberOfTrailingZeros_0f7a4 73 = .ok (.istore_n 0, 1) := by decide +kernel
theorem dJ6_numberOfTrailingZeros_0f7a4_74 : decode cJ6_numberOfTrailingZeros_0f7a4 74 = .ok (.iload_n 1, 1) := by decide +kernel
theorem dJ6_numberOfTrailingZeros_0f7a4_75 : decode cJ6_numberOfTrailingZeros_0f7a4 75 = .ok (.iload_n 0, 1) := by decide +kernel
theorem dJ6_numberOfTrailingZeros_0f7a4_76 : decode cJ6_numberOfTrailingZeros_0f7a4 76 = .ok (.iconst 1, 1) := by decide +kernel
theorem dJ6_numberOfTrailingZeros_0f7a4_77 : decode cJ6_numberOfTrailingZeros_0f7a4 77 = .ok (.iushr, 1) := by decide +kernel
theorem dJ6_numberOfTrailingZeros_0f7a4_78 : decode cJ6_numberOfTrailingZeros_0f7a4 78 = .ok (.iadd, 1) := by decide +kernel
theorem dJ6_numberOfTrailingZeros_0f7a4_79 : decode cJ6_numberOfTrailingZeros_0f7a4 79 = .ok (.ireturn, 1) := by decide +kernel
theorem dJ6_bitCount_0f7a4_0 : decode cJ6_bitCount_0f7a4 0 = .ok (.iload_n 0, 1) := by decide +kernel
theorem dJ6_bitCount_0f7a4_1 : decode cJ6_bitCount_0f7a4 1 = .ok (.iload_n 0, 1) := by decide +kernel
theorem dJ6_bitCount_0f7a4_2 : decode cJ6_bitCount_0f7a4 2 = .ok (.iconst 1, 1) := by decide +kernel
theorem dJ6_bitCount_0f7a4_3 : decode cJ6_bitCount_0f7a4 3 = .ok (.iushr, 1) := by decide +kernel
theorem dJ6_bitCount_0f7a4_4 : decode cJ6_bitCount_0f7a4 4 = .ok (.ldc_w 265, 3) := by decide +kernel
theorem dJ6_bitCount_0f7a4_7 : decode cJ6_bitCount_0f7a4 7 = .ok (.iand, 1) := by decide +kernel
theorem dJ6_bitCount_0f7a4_8 : decode cJ6_bitCount_0f7a4 8 = .ok (.isub, 1) := by decide +kernel
theorem dJ6_bitCount_0f7a4_9 : decode cJ6_bitCount_0f7a4 9 = .ok (.istore_n 0, 1) := by decide +kernel
theorem dJ6_bitCount_0f7a4_10 : decode cJ6_bitCount_0f7a4 10 = .ok (.iload_n 0, 1) := by decide +kernel
theorem dJ6_bitCount_0f7a4_11 : decode cJ6_bitCount_0f7a4 11 = .ok (.ldc_w 266, 3) := by decide +kernel
theorem dJ6_bitCount_0f7a4_14 : decode cJ6_bitCount_0f7a4 14 = .ok (.iand, 1) := by decide +kernel
theorem dJ6_bitCount_0f7a4_15 : decode cJ6_bitCount_0f7a4 15 = .ok (.iload_n 0, 1) := by decide +kernel
theorem dJ6_bitCount_0f7a4_16 : decode cJ6_bitCount_0f7a4 16 = .ok (.iconst 2, 1) := by decide +kernel
theorem dJ6_bitCount_0f7a4_17 : decode cJ6_bitCount_0f7a4 17 = .ok (.iushr, 1) := by decide +kernel
theorem dJ6_bitCount_0f7a4_18 : decode cJ6_bitCount_0f7a4 18 = .ok (.ldc_w 266, 3) := by decide +kernel
theorem dJ6_bitCount_0f7a4_21 : decode cJ6_bitCount_0f7a4 21 = .ok (.iand, 1) := by decide +kernel
theorem dJ6_bitCount_0f7a4_22 : decode cJ6_bitCount_0f7a4 22 = .ok (.iadd, 1) := by decide +kernel
theorem dJ6_bitCount_0f7a4_23 : decode cJ6_bitCount_0f7a4 23 = .ok (.istore_n 0, 1) := by decide +kernel
theorem dJ6_bitCount_0f7a4_24 : decode cJ6_bitCount_0f7a4 24 = .ok (.iload_n 0, 1) := by decide +kernel
theorem dJ6_bitCount_0f7a4_25 : decode cJ6_bitCount_0f7a4 25 = .ok (.iload_n 0, 1) := by decide +kernel
theorem dJ6_bitCount_0f7a4_26 : decode cJ6_bitCount_0f7a4 26 = .ok (.iconst 4, 1) := by decide +kernel
theorem dJ6_bitCount_0f7a4_27 : decode cJ6_bitCount_0f7a4 27 = .ok (.iushr, 1) := by decide +kernel
theorem dJ6_bitCount_0f7a4_28 : decode cJ6_bitCount_0f7a4 28 = .ok (.iadd, 1) := by decide +kernel
theorem dJ6_bitCount_0f7a4_29 : decode cJ6_bitCount_0f7a4 29 = .ok (.ldc_w 267, 3) := by decide +kernel
theorem dJ6_bitCount_0f7a4_32 : decode cJ6_bitCount_0f7a4 32 = .ok (.iand, 1) := by decide +kernel
theorem dJ6_bitCount_0f7a4_33 : decode cJ6_bitCount_0f7a4 33 = .ok (.istore_n 0, 1) := by decide +kernel
theorem dJ6_bitCount_0f7a4_34 : decode cJ6_bitCount_0f7a4 34 = .ok (.iload_n 0, 1) := by decide +kernel
theorem dJ6_bitCount_0f7a4_35 : decode cJ6_bitCount_0f7a4 35 = .ok (.iload_n 0, 1) := by decide +kernel
theorem dJ6_bitCount_0f7a4_36 : decode cJ6_bitCount_0f7a4 36 = .ok (.bipush 8, 2) := by decide +kernel
theorem dJ6_bitCount_0f7a4_38 : decode cJ6_bitCount_0f7a4 38 = .ok (.iushr, 1) := by decide +kernel
theorem dJ6_bitCount_0f7a4_39 : decode cJ6_bitCount_0f7a4 39 = .ok (.iadd, 1) := by decide +kernel
theorem dJ6_bitCount_0f7a4_40 : decode cJ6_bitCount_0f7a4 40 = .ok (.istore_n 0, 1) := by decide +kernel
theorem dJ6_bitCount_0f7a4_41 : decode cJ6_bitCount_0f7a4 41 = .ok (.iload_n 0, 1) := by decide +kernel
theorem dJ6_bitCount_0f7a4_42 : decode cJ6_bitCount_0f7a4 42 = .ok (.iload_n 0, 1) := by decide +kernel
theorem dJ6_bitCount_0f7a4_43 : decode cJ6_bitCount_0f7a4 43 = .ok (.bipush 16, 2) := by decide +kernel
theorem dJ6_bitCount_0f7a4_45 : decode cJ6_bitCount_0f7a4 45 = .ok (.iushr, 1) := by decide +kernel
theorem dJ6_bitCount_0f7a4_46 : decode cJ6_bitCount_0f7a4 46 = .ok (.iadd, 1) := by decide +kernel
theorem dJ6_bitCount_0f7a4_47 : decode cJ6_bitCount_0f7a4 47 = .ok (.istore_n 0, 1) := by decide +kernel
theorem dJ6_bitCount_0f7a4_48 : decode cJ6_bitCount_0f7a4 48 = .ok (.iload_n 0, 1) := by decide +kernel
theorem dJ6_bitCount_0f7a4_49 : decode cJ6_bitCount_0f7a4 49 = .ok (.bipush 63, 2) := by decide +kernel
theorem dJ6_bitCount_0f7a4_51 : decode cJ6_bitCount_0f7a4 51 = .ok (.iand, 1) := by decide +kernel
theorem dJ6_bitCount_0f7a4_52 : decode cJ6_bitCount_0f7a4 52 = .ok (.ireturn, 1) := by decide +kernel
theorem dJ9_max_7cf53_0 : decode cJ9_max_7cf53 0 = .ok (.iload_n 0, 1) := by decide +kernel
theorem dJ9_max_7cf53_1 : decode cJ9_max_7cf53 1 = .ok (.iload_n 1, 1) := by decide +kernel
theorem dJ9_max_7cf53_2 : decode cJ9_max_7cf53 2 = .ok (.if_icmp .lt 7, 3) := by decide +kernel
theorem dJ9_max_7cf53_5 : decode cJ9_max_7cf53 5 = .ok (.iload_n 0, 1) := by decide +kernel
theorem dJ9_max_7cf53_6 : decode cJ9_max_7cf53 6 = .ok (.goto 4, 3) := by decide +kernel
theorem dJ9_max_7cf53_9 : decode cJ9_max_7cf53 9 = .ok (.iload_n 1, 1) := by decide +kernel
theorem dJ9_max_7cf53_10 : decode cJ9_max_7cf53 10 = .ok (.ireturn, 1) := by decide +kernel
theorem dJ9_min_7cf53_0 : decode cJ9_min_7cf53 0 = .ok (.iload_n 0, 1) := by decide +kernel
theorem dJ9_min_7cf53_1 : decode cJ9_min_7cf53 1 = .ok (.iload_n 1, 1) := by decide +kernel
theorem dJ9_min_7cf53_2 : decode cJ9_min_7cf53 2 = .ok (.if_icmp .gt 7, 3) := by decide +kernel
theorem dJ9_min_7cf53_5 : decode cJ9_min_7cf53 5 = .ok (.iload_n 0, 1) := by decide +kernel
theorem dJ9_min_7cf53_6 : decode cJ9_min_7cf53 6 = .ok (.goto 4, 3) := by decide +kernel
theorem dJ9_min_7cf53_9 : decode cJ9_min_7cf53 9 = .ok (.iload_n 1, 1) := by decide +kernel
theorem dJ9_min_7cf53_10 : decode cJ9_min_7cf53 10 = .ok (.ireturn, 1) := by decide +kernel
theorem dJ7_fill_d0a16_0 : decode cJ7_fill_d0a16 0 = .ok (.iconst 0, 1) := by decide +kernel
theorem dJ7_fill_d0a16_1 : decode cJ7_fill_d0a16 1 = .ok (.istore_n 3, 1) := by decide +kernel
theorem dJ7_fill_d0a16_2 : decode cJ7_fill_d0a16 2 = .ok (.aload_n 0, 1) := by decide +kernel
theorem dJ7_fill_d0a16_3 : decode cJ7_fill_d0a16 3 = .ok (.arraylength, 1) := by decide +kernel
theorem dJ7_fill_d0a16_4 : decode cJ7_fill_d0a16 4 = .ok (.istore 4, 2) := by decide +kernel
theorem dJ7_fill_d0a16_6 : decode cJ7_fill_d0a16 6 = .ok (.iload_n 3, 1) := by decide +kernel
theorem dJ7_fill_d0a16_7 : decode cJ7_fill_d0a16 7 = .ok (.iload 4, 2) := by decide +kernel
theorem dJ7_fill_d0a16_9 : decode cJ7_fill_d0a16 9 = .ok (.if_icmp .ge 13, 3) := by decide +kernel
theorem dJ7_fill_d0a16_12 : decode cJ7_fill_d0a16 12 = .ok (.aload_n 0, 1) := by decide +kernel
theorem dJ7_fill_d0a16_13 : decode cJ7_fill_d0a16 13 = .ok (.iload_n 3, 1) := by decide +kernel
theorem dJ7_fill_d0a16_14 : decode cJ7_fill_d0a16 14 = .ok (.lload_n 1, 1) := by decide +kernel
theorem dJ7_fill_d0a16_15 : decode cJ7_fill_d0a16 15 = .ok (.lastore, 1) := by decide +kernel
theorem dJ7_fill_d0a16_16 : decode cJ7_fill_d0a16 16 = .ok (.iinc 3 1, 3) := by decide +kernel
theorem dJ7_fill_d0a16_19 : decode cJ7_fill_d0a16 19 = .ok (.goto (-13), 3) := by decide +kernel
theorem dJ7_fill_d0a16_22 : decode cJ7_fill_d0a16 22 = .ok (.return_, 1) := by decide +kernel
theorem dJ7_fill_53178_0 : decode cJ7_fill_53178 0 = .ok (.iconst 0, 1) := by decide +kernel
theorem dJ7_fill_53178_1 : decode cJ7_fill_53178 1 = .ok (.istore_n 2, 1) := by decide +kernel
theorem dJ7_fill_53178_2 : decode cJ7_fill_53178 2 = .ok (.aload_n 0, 1) := by decide +kernel
theorem dJ7_fill_53178_3 : decode cJ7_fill_53178 3 = .ok (.arraylength, 1) := by decide +kernel
theorem dJ7_fill_53178_4 : decode cJ7_fill_53178 4 = .ok (.istore_n 3, 1) := by decide +kernel
theorem dJ7_fill_53178_5 : decode cJ7_fill_53178 5 = .ok (.iload_n 2, 1) := by decide +kernel
theorem dJ7_fill_53178_6 : decode cJ7_fill_53178 6 = .ok (.iload_n 3, 1) := by decide +kernel
theorem dJ7_fill_53178_7 : decode cJ7_fill_53178 7 = .ok (.if_icmp .ge 13, 3) := by decide +kernel
theorem dJ7_fill_53178_10 : decode cJ7_fill_53178 10 = .ok (.aload_n 0, 1) := by decide +kernel
theorem dJ7_fill_53178_11 : decode cJ7_fill_53178 11 = .ok (.iload_n 2, 1) := by decide +kernel
theorem dJ7_fill_53178_12 : decode cJ7_fill_53178 12 = .ok (.iload_n 1, 1) := by decide +kernel
theorem dJ7_fill_53178_13 : decode cJ7_fill_53178 13 = .ok (.iastore, 1) := by decide +kernel
theorem dJ7_fill_53178_14 : decode cJ7_fill_53178 14 = .ok (.iinc 2 1, 3) := by decide +kernel
theorem dJ7_fill_53178_17 : decode cJ7_fill_53178 17 = .ok (.goto (-12), 3) := by decide +kernel
theorem dJ7_fill_53178_20 : decode cJ7_fill_53178 20 = .ok (.return_, 1) := by decide +kernel
