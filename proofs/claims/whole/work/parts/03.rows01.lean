theorem dX2_readPart_47 : decode cX2_readPart 47 = .ok (.iconst 1, 1) := by decide +kernel
theorem dX2_readPart_48 : decode cX2_readPart 48 = .ok (.iadd, 1) := by decide +kernel
theorem dX2_readPart_49 : decode cX2_readPart 49 = .ok (.aload_n 2, 1) := by decide +kernel
theorem dX2_readPart_50 : decode cX2_readPart 50 = .ok (.invokevirtual 42, 3) := by decide +kernel
theorem dX2_readPart_53 : decode cX2_readPart 53 = .ok (.ireturn, 1) := by decide +kernel
theorem dX2_readPart_54 : decode cX2_readPart 54 = .ok (.iload_n 1, 1) := by decide +kernel
theorem dX2_readPart_55 : decode cX2_readPart 55 = .ok (.ireturn, 1) := by decide +kernel
set_option maxRecDepth 20000 in
theorem ggX2_readPerson_X2_figureAt : GoodIn wsX2_readPerson wsX2_figureAt := goodIn_r _ [5, 6, 7, 8, 4, 9, 10, 11, 23, 24] (by decide +kernel) (by decide +kernel)
set_option maxRecDepth 20000 in
theorem gX2_readPerson_X2_figureAt : GoodIn wsX2_readPerson (wsV RX2 45 RX2 yX2_figureAt wsX2_figureAt) := goodIn_app (goodIn_of _ (by decide +kernel)) ggX2_readPerson_X2_figureAt
set_option maxRecDepth 20000 in
theorem ggX2_readPerson_X1_add : GoodIn wsX2_readPerson wsX1_add := goodIn_r _ [15, 16, 17, 18, 19, 20, 21, 22, 25, 26, 27, 28, 29, 30, 31] (by decide +kernel) (by decide +kernel)
set_option maxRecDepth 20000 in
theorem gX2_readPerson_X1_add_n48 : GoodIn wsX2_readPerson (wsX1_add) := ggX2_readPerson_X1_add
theorem dX2_readPerson_0 : decode cX2_readPerson 0 = .ok (.aload_n 0, 1) := by decide +kernel
theorem dX2_readPerson_1 : decode cX2_readPerson 1 = .ok (.iload_n 1, 1) := by decide +kernel
theorem dX2_readPerson_2 : decode cX2_readPerson 2 = .ok (.invokevirtual 45, 3) := by decide +kernel
theorem dX2_readPerson_5 : decode cX2_readPerson 5 = .ok (.istore_n 3, 1) := by decide +kernel
theorem dX2_readPerson_6 : decode cX2_readPerson 6 = .ok (.iload_n 3, 1) := by decide +kernel
theorem dX2_readPerson_7 : decode cX2_readPerson 7 = .ok (.bipush (-9), 2) := by decide +kernel
theorem dX2_readPerson_9 : decode cX2_readPerson 9 = .ok (.if_icmp .ne 5, 3) := by decide +kernel
theorem dX2_readPerson_12 : decode cX2_readPerson 12 = .ok (.iload_n 1, 1) := by decide +kernel
theorem dX2_readPerson_13 : decode cX2_readPerson 13 = .ok (.ireturn, 1) := by decide +kernel
theorem dX2_readPerson_14 : decode cX2_readPerson 14 = .ok (.aload_n 0, 1) := by decide +kernel
theorem dX2_readPerson_15 : decode cX2_readPerson 15 = .ok (.iload_n 1, 1) := by decide +kernel
theorem dX2_readPerson_16 : decode cX2_readPerson 16 = .ok (.iconst 1, 1) := by decide +kernel
theorem dX2_readPerson_17 : decode cX2_readPerson 17 = .ok (.iadd, 1) := by decide +kernel
theorem dX2_readPerson_18 : decode cX2_readPerson 18 = .ok (.invokevirtual 45, 3) := by decide +kernel
theorem dX2_readPerson_21 : decode cX2_readPerson 21 = .ok (.istore 4, 2) := by decide +kernel
theorem dX2_readPerson_23 : decode cX2_readPerson 23 = .ok (.iload 4, 2) := by decide +kernel
theorem dX2_readPerson_25 : decode cX2_readPerson 25 = .ok (.bipush (-9), 2) := by decide +kernel
theorem dX2_readPerson_27 : decode cX2_readPerson 27 = .ok (.if_icmp .eq 9, 3) := by decide +kernel
theorem dX2_readPerson_30 : decode cX2_readPerson 30 = .ok (.iload 4, 2) := by decide +kernel
theorem dX2_readPerson_32 : decode cX2_readPerson 32 = .ok (.iconst 4, 1) := by decide +kernel
theorem dX2_readPerson_33 : decode cX2_readPerson 33 = .ok (.if_icmp .lt 7, 3) := by decide +kernel
theorem dX2_readPerson_36 : decode cX2_readPerson 36 = .ok (.iload_n 1, 1) := by decide +kernel
theorem dX2_readPerson_37 : decode cX2_readPerson 37 = .ok (.iconst 1, 1) := by decide +kernel
theorem dX2_readPerson_38 : decode cX2_readPerson 38 = .ok (.iadd, 1) := by decide +kernel
theorem dX2_readPerson_39 : decode cX2_readPerson 39 = .ok (.ireturn, 1) := by decide +kernel
theorem dX2_readPerson_40 : decode cX2_readPerson 40 = .ok (.aload_n 2, 1) := by decide +kernel
theorem dX2_readPerson_41 : decode cX2_readPerson 41 = .ok (.iload_n 3, 1) := by decide +kernel
theorem dX2_readPerson_42 : decode cX2_readPerson 42 = .ok (.iload 4, 2) := by decide +kernel
theorem dX2_readPerson_44 : decode cX2_readPerson 44 = .ok (.invokevirtual 48, 3) := by decide +kernel
theorem dX2_readPerson_47 : decode cX2_readPerson 47 = .ok (.bipush (-9), 2) := by decide +kernel
theorem dX2_readPerson_49 : decode cX2_readPerson 49 = .ok (.ireturn, 1) := by decide +kernel
set_option maxRecDepth 20000 in
theorem ggX2_readPair_X2_figureAt : GoodIn wsX2_readPair wsX2_figureAt := goodIn_r _ [5, 6, 7, 8, 4, 9, 10, 11, 44, 45] (by decide +kernel) (by decide +kernel)
set_option maxRecDepth 20000 in
theorem gX2_readPair_X2_figureAt : GoodIn wsX2_readPair (wsV RX2 45 RX2 yX2_figureAt wsX2_figureAt) := goodIn_app (goodIn_of _ (by decide +kernel)) ggX2_readPair_X2_figureAt
set_option maxRecDepth 20000 in
theorem ggX2_readPair_X1_has : GoodIn wsX2_readPair wsX1_has := goodIn_r _ [15, 16, 37, 38, 39, 40, 41, 42, 43] (by decide +kernel) (by decide +kernel)
set_option maxRecDepth 20000 in
theorem gX2_readPair_X1_has_n52 : GoodIn wsX2_readPair (wsX1_has) := ggX2_readPair_X1_has
set_option maxRecDepth 20000 in
theorem ggX2_readPair_X1_whomFeeds : GoodIn wsX2_readPair wsX1_whomFeeds := goodIn_r _ [19, 16, 20, 21, 22, 13, 23, 24, 25, 26, 27, 28, 29, 37, 38, 39, 40, 41, 42, 43] (by decide +kernel) (by decide +kernel)
set_option maxRecDepth 20000 in
theorem gX2_readPair_X1_whomFeeds_n56 : GoodIn wsX2_readPair (wsX1_whomFeeds) := ggX2_readPair_X1_whomFeeds
set_option maxRecDepth 20000 in
theorem ggX2_readPair_J6_bitCount_0f7a4 : GoodIn wsX2_readPair wsJ6_bitCount_0f7a4 := goodIn_r _ [33, 34, 35, 36] (by decide +kernel) (by decide +kernel)
set_option maxRecDepth 20000 in
theorem gX2_readPair_J6_bitCount_0f7a4 : GoodIn wsX2_readPair (va_wsS RX2 59 yJ6_bitCount_0f7a4 wsJ6_bitCount_0f7a4) := goodIn_app (goodIn_of _ (by decide +kernel)) ggX2_readPair_J6_bitCount_0f7a4
set_option maxRecDepth 20000 in
theorem ggX2_readPair_X1_feeds : GoodIn wsX2_readPair wsX1_feeds := goodIn_r _ [23, 24, 25, 26, 27, 37, 38, 39, 40, 41, 42, 43] (by decide +kernel) (by decide +kernel)
set_option maxRecDepth 20000 in
theorem gX2_readPair_X1_feeds_n64 : GoodIn wsX2_readPair (wsX1_feeds) := ggX2_readPair_X1_feeds
set_option maxRecDepth 20000 in
theorem ggX2_readPair_X3_pair : GoodIn wsX2_readPair wsX3_pair := goodIn_r _ [27] (by decide +kernel) (by decide +kernel)
set_option maxRecDepth 20000 in
theorem gX2_readPair_X3_pair_n72 : GoodIn wsX2_readPair (wsX3_pair) := ggX2_readPair_X3_pair
theorem dX2_readPair_0 : decode cX2_readPair 0 = .ok (.aload_n 0, 1) := by decide +kernel
theorem dX2_readPair_1 : decode cX2_readPair 1 = .ok (.iload_n 1, 1) := by decide +kernel
theorem dX2_readPair_2 : decode cX2_readPair 2 = .ok (.invokevirtual 45, 3) := by decide +kernel
theorem dX2_readPair_5 : decode cX2_readPair 5 = .ok (.istore_n 3, 1) := by decide +kernel
theorem dX2_readPair_6 : decode cX2_readPair 6 = .ok (.aload_n 2, 1) := by decide +kernel
theorem dX2_readPair_7 : decode cX2_readPair 7 = .ok (.iload_n 3, 1) := by decide +kernel
theorem dX2_readPair_8 : decode cX2_readPair 8 = .ok (.invokevirtual 52, 3) := by decide +kernel
theorem dX2_readPair_11 : decode cX2_readPair 11 = .ok (.ifCond .eq 20, 3) := by decide +kernel
theorem dX2_readPair_14 : decode cX2_readPair 14 = .ok (.aload_n 2, 1) := by decide +kernel
theorem dX2_readPair_15 : decode cX2_readPair 15 = .ok (.iload_n 3, 1) := by decide +kernel
theorem dX2_readPair_16 : decode cX2_readPair 16 = .ok (.invokevirtual 56, 3) := by decide +kernel
theorem dX2_readPair_19 : decode cX2_readPair 19 = .ok (.invokestatic 59, 3) := by decide +kernel
theorem dX2_readPair_22 : decode cX2_readPair 22 = .ok (.aload_n 2, 1) := by decide +kernel
theorem dX2_readPair_23 : decode cX2_readPair 23 = .ok (.getfield 32, 3) := by decide +kernel
theorem dX2_readPair_26 : decode cX2_readPair 26 = .ok (.iconst 1, 1) := by decide +kernel
theorem dX2_readPair_27 : decode cX2_readPair 27 = .ok (.isub, 1) := by decide +kernel
theorem dX2_readPair_28 : decode cX2_readPair 28 = .ok (.if_icmp .lt 5, 3) := by decide +kernel
theorem dX2_readPair_31 : decode cX2_readPair 31 = .ok (.iload_n 1, 1) := by decide +kernel
theorem dX2_readPair_32 : decode cX2_readPair 32 = .ok (.ireturn, 1) := by decide +kernel
theorem dX2_readPair_33 : decode cX2_readPair 33 = .ok (.aload_n 0, 1) := by decide +kernel
theorem dX2_readPair_34 : decode cX2_readPair 34 = .ok (.iload_n 1, 1) := by decide +kernel
theorem dX2_readPair_35 : decode cX2_readPair 35 = .ok (.iconst 1, 1) := by decide +kernel
theorem dX2_readPair_36 : decode cX2_readPair 36 = .ok (.iadd, 1) := by decide +kernel
theorem dX2_readPair_37 : decode cX2_readPair 37 = .ok (.invokevirtual 45, 3) := by decide +kernel
theorem dX2_readPair_40 : decode cX2_readPair 40 = .ok (.istore 4, 2) := by decide +kernel
theorem dX2_readPair_42 : decode cX2_readPair 42 = .ok (.aload_n 2, 1) := by decide +kernel
theorem dX2_readPair_43 : decode cX2_readPair 43 = .ok (.iload 4, 2) := by decide +kernel
theorem dX2_readPair_45 : decode cX2_readPair 45 = .ok (.invokevirtual 52, 3) := by decide +kernel
theorem dX2_readPair_48 : decode cX2_readPair 48 = .ok (.ifCond .eq 19, 3) := by decide +kernel
theorem dX2_readPair_51 : decode cX2_readPair 51 = .ok (.iload_n 3, 1) := by decide +kernel
theorem dX2_readPair_52 : decode cX2_readPair 52 = .ok (.iload 4, 2) := by decide +kernel
theorem dX2_readPair_54 : decode cX2_readPair 54 = .ok (.if_icmp .eq 13, 3) := by decide +kernel
theorem dX2_readPair_57 : decode cX2_readPair 57 = .ok (.aload_n 2, 1) := by decide +kernel
theorem dX2_readPair_58 : decode cX2_readPair 58 = .ok (.iload_n 3, 1) := by decide +kernel
theorem dX2_readPair_59 : decode cX2_readPair 59 = .ok (.iload 4, 2) := by decide +kernel
theorem dX2_readPair_61 : decode cX2_readPair 61 = .ok (.invokevirtual 64, 3) := by decide +kernel
theorem dX2_readPair_64 : decode cX2_readPair 64 = .ok (.ifCond .eq 7, 3) := by decide +kernel
theorem dX2_readPair_67 : decode cX2_readPair 67 = .ok (.iload_n 1, 1) := by decide +kernel
theorem dX2_readPair_68 : decode cX2_readPair 68 = .ok (.iconst 1, 1) := by decide +kernel
theorem dX2_readPair_69 : decode cX2_readPair 69 = .ok (.iadd, 1) := by decide +kernel
theorem dX2_readPair_70 : decode cX2_readPair 70 = .ok (.ireturn, 1) := by decide +kernel
theorem dX2_readPair_71 : decode cX2_readPair 71 = .ok (.aload_n 2, 1) := by decide +kernel
theorem dX2_readPair_72 : decode cX2_readPair 72 = .ok (.dup, 1) := by decide +kernel
theorem dX2_readPair_73 : decode cX2_readPair 73 = .ok (.getfield 68, 3) := by decide +kernel
theorem dX2_readPair_76 : decode cX2_readPair 76 = .ok (.iload_n 3, 1) := by decide +kernel
theorem dX2_readPair_77 : decode cX2_readPair 77 = .ok (.iload 4, 2) := by decide +kernel
theorem dX2_readPair_79 : decode cX2_readPair 79 = .ok (.invokestatic 72, 3) := by decide +kernel
theorem dX2_readPair_82 : decode cX2_readPair 82 = .ok (.lor, 1) := by decide +kernel
theorem dX2_readPair_83 : decode cX2_readPair 83 = .ok (.putfield 68, 3) := by decide +kernel
theorem dX2_readPair_86 : decode cX2_readPair 86 = .ok (.bipush (-9), 2) := by decide +kernel
theorem dX2_readPair_88 : decode cX2_readPair 88 = .ok (.ireturn, 1) := by decide +kernel
theorem dX2_byteAt_0 : decode cX2_byteAt 0 = .ok (.iload_n 1, 1) := by decide +kernel
theorem dX2_byteAt_1 : decode cX2_byteAt 1 = .ok (.ifCond .lt 26, 3) := by decide +kernel
theorem dX2_byteAt_4 : decode cX2_byteAt 4 = .ok (.iload_n 1, 1) := by decide +kernel
theorem dX2_byteAt_5 : decode cX2_byteAt 5 = .ok (.aload_n 0, 1) := by decide +kernel
theorem dX2_byteAt_6 : decode cX2_byteAt 6 = .ok (.getfield 15, 3) := by decide +kernel
theorem dX2_byteAt_9 : decode cX2_byteAt 9 = .ok (.if_icmp .ge 18, 3) := by decide +kernel
theorem dX2_byteAt_12 : decode cX2_byteAt 12 = .ok (.iload_n 1, 1) := by decide +kernel
theorem dX2_byteAt_13 : decode cX2_byteAt 13 = .ok (.bipush 48, 2) := by decide +kernel
theorem dX2_byteAt_15 : decode cX2_byteAt 15 = .ok (.if_icmp .ge 12, 3) := by decide +kernel
theorem dX2_byteAt_18 : decode cX2_byteAt 18 = .ok (.aload_n 0, 1) := by decide +kernel
theorem dX2_byteAt_19 : decode cX2_byteAt 19 = .ok (.getfield 9, 3) := by decide +kernel
theorem dX2_byteAt_22 : decode cX2_byteAt 22 = .ok (.iload_n 1, 1) := by decide +kernel
theorem dX2_byteAt_23 : decode cX2_byteAt 23 = .ok (.iaload, 1) := by decide +kernel
theorem dX2_byteAt_24 : decode cX2_byteAt 24 = .ok (.goto 5, 3) := by decide +kernel
theorem dX2_byteAt_27 : decode cX2_byteAt 27 = .ok (.bipush (-9), 2) := by decide +kernel
theorem dX2_byteAt_29 : decode cX2_byteAt 29 = .ok (.ireturn, 1) := by decide +kernel
set_option maxRecDepth 20000 in
theorem ggX2_figureAt_X2_byteAt : GoodIn wsX2_figureAt wsX2_byteAt := goodIn_r _ [5, 6, 7, 8, 9] (by decide +kernel) (by decide +kernel)
set_option maxRecDepth 20000 in
theorem gX2_figureAt_X2_byteAt : GoodIn wsX2_figureAt (wsV RX2 24 RX2 yX2_byteAt wsX2_byteAt) := goodIn_app (goodIn_of _ (by decide +kernel)) ggX2_figureAt_X2_byteAt
theorem dX2_figureAt_0 : decode cX2_figureAt 0 = .ok (.aload_n 0, 1) := by decide +kernel
theorem dX2_figureAt_1 : decode cX2_figureAt 1 = .ok (.iload_n 1, 1) := by decide +kernel
theorem dX2_figureAt_2 : decode cX2_figureAt 2 = .ok (.invokevirtual 24, 3) := by decide +kernel
theorem dX2_figureAt_5 : decode cX2_figureAt 5 = .ok (.istore_n 2, 1) := by decide +kernel
theorem dX2_figureAt_6 : decode cX2_figureAt 6 = .ok (.iload_n 2, 1) := by decide +kernel
theorem dX2_figureAt_7 : decode cX2_figureAt 7 = .ok (.bipush 48, 2) := by decide +kernel
theorem dX2_figureAt_9 : decode cX2_figureAt 9 = .ok (.if_icmp .lt 16, 3) := by decide +kernel
theorem dX2_figureAt_12 : decode cX2_figureAt 12 = .ok (.iload_n 2, 1) := by decide +kernel
theorem dX2_figureAt_13 : decode cX2_figureAt 13 = .ok (.bipush 57, 2) := by decide +kernel
theorem dX2_figureAt_15 : decode cX2_figureAt 15 = .ok (.if_icmp .gt 10, 3) := by decide +kernel
theorem dX2_figureAt_18 : decode cX2_figureAt 18 = .ok (.iload_n 2, 1) := by decide +kernel
theorem dX2_figureAt_19 : decode cX2_figureAt 19 = .ok (.bipush 48, 2) := by decide +kernel
theorem dX2_figureAt_21 : decode cX2_figureAt 21 = .ok (.isub, 1) := by decide +kernel
theorem dX2_figureAt_22 : decode cX2_figureAt 22 = .ok (.goto 5, 3) := by decide +kernel
theorem dX2_figureAt_25 : decode cX2_figureAt 25 = .ok (.bipush (-9), 2) := by decide +kernel
theorem dX2_figureAt_27 : decode cX2_figureAt 27 = .ok (.ireturn, 1) := by decide +kernel
set_option maxRecDepth 20000 in
theorem ggX3_init_X2_init : GoodIn wsX3_init wsX2_init := goodIn_r _ [23, 24, 2, 3, 18, 25, 34, 35] (by decide +kernel) (by decide +kernel)
set_option maxRecDepth 20000 in
theorem gX3_init_X2_init_n11 : GoodIn wsX3_init (wsX2_init) := ggX3_init_X2_init
set_option maxRecDepth 20000 in
theorem ggX3_init_X1_init : GoodIn wsX3_init wsX1_init := goodIn_r _ [27, 28, 2, 3] (by decide +kernel) (by decide +kernel)
set_option maxRecDepth 20000 in
theorem gX3_init_X1_init_n18 : GoodIn wsX3_init (wsX1_init) := ggX3_init_X1_init
set_option maxRecDepth 20000 in
theorem ggX3_init_X0_init : GoodIn wsX3_init wsX0_init := goodIn_r _ [30, 31, 2, 3, 32, 33, 9, 10, 26, 27, 28, 54, 55, 56, 47, 48, 49, 50, 51, 52, 53] (by decide +kernel) (by decide +kernel)
set_option maxRecDepth 20000 in
theorem gX3_init_X0_init_n28 : GoodIn wsX3_init (wsX0_init) := ggX3_init_X0_init
theorem dX3_init_0 : decode cX3_init 0 = .ok (.aload_n 0, 1) := by decide +kernel
theorem dX3_init_1 : decode cX3_init 1 = .ok (.invokespecial 3, 3) := by decide +kernel
theorem dX3_init_4 : decode cX3_init 4 = .ok (.aload_n 0, 1) := by decide +kernel
theorem dX3_init_5 : decode cX3_init 5 = .ok (.new 9, 3) := by decide +kernel
theorem dX3_init_8 : decode cX3_init 8 = .ok (.dup, 1) := by decide +kernel
theorem dX3_init_9 : decode cX3_init 9 = .ok (.invokespecial 11, 3) := by decide +kernel
theorem dX3_init_12 : decode cX3_init 12 = .ok (.putfield 12, 3) := by decide +kernel
theorem dX3_init_15 : decode cX3_init 15 = .ok (.aload_n 0, 1) := by decide +kernel
theorem dX3_init_16 : decode cX3_init 16 = .ok (.new 16, 3) := by decide +kernel
theorem dX3_init_19 : decode cX3_init 19 = .ok (.dup, 1) := by decide +kernel
theorem dX3_init_20 : decode cX3_init 20 = .ok (.invokespecial 18, 3) := by decide +kernel
theorem dX3_init_23 : decode cX3_init 23 = .ok (.putfield 19, 3) := by decide +kernel
theorem dX3_init_26 : decode cX3_init 26 = .ok (.aload_n 0, 1) := by decide +kernel
theorem dX3_init_27 : decode cX3_init 27 = .ok (.new 16, 3) := by decide +kernel
theorem dX3_init_30 : decode cX3_init 30 = .ok (.dup, 1) := by decide +kernel
theorem dX3_init_31 : decode cX3_init 31 = .ok (.invokespecial 18, 3) := by decide +kernel
theorem dX3_init_34 : decode cX3_init 34 = .ok (.putfield 23, 3) := by decide +kernel
theorem dX3_init_37 : decode cX3_init 37 = .ok (.aload_n 0, 1) := by decide +kernel
theorem dX3_init_38 : decode cX3_init 38 = .ok (.new 26, 3) := by decide +kernel
theorem dX3_init_41 : decode cX3_init 41 = .ok (.dup, 1) := by decide +kernel
theorem dX3_init_42 : decode cX3_init 42 = .ok (.invokespecial 28, 3) := by decide +kernel
theorem dX3_init_45 : decode cX3_init 45 = .ok (.putfield 29, 3) := by decide +kernel
theorem dX3_init_48 : decode cX3_init 48 = .ok (.aload_n 0, 1) := by decide +kernel
theorem dX3_init_49 : decode cX3_init 49 = .ok (.iconst 2, 1) := by decide +kernel
theorem dX3_init_50 : decode cX3_init 50 = .ok (.anewarray 16, 3) := by decide +kernel
theorem dX3_init_53 : decode cX3_init 53 = .ok (.putfield 33, 3) := by decide +kernel
theorem dX3_init_56 : decode cX3_init 56 = .ok (.iconst 0, 1) := by decide +kernel
theorem dX3_init_57 : decode cX3_init 57 = .ok (.istore_n 1, 1) := by decide +kernel
theorem dX3_init_58 : decode cX3_init 58 = .ok (.iload_n 1, 1) := by decide +kernel
theorem dX3_init_59 : decode cX3_init 59 = .ok (.iconst 2, 1) := by decide +kernel
theorem dX3_init_60 : decode cX3_init 60 = .ok (.if_icmp .ge 22, 3) := by decide +kernel
theorem dX3_init_63 : decode cX3_init 63 = .ok (.aload_n 0, 1) := by decide +kernel
theorem dX3_init_64 : decode cX3_init 64 = .ok (.getfield 33, 3) := by decide +kernel
theorem dX3_init_67 : decode cX3_init 67 = .ok (.iload_n 1, 1) := by decide +kernel
theorem dX3_init_68 : decode cX3_init 68 = .ok (.new 16, 3) := by decide +kernel
theorem dX3_init_71 : decode cX3_init 71 = .ok (.dup, 1) := by decide +kernel
theorem dX3_init_72 : decode cX3_init 72 = .ok (.invokespecial 18, 3) := by decide +kernel
theorem dX3_init_75 : decode cX3_init 75 = .ok (.aastore, 1) := by decide +kernel
theorem dX3_init_76 : decode cX3_init 76 = .ok (.iinc 1 1, 3) := by decide +kernel
theorem dX3_init_79 : decode cX3_init 79 = .ok (.goto (-21), 3) := by decide +kernel
theorem dX3_init_82 : decode cX3_init 82 = .ok (.aload_n 0, 1) := by decide +kernel
theorem dX3_init_83 : decode cX3_init 83 = .ok (.bipush 6, 2) := by decide +kernel
theorem dX3_init_85 : decode cX3_init 85 = .ok (.newarray .int, 2) := by decide +kernel
theorem dX3_init_87 : decode cX3_init 87 = .ok (.putfield 37, 3) := by decide +kernel
theorem dX3_init_90 : decode cX3_init 90 = .ok (.aload_n 0, 1) := by decide +kernel
theorem dX3_init_91 : decode cX3_init 91 = .ok (.bipush 64, 2) := by decide +kernel
theorem dX3_init_93 : decode cX3_init 93 = .ok (.newarray .int, 2) := by decide +kernel
theorem dX3_init_95 : decode cX3_init 95 = .ok (.putfield 41, 3) := by decide +kernel
theorem dX3_init_98 : decode cX3_init 98 = .ok (.aload_n 0, 1) := by decide +kernel
theorem dX3_init_99 : decode cX3_init 99 = .ok (.bipush 64, 2) := by decide +kernel
theorem dX3_init_101 : decode cX3_init 101 = .ok (.newarray .int, 2) := by decide +kernel
theorem dX3_init_103 : decode cX3_init 103 = .ok (.putfield 44, 3) := by decide +kernel
theorem dX3_init_106 : decode cX3_init 106 = .ok (.return_, 1) := by decide +kernel
set_option maxRecDepth 20000 in
theorem ggX3_write_X2_append : GoodIn wsX3_write wsX2_append := goodIn_r _ [5, 6, 7, 19, 20] (by decide +kernel) (by decide +kernel)
set_option maxRecDepth 20000 in
theorem gX3_write_X2_append_n47 : GoodIn wsX3_write (wsX2_append) := ggX3_write_X2_append
theorem dX3_write_0 : decode cX3_write 0 = .ok (.iload_n 1, 1) := by decide +kernel
theorem dX3_write_1 : decode cX3_write 1 = .ok (.ifCond .lt 10, 3) := by decide +kernel
theorem dX3_write_4 : decode cX3_write 4 = .ok (.iload_n 1, 1) := by decide +kernel
theorem dX3_write_5 : decode cX3_write 5 = .ok (.sipush 255, 3) := by decide +kernel
theorem dX3_write_8 : decode cX3_write 8 = .ok (.if_icmp .le 6, 3) := by decide +kernel
theorem dX3_write_11 : decode cX3_write 11 = .ok (.bipush (-2), 2) := by decide +kernel
theorem dX3_write_13 : decode cX3_write 13 = .ok (.ireturn, 1) := by decide +kernel
theorem dX3_write_14 : decode cX3_write 14 = .ok (.aload_n 0, 1) := by decide +kernel
theorem dX3_write_15 : decode cX3_write 15 = .ok (.getfield 12, 3) := by decide +kernel
theorem dX3_write_18 : decode cX3_write 18 = .ok (.iload_n 1, 1) := by decide +kernel
theorem dX3_write_19 : decode cX3_write 19 = .ok (.invokevirtual 47, 3) := by decide +kernel
theorem dX3_write_22 : decode cX3_write 22 = .ok (.ifCond .eq 13, 3) := by decide +kernel
theorem dX3_write_25 : decode cX3_write 25 = .ok (.aload_n 0, 1) := by decide +kernel
theorem dX3_write_26 : decode cX3_write 26 = .ok (.getfield 12, 3) := by decide +kernel
theorem dX3_write_29 : decode cX3_write 29 = .ok (.getfield 51, 3) := by decide +kernel
theorem dX3_write_32 : decode cX3_write 32 = .ok (.goto 5, 3) := by decide +kernel
theorem dX3_write_35 : decode cX3_write 35 = .ok (.bipush (-4), 2) := by decide +kernel
theorem dX3_write_37 : decode cX3_write 37 = .ok (.ireturn, 1) := by decide +kernel
theorem dX3_wipe_0 : decode cX3_wipe 0 = .ok (.aload_n 0, 1) := by decide +kernel
theorem dX3_wipe_1 : decode cX3_wipe 1 = .ok (.getfield 12, 3) := by decide +kernel
theorem dX3_wipe_4 : decode cX3_wipe 4 = .ok (.getfield 51, 3) := by decide +kernel
theorem dX3_wipe_7 : decode cX3_wipe 7 = .ok (.istore_n 1, 1) := by decide +kernel
theorem dX3_wipe_8 : decode cX3_wipe 8 = .ok (.aload_n 0, 1) := by decide +kernel
theorem dX3_wipe_9 : decode cX3_wipe 9 = .ok (.getfield 12, 3) := by decide +kernel
theorem dX3_wipe_12 : decode cX3_wipe 12 = .ok (.iconst 0, 1) := by decide +kernel
theorem dX3_wipe_13 : decode cX3_wipe 13 = .ok (.putfield 51, 3) := by decide +kernel
theorem dX3_wipe_16 : decode cX3_wipe 16 = .ok (.iload_n 1, 1) := by decide +kernel
theorem dX3_wipe_17 : decode cX3_wipe 17 = .ok (.ireturn, 1) := by decide +kernel
set_option maxRecDepth 20000 in
theorem ggX3_fault_X2_readInto : GoodIn wsX3_fault wsX2_readInto := goodIn_r _ [6, 7, 8, 9, 10, 11, 12, 13, 14, 15, 16, 17, 18, 19, 20, 21, 4, 22, 23, 24, 25, 26, 27, 28, 29, 30, 31, 32, 33, 34, 35, 36, 37, 38, 39, 40, 41, 42, 43, 44, 45, 46, 47, 48, 49, 50, 51, 52, 53, 54, 55, 56, 57, 58, 59, 60, 61, 62, 63, 64, 65, 66, 67, 68, 69, 70, 71, 72, 73, 74, 86, 87, 88, 89, 90, 91, 92, 93, 94] (by decide +kernel) (by decide +kernel)
set_option maxRecDepth 20000 in
theorem gX3_fault_X2_readInto_n55 : GoodIn wsX3_fault (wsX2_readInto) := ggX3_fault_X2_readInto
theorem dX3_fault_0 : decode cX3_fault 0 = .ok (.aload_n 0, 1) := by decide +kernel
theorem dX3_fault_1 : decode cX3_fault 1 = .ok (.getfield 12, 3) := by decide +kernel
theorem dX3_fault_4 : decode cX3_fault 4 = .ok (.aload_n 0, 1) := by decide +kernel
theorem dX3_fault_5 : decode cX3_fault 5 = .ok (.getfield 23, 3) := by decide +kernel
theorem dX3_fault_8 : decode cX3_fault 8 = .ok (.invokevirtual 55, 3) := by decide +kernel
theorem dX3_fault_11 : decode cX3_fault 11 = .ok (.ireturn, 1) := by decide +kernel
set_option maxRecDepth 20000 in
theorem ggX3_county_X2_readInto : GoodIn wsX3_county wsX2_readInto := goodIn_r _ [9, 10, 11, 12, 13, 14, 15, 16, 17, 18, 19, 20, 21, 22, 23, 24, 7, 25, 26, 27, 28, 29, 30, 31, 32, 33, 34, 35, 36, 37, 38, 39, 40, 41, 42, 43, 44, 45, 46, 47, 48, 49, 50, 51, 52, 53, 54, 55, 56, 57, 58, 59, 60, 61, 62, 63, 64, 65, 66, 67, 68, 69, 70, 71, 72, 73, 74, 75, 76, 77, 102, 103, 95, 96, 97, 98, 99, 100, 101] (by decide +kernel) (by decide +kernel)
set_option maxRecDepth 20000 in
theorem gX3_county_X2_readInto_n55 : GoodIn wsX3_county (wsX2_readInto) := ggX3_county_X2_readInto
set_option maxRecDepth 20000 in
theorem ggX3_county_X1_copy : GoodIn wsX3_county wsX1_copy := goodIn_r _ [80, 15, 16, 17, 18, 19, 20, 21, 95, 96, 97, 98, 99, 100, 101] (by decide +kernel) (by decide +kernel)
set_option maxRecDepth 20000 in
theorem gX3_county_X1_copy_n59 : GoodIn wsX3_county (wsX1_copy) := ggX3_county_X1_copy
theorem dX3_county_0 : decode cX3_county 0 = .ok (.aload_n 0, 1) := by decide +kernel
theorem dX3_county_1 : decode cX3_county 1 = .ok (.getfield 12, 3) := by decide +kernel
theorem dX3_county_4 : decode cX3_county 4 = .ok (.aload_n 0, 1) := by decide +kernel
theorem dX3_county_5 : decode cX3_county 5 = .ok (.getfield 23, 3) := by decide +kernel
theorem dX3_county_8 : decode cX3_county 8 = .ok (.invokevirtual 55, 3) := by decide +kernel
theorem dX3_county_11 : decode cX3_county 11 = .ok (.bipush (-9), 2) := by decide +kernel
theorem dX3_county_13 : decode cX3_county 13 = .ok (.if_icmp .eq 6, 3) := by decide +kernel
theorem dX3_county_16 : decode cX3_county 16 = .ok (.bipush (-3), 2) := by decide +kernel
theorem dX3_county_18 : decode cX3_county 18 = .ok (.ireturn, 1) := by decide +kernel
theorem dX3_county_19 : decode cX3_county 19 = .ok (.aload_n 0, 1) := by decide +kernel
theorem dX3_county_20 : decode cX3_county 20 = .ok (.getfield 19, 3) := by decide +kernel
theorem dX3_county_23 : decode cX3_county 23 = .ok (.aload_n 0, 1) := by decide +kernel
theorem dX3_county_24 : decode cX3_county 24 = .ok (.getfield 23, 3) := by decide +kernel
theorem dX3_county_27 : decode cX3_county 27 = .ok (.invokevirtual 59, 3) := by decide +kernel
theorem dX3_county_30 : decode cX3_county 30 = .ok (.aload_n 0, 1) := by decide +kernel
theorem dX3_county_31 : decode cX3_county 31 = .ok (.getfield 29, 3) := by decide +kernel
theorem dX3_county_34 : decode cX3_county 34 = .ok (.iconst 0, 1) := by decide +kernel
theorem dX3_county_35 : decode cX3_county 35 = .ok (.putfield 63, 3) := by decide +kernel
theorem dX3_county_38 : decode cX3_county 38 = .ok (.aload_n 0, 1) := by decide +kernel
theorem dX3_county_39 : decode cX3_county 39 = .ok (.iconst 0, 1) := by decide +kernel
theorem dX3_county_40 : decode cX3_county 40 = .ok (.putfield 66, 3) := by decide +kernel
theorem dX3_county_43 : decode cX3_county 43 = .ok (.aload_n 0, 1) := by decide +kernel
theorem dX3_county_44 : decode cX3_county 44 = .ok (.getfield 19, 3) := by decide +kernel
theorem dX3_county_47 : decode cX3_county 47 = .ok (.getfield 69, 3) := by decide +kernel
theorem dX3_county_50 : decode cX3_county 50 = .ok (.ireturn, 1) := by decide +kernel
set_option maxRecDepth 20000 in
theorem ggX3_about_X1_mayBeTaken : GoodIn wsX3_about wsX1_mayBeTaken := goodIn_r _ [8, 9, 10, 11, 12, 13, 14, 15, 6, 16, 17, 18, 19, 20, 21, 22, 23, 24, 25, 26, 27, 28, 29, 30, 31, 32, 33, 49, 50, 51, 52, 53, 54, 55] (by decide +kernel) (by decide +kernel)
set_option maxRecDepth 20000 in
theorem gX3_about_X1_mayBeTaken_n75 : GoodIn wsX3_about (wsX1_mayBeTaken) := ggX3_about_X1_mayBeTaken
set_option maxRecDepth 20000 in
theorem ggX3_about_X1_hiddenOnes : GoodIn wsX3_about wsX1_hiddenOnes := goodIn_r _ [36, 9, 37, 27, 28, 29, 6, 30, 31, 17, 18, 19, 20, 21, 32, 11, 33, 49, 50, 51, 52, 53, 54, 55] (by decide +kernel) (by decide +kernel)
set_option maxRecDepth 20000 in
theorem gX3_about_X1_hiddenOnes_n79 : GoodIn wsX3_about (wsX1_hiddenOnes) := ggX3_about_X1_hiddenOnes
theorem dX3_about_0 : decode cX3_about 0 = .ok (.iload_n 1, 1) := by decide +kernel
theorem dX3_about_1 : decode cX3_about 1 = .ok (.tableswitch 127 0 8 #[51, 59, 67, 82, 90, 98, 106, 114, 119], 51) := by decide +kernel
theorem dX3_about_52 : decode cX3_about 52 = .ok (.aload_n 0, 1) := by decide +kernel
theorem dX3_about_53 : decode cX3_about 53 = .ok (.getfield 19, 3) := by decide +kernel
theorem dX3_about_56 : decode cX3_about 56 = .ok (.getfield 69, 3) := by decide +kernel
theorem dX3_about_59 : decode cX3_about 59 = .ok (.ireturn, 1) := by decide +kernel
theorem dX3_about_60 : decode cX3_about 60 = .ok (.aload_n 0, 1) := by decide +kernel
theorem dX3_about_61 : decode cX3_about 61 = .ok (.getfield 19, 3) := by decide +kernel
theorem dX3_about_64 : decode cX3_about 64 = .ok (.getfield 72, 3) := by decide +kernel
theorem dX3_about_67 : decode cX3_about 67 = .ok (.ireturn, 1) := by decide +kernel
theorem dX3_about_68 : decode cX3_about 68 = .ok (.aload_n 0, 1) := by decide +kernel
theorem dX3_about_69 : decode cX3_about 69 = .ok (.getfield 19, 3) := by decide +kernel
theorem dX3_about_72 : decode cX3_about 72 = .ok (.aload_n 0, 1) := by decide +kernel
theorem dX3_about_73 : decode cX3_about 73 = .ok (.getfield 19, 3) := by decide +kernel
theorem dX3_about_76 : decode cX3_about 76 = .ok (.getfield 72, 3) := by decide +kernel
theorem dX3_about_79 : decode cX3_about 79 = .ok (.invokevirtual 75, 3) := by decide +kernel
theorem dX3_about_82 : decode cX3_about 82 = .ok (.ireturn, 1) := by decide +kernel
theorem dX3_about_83 : decode cX3_about 83 = .ok (.aload_n 0, 1) := by decide +kernel
theorem dX3_about_84 : decode cX3_about 84 = .ok (.getfield 19, 3) := by decide +kernel
theorem dX3_about_87 : decode cX3_about 87 = .ok (.invokevirtual 79, 3) := by decide +kernel
theorem dX3_about_90 : decode cX3_about 90 = .ok (.ireturn, 1) := by decide +kernel
theorem dX3_about_91 : decode cX3_about 91 = .ok (.aload_n 0, 1) := by decide +kernel
theorem dX3_about_92 : decode cX3_about 92 = .ok (.getfield 19, 3) := by decide +kernel
theorem dX3_about_95 : decode cX3_about 95 = .ok (.getfield 83, 3) := by decide +kernel
theorem dX3_about_98 : decode cX3_about 98 = .ok (.ireturn, 1) := by decide +kernel
theorem dX3_about_99 : decode cX3_about 99 = .ok (.aload_n 0, 1) := by decide +kernel
theorem dX3_about_100 : decode cX3_about 100 = .ok (.getfield 19, 3) := by decide +kernel
theorem dX3_about_103 : decode cX3_about 103 = .ok (.getfield 86, 3) := by decide +kernel
theorem dX3_about_106 : decode cX3_about 106 = .ok (.ireturn, 1) := by decide +kernel
theorem dX3_about_107 : decode cX3_about 107 = .ok (.aload_n 0, 1) := by decide +kernel
theorem dX3_about_108 : decode cX3_about 108 = .ok (.getfield 29, 3) := by decide +kernel
theorem dX3_about_111 : decode cX3_about 111 = .ok (.getfield 63, 3) := by decide +kernel
theorem dX3_about_114 : decode cX3_about 114 = .ok (.ireturn, 1) := by decide +kernel
theorem dX3_about_115 : decode cX3_about 115 = .ok (.aload_n 0, 1) := by decide +kernel
theorem dX3_about_116 : decode cX3_about 116 = .ok (.getfield 89, 3) := by decide +kernel
theorem dX3_about_119 : decode cX3_about 119 = .ok (.ireturn, 1) := by decide +kernel
theorem dX3_about_120 : decode cX3_about 120 = .ok (.aload_n 0, 1) := by decide +kernel
theorem dX3_about_121 : decode cX3_about 121 = .ok (.getfield 12, 3) := by decide +kernel
theorem dX3_about_124 : decode cX3_about 124 = .ok (.getfield 51, 3) := by decide +kernel
theorem dX3_about_127 : decode cX3_about 127 = .ok (.ireturn, 1) := by decide +kernel
theorem dX3_about_128 : decode cX3_about 128 = .ok (.bipush (-2), 2) := by decide +kernel
theorem dX3_about_130 : decode cX3_about 130 = .ok (.ireturn, 1) := by decide +kernel
set_option maxRecDepth 20000 in
theorem ggX3_person_X1_has : GoodIn wsX3_person wsX1_has := goodIn_r _ [5, 6, 44, 45, 46, 47, 48, 49, 50] (by decide +kernel) (by decide +kernel)
set_option maxRecDepth 20000 in
theorem gX3_person_X1_has_n92 : GoodIn wsX3_person (wsX1_has) := ggX3_person_X1_has
set_option maxRecDepth 20000 in
theorem ggX3_person_X1_deedOf : GoodIn wsX3_person wsX1_deedOf := goodIn_r _ [9, 10, 44, 45, 46, 47, 48, 49, 50] (by decide +kernel) (by decide +kernel)
set_option maxRecDepth 20000 in
theorem gX3_person_X1_deedOf_n95 : GoodIn wsX3_person (wsX1_deedOf) := ggX3_person_X1_deedOf
set_option maxRecDepth 20000 in
theorem ggX3_person_X1_kindOf : GoodIn wsX3_person wsX1_kindOf := goodIn_r _ [13, 14, 44, 45, 46, 47, 48, 49, 50] (by decide +kernel) (by decide +kernel)
set_option maxRecDepth 20000 in
theorem gX3_person_X1_kindOf_n98 : GoodIn wsX3_person (wsX1_kindOf) := ggX3_person_X1_kindOf
set_option maxRecDepth 20000 in
theorem ggX3_person_X1_gradeOf : GoodIn wsX3_person wsX1_gradeOf := goodIn_r _ [17, 18, 11, 12, 3, 13, 14, 19, 7, 8, 9, 10, 44, 45, 46, 47, 48, 49, 50] (by decide +kernel) (by decide +kernel)
set_option maxRecDepth 20000 in
theorem gX3_person_X1_gradeOf_n101 : GoodIn wsX3_person (wsX1_gradeOf) := ggX3_person_X1_gradeOf
set_option maxRecDepth 20000 in
theorem ggX3_person_X1_whomFeeds : GoodIn wsX3_person wsX1_whomFeeds := goodIn_r _ [22, 6, 23, 24, 25, 3, 26, 27, 28, 29, 30, 31, 32, 44, 45, 46, 47, 48, 49, 50] (by decide +kernel) (by decide +kernel)
set_option maxRecDepth 20000 in
theorem gX3_person_X1_whomFeeds_n104 : GoodIn wsX3_person (wsX1_whomFeeds) := ggX3_person_X1_whomFeeds
theorem dX3_person_0 : decode cX3_person 0 = .ok (.aload_n 0, 1) := by decide +kernel
theorem dX3_person_1 : decode cX3_person 1 = .ok (.getfield 19, 3) := by decide +kernel
theorem dX3_person_4 : decode cX3_person 4 = .ok (.iload_n 1, 1) := by decide +kernel
theorem dX3_person_5 : decode cX3_person 5 = .ok (.invokevirtual 92, 3) := by decide +kernel
theorem dX3_person_8 : decode cX3_person 8 = .ok (.ifCond .ne 5, 3) := by decide +kernel
theorem dX3_person_11 : decode cX3_person 11 = .ok (.iconst (-1), 1) := by decide +kernel
theorem dX3_person_12 : decode cX3_person 12 = .ok (.ireturn, 1) := by decide +kernel
theorem dX3_person_13 : decode cX3_person 13 = .ok (.iload_n 2, 1) := by decide +kernel
theorem dX3_person_14 : decode cX3_person 14 = .ok (.tableswitch 66 0 3 #[30, 39, 48, 57], 30) := by decide +kernel
theorem dX3_person_44 : decode cX3_person 44 = .ok (.aload_n 0, 1) := by decide +kernel
theorem dX3_person_45 : decode cX3_person 45 = .ok (.getfield 19, 3) := by decide +kernel
theorem dX3_person_48 : decode cX3_person 48 = .ok (.iload_n 1, 1) := by decide +kernel
theorem dX3_person_49 : decode cX3_person 49 = .ok (.invokevirtual 95, 3) := by decide +kernel
theorem dX3_person_52 : decode cX3_person 52 = .ok (.ireturn, 1) := by decide +kernel
theorem dX3_person_53 : decode cX3_person 53 = .ok (.aload_n 0, 1) := by decide +kernel
theorem dX3_person_54 : decode cX3_person 54 = .ok (.getfield 19, 3) := by decide +kernel
theorem dX3_person_57 : decode cX3_person 57 = .ok (.iload_n 1, 1) := by decide +kernel
theorem dX3_person_58 : decode cX3_person 58 = .ok (.invokevirtual 98, 3) := by decide +kernel
theorem dX3_person_61 : decode cX3_person 61 = .ok (.ireturn, 1) := by decide +kernel
theorem dX3_person_62 : decode cX3_person 62 = .ok (.aload_n 0, 1) := by decide +kernel
theorem dX3_person_63 : decode cX3_person 63 = .ok (.getfield 19, 3) := by decide +kernel
theorem dX3_person_66 : decode cX3_person 66 = .ok (.iload_n 1, 1) := by decide +kernel
theorem dX3_person_67 : decode cX3_person 67 = .ok (.invokevirtual 101, 3) := by decide +kernel
theorem dX3_person_70 : decode cX3_person 70 = .ok (.ireturn, 1) := by decide +kernel
theorem dX3_person_71 : decode cX3_person 71 = .ok (.aload_n 0, 1) := by decide +kernel
theorem dX3_person_72 : decode cX3_person 72 = .ok (.getfield 19, 3) := by decide +kernel
theorem dX3_person_75 : decode cX3_person 75 = .ok (.iload_n 1, 1) := by decide +kernel
theorem dX3_person_76 : decode cX3_person 76 = .ok (.invokevirtual 104, 3) := by decide +kernel
theorem dX3_person_79 : decode cX3_person 79 = .ok (.ireturn, 1) := by decide +kernel
theorem dX3_person_80 : decode cX3_person 80 = .ok (.bipush (-2), 2) := by decide +kernel
theorem dX3_person_82 : decode cX3_person 82 = .ok (.ireturn, 1) := by decide +kernel
set_option maxRecDepth 20000 in
theorem ggX3_take_X1_has : GoodIn wsX3_take wsX1_has := goodIn_r _ [6, 7, 70, 71, 72, 73, 74, 75, 76] (by decide +kernel) (by decide +kernel)
set_option maxRecDepth 20000 in
theorem gX3_take_X1_has_n92 : GoodIn wsX3_take (wsX1_has) := ggX3_take_X1_has
set_option maxRecDepth 20000 in
theorem ggX3_take_X1_mayBeTaken : GoodIn wsX3_take wsX1_mayBeTaken := goodIn_r _ [10, 7, 11, 12, 13, 14, 15, 16, 4, 17, 18, 19, 20, 21, 22, 23, 24, 25, 26, 27, 28, 29, 30, 31, 32, 33, 34, 70, 71, 72, 73, 74, 75, 76] (by decide +kernel) (by decide +kernel)
set_option maxRecDepth 20000 in
theorem gX3_take_X1_mayBeTaken_n75 : GoodIn wsX3_take (wsX1_mayBeTaken) := ggX3_take_X1_mayBeTaken
set_option maxRecDepth 20000 in
theorem ggX3_take_X3_isIn : GoodIn wsX3_take wsX3_isIn := goodIn_r _ [13] (by decide +kernel) (by decide +kernel)
set_option maxRecDepth 20000 in
theorem gX3_take_X3_isIn : GoodIn wsX3_take (va_wsS RX3 107 yX3_isIn wsX3_isIn) := goodIn_app (goodIn_of _ (by decide +kernel)) ggX3_take_X3_isIn
set_option maxRecDepth 20000 in
theorem ggX3_take_X0_remember : GoodIn wsX3_take wsX0_remember := goodIn_r _ [39, 40, 41, 42, 43, 4, 44, 45, 7, 22, 27, 32, 46, 47, 48, 77, 78, 79, 70, 71, 72, 73, 74, 75, 76] (by decide +kernel) (by decide +kernel)
set_option maxRecDepth 20000 in
theorem gX3_take_X0_remember_n111 : GoodIn wsX3_take (wsX0_remember) := ggX3_take_X0_remember
set_option maxRecDepth 20000 in
theorem ggX3_take_X3_without : GoodIn wsX3_take wsX3_without := goodIn_r _ [51] (by decide +kernel) (by decide +kernel)
set_option maxRecDepth 20000 in
theorem gX3_take_X3_without : GoodIn wsX3_take (va_wsS RX3 114 yX3_without wsX3_without) := goodIn_app (goodIn_of _ (by decide +kernel)) ggX3_take_X3_without
set_option maxRecDepth 20000 in
theorem ggX3_take_J6_bitCount_0f7a4 : GoodIn wsX3_take wsJ6_bitCount_0f7a4 := goodIn_r _ [55, 56, 57, 58] (by decide +kernel) (by decide +kernel)
set_option maxRecDepth 20000 in
theorem gX3_take_J6_bitCount_0f7a4 : GoodIn wsX3_take (va_wsS RX3 118 yJ6_bitCount_0f7a4 wsJ6_bitCount_0f7a4) := goodIn_app (goodIn_of _ (by decide +kernel)) ggX3_take_J6_bitCount_0f7a4
theorem dX3_take_0 : decode cX3_take 0 = .ok (.aload_n 0, 1) := by decide +kernel
theorem dX3_take_1 : decode cX3_take 1 = .ok (.getfield 19, 3) := by decide +kernel
theorem dX3_take_4 : decode cX3_take 4 = .ok (.iload_n 1, 1) := by decide +kernel
theorem dX3_take_5 : decode cX3_take 5 = .ok (.invokevirtual 92, 3) := by decide +kernel
theorem dX3_take_8 : decode cX3_take 8 = .ok (.ifCond .ne 5, 3) := by decide +kernel
theorem dX3_take_11 : decode cX3_take 11 = .ok (.iconst (-1), 1) := by decide +kernel
theorem dX3_take_12 : decode cX3_take 12 = .ok (.ireturn, 1) := by decide +kernel
theorem dX3_take_13 : decode cX3_take 13 = .ok (.aload_n 0, 1) := by decide +kernel
theorem dX3_take_14 : decode cX3_take 14 = .ok (.getfield 19, 3) := by decide +kernel
theorem dX3_take_17 : decode cX3_take 17 = .ok (.aload_n 0, 1) := by decide +kernel
theorem dX3_take_18 : decode cX3_take 18 = .ok (.getfield 19, 3) := by decide +kernel
theorem dX3_take_21 : decode cX3_take 21 = .ok (.getfield 72, 3) := by decide +kernel
theorem dX3_take_24 : decode cX3_take 24 = .ok (.invokevirtual 75, 3) := by decide +kernel
theorem dX3_take_27 : decode cX3_take 27 = .ok (.iload_n 1, 1) := by decide +kernel
theorem dX3_take_28 : decode cX3_take 28 = .ok (.invokestatic 107, 3) := by decide +kernel
theorem dX3_take_31 : decode cX3_take 31 = .ok (.ifCond .ne 6, 3) := by decide +kernel
theorem dX3_take_34 : decode cX3_take 34 = .ok (.bipush (-3), 2) := by decide +kernel
theorem dX3_take_36 : decode cX3_take 36 = .ok (.ireturn, 1) := by decide +kernel
theorem dX3_take_37 : decode cX3_take 37 = .ok (.aload_n 0, 1) := by decide +kernel
theorem dX3_take_38 : decode cX3_take 38 = .ok (.getfield 29, 3) := by decide +kernel
theorem dX3_take_41 : decode cX3_take 41 = .ok (.aload_n 0, 1) := by decide +kernel
theorem dX3_take_42 : decode cX3_take 42 = .ok (.getfield 19, 3) := by decide +kernel
theorem dX3_take_45 : decode cX3_take 45 = .ok (.invokevirtual 111, 3) := by decide +kernel
theorem dX3_take_48 : decode cX3_take 48 = .ok (.aload_n 0, 1) := by decide +kernel
theorem dX3_take_49 : decode cX3_take 49 = .ok (.getfield 19, 3) := by decide +kernel
theorem dX3_take_52 : decode cX3_take 52 = .ok (.aload_n 0, 1) := by decide +kernel
theorem dX3_take_53 : decode cX3_take 53 = .ok (.getfield 19, 3) := by decide +kernel
theorem dX3_take_56 : decode cX3_take 56 = .ok (.getfield 72, 3) := by decide +kernel
theorem dX3_take_59 : decode cX3_take 59 = .ok (.iload_n 1, 1) := by decide +kernel
theorem dX3_take_60 : decode cX3_take 60 = .ok (.invokestatic 114, 3) := by decide +kernel
theorem dX3_take_63 : decode cX3_take 63 = .ok (.putfield 72, 3) := by decide +kernel
theorem dX3_take_66 : decode cX3_take 66 = .ok (.aload_n 0, 1) := by decide +kernel
theorem dX3_take_67 : decode cX3_take 67 = .ok (.getfield 19, 3) := by decide +kernel
theorem dX3_take_70 : decode cX3_take 70 = .ok (.getfield 72, 3) := by decide +kernel
theorem dX3_take_73 : decode cX3_take 73 = .ok (.invokestatic 118, 3) := by decide +kernel
theorem dX3_take_76 : decode cX3_take 76 = .ok (.ireturn, 1) := by decide +kernel
set_option maxRecDepth 20000 in
theorem ggX3_free_X1_has : GoodIn wsX3_free wsX1_has := goodIn_r _ [6, 7, 49, 50, 51, 52, 53, 54, 55] (by decide +kernel) (by decide +kernel)
set_option maxRecDepth 20000 in
theorem gX3_free_X1_has_n92 : GoodIn wsX3_free (wsX1_has) := ggX3_free_X1_has
set_option maxRecDepth 20000 in
theorem ggX3_free_X3_isIn : GoodIn wsX3_free wsX3_isIn := goodIn_r _ [11] (by decide +kernel) (by decide +kernel)
set_option maxRecDepth 20000 in
theorem gX3_free_X3_isIn : GoodIn wsX3_free (va_wsS RX3 107 yX3_isIn wsX3_isIn) := goodIn_app (goodIn_of _ (by decide +kernel)) ggX3_free_X3_isIn
set_option maxRecDepth 20000 in
theorem ggX3_free_X0_remember : GoodIn wsX3_free wsX0_remember := goodIn_r _ [15, 16, 17, 18, 19, 4, 20, 21, 7, 22, 23, 24, 25, 26, 27, 56, 57, 58, 49, 50, 51, 52, 53, 54, 55] (by decide +kernel) (by decide +kernel)
set_option maxRecDepth 20000 in
theorem gX3_free_X0_remember_n111 : GoodIn wsX3_free (wsX0_remember) := ggX3_free_X0_remember
set_option maxRecDepth 20000 in
theorem ggX3_free_X3_bit : GoodIn wsX3_free wsX3_bit := goodIn_r _ [30] (by decide +kernel) (by decide +kernel)
set_option maxRecDepth 20000 in
theorem gX3_free_X3_bit : GoodIn wsX3_free (va_wsS RX3 123 yX3_bit wsX3_bit) := goodIn_app (goodIn_of _ (by decide +kernel)) ggX3_free_X3_bit
set_option maxRecDepth 20000 in
theorem ggX3_free_J6_bitCount_0f7a4 : GoodIn wsX3_free wsJ6_bitCount_0f7a4 := goodIn_r _ [34, 35, 36, 37] (by decide +kernel) (by decide +kernel)
set_option maxRecDepth 20000 in
theorem gX3_free_J6_bitCount_0f7a4 : GoodIn wsX3_free (va_wsS RX3 118 yJ6_bitCount_0f7a4 wsJ6_bitCount_0f7a4) := goodIn_app (goodIn_of _ (by decide +kernel)) ggX3_free_J6_bitCount_0f7a4
theorem dX3_free_0 : decode cX3_free 0 = .ok (.aload_n 0, 1) := by decide +kernel
theorem dX3_free_1 : decode cX3_free 1 = .ok (.getfield 19, 3) := by decide +kernel
theorem dX3_free_4 : decode cX3_free 4 = .ok (.iload_n 1, 1) := by decide +kernel
theorem dX3_free_5 : decode cX3_free 5 = .ok (.invokevirtual 92, 3) := by decide +kernel
theorem dX3_free_8 : decode cX3_free 8 = .ok (.ifCond .ne 5, 3) := by decide +kernel
theorem dX3_free_11 : decode cX3_free 11 = .ok (.iconst (-1), 1) := by decide +kernel
theorem dX3_free_12 : decode cX3_free 12 = .ok (.ireturn, 1) := by decide +kernel
theorem dX3_free_13 : decode cX3_free 13 = .ok (.aload_n 0, 1) := by decide +kernel
theorem dX3_free_14 : decode cX3_free 14 = .ok (.getfield 19, 3) := by decide +kernel
theorem dX3_free_17 : decode cX3_free 17 = .ok (.getfield 72, 3) := by decide +kernel
theorem dX3_free_20 : decode cX3_free 20 = .ok (.aload_n 0, 1) := by decide +kernel
theorem dX3_free_21 : decode cX3_free 21 = .ok (.getfield 19, 3) := by decide +kernel
theorem dX3_free_24 : decode cX3_free 24 = .ok (.getfield 83, 3) := by decide +kernel
theorem dX3_free_27 : decode cX3_free 27 = .ok (.ior, 1) := by decide +kernel
theorem dX3_free_28 : decode cX3_free 28 = .ok (.iload_n 1, 1) := by decide +kernel
theorem dX3_free_29 : decode cX3_free 29 = .ok (.invokestatic 107, 3) := by decide +kernel
theorem dX3_free_32 : decode cX3_free 32 = .ok (.ifCond .eq 6, 3) := by decide +kernel
theorem dX3_free_35 : decode cX3_free 35 = .ok (.bipush (-3), 2) := by decide +kernel
theorem dX3_free_37 : decode cX3_free 37 = .ok (.ireturn, 1) := by decide +kernel
theorem dX3_free_38 : decode cX3_free 38 = .ok (.aload_n 0, 1) := by decide +kernel
theorem dX3_free_39 : decode cX3_free 39 = .ok (.getfield 29, 3) := by decide +kernel
theorem dX3_free_42 : decode cX3_free 42 = .ok (.aload_n 0, 1) := by decide +kernel
theorem dX3_free_43 : decode cX3_free 43 = .ok (.getfield 19, 3) := by decide +kernel
theorem dX3_free_46 : decode cX3_free 46 = .ok (.invokevirtual 111, 3) := by decide +kernel
theorem dX3_free_49 : decode cX3_free 49 = .ok (.aload_n 0, 1) := by decide +kernel
theorem dX3_free_50 : decode cX3_free 50 = .ok (.getfield 19, 3) := by decide +kernel
theorem dX3_free_53 : decode cX3_free 53 = .ok (.dup, 1) := by decide +kernel
theorem dX3_free_54 : decode cX3_free 54 = .ok (.getfield 72, 3) := by decide +kernel
theorem dX3_free_57 : decode cX3_free 57 = .ok (.iload_n 1, 1) := by decide +kernel
theorem dX3_free_58 : decode cX3_free 58 = .ok (.invokestatic 123, 3) := by decide +kernel
theorem dX3_free_61 : decode cX3_free 61 = .ok (.ior, 1) := by decide +kernel
theorem dX3_free_62 : decode cX3_free 62 = .ok (.putfield 72, 3) := by decide +kernel
theorem dX3_free_65 : decode cX3_free 65 = .ok (.aload_n 0, 1) := by decide +kernel
theorem dX3_free_66 : decode cX3_free 66 = .ok (.getfield 19, 3) := by decide +kernel
theorem dX3_free_69 : decode cX3_free 69 = .ok (.getfield 72, 3) := by decide +kernel
theorem dX3_free_72 : decode cX3_free 72 = .ok (.invokestatic 118, 3) := by decide +kernel
theorem dX3_free_75 : decode cX3_free 75 = .ok (.ireturn, 1) := by decide +kernel
set_option maxRecDepth 20000 in
theorem ggX3_die_X1_has : GoodIn wsX3_die wsX1_has := goodIn_r _ [6, 7, 53, 54, 55, 56, 57, 58, 59] (by decide +kernel) (by decide +kernel)
set_option maxRecDepth 20000 in
theorem gX3_die_X1_has_n92 : GoodIn wsX3_die (wsX1_has) := ggX3_die_X1_has
set_option maxRecDepth 20000 in
theorem ggX3_die_X3_isIn : GoodIn wsX3_die wsX3_isIn := goodIn_r _ [11] (by decide +kernel) (by decide +kernel)
set_option maxRecDepth 20000 in
theorem gX3_die_X3_isIn : GoodIn wsX3_die (va_wsS RX3 107 yX3_isIn wsX3_isIn) := goodIn_app (goodIn_of _ (by decide +kernel)) ggX3_die_X3_isIn
set_option maxRecDepth 20000 in
theorem ggX3_die_X0_remember : GoodIn wsX3_die wsX0_remember := goodIn_r _ [15, 16, 17, 18, 19, 4, 20, 21, 7, 22, 23, 24, 25, 26, 27, 60, 61, 62, 53, 54, 55, 56, 57, 58, 59] (by decide +kernel) (by decide +kernel)
set_option maxRecDepth 20000 in
theorem gX3_die_X0_remember_n111 : GoodIn wsX3_die (wsX0_remember) := ggX3_die_X0_remember
set_option maxRecDepth 20000 in
theorem ggX3_die_X1_bury : GoodIn wsX3_die wsX1_bury := goodIn_r _ [30, 25, 26, 31, 10, 32, 33, 34, 53, 54, 55, 56, 57, 58, 59] (by decide +kernel) (by decide +kernel)
set_option maxRecDepth 20000 in
theorem gX3_die_X1_bury_n126 : GoodIn wsX3_die (wsX1_bury) := ggX3_die_X1_bury
set_option maxRecDepth 20000 in
theorem ggX3_die_J6_bitCount_0f7a4 : GoodIn wsX3_die wsJ6_bitCount_0f7a4 := goodIn_r _ [38, 39, 40, 41] (by decide +kernel) (by decide +kernel)
set_option maxRecDepth 20000 in
theorem gX3_die_J6_bitCount_0f7a4 : GoodIn wsX3_die (va_wsS RX3 118 yJ6_bitCount_0f7a4 wsJ6_bitCount_0f7a4) := goodIn_app (goodIn_of _ (by decide +kernel)) ggX3_die_J6_bitCount_0f7a4
theorem dX3_die_0 : decode cX3_die 0 = .ok (.aload_n 0, 1) := by decide +kernel
theorem dX3_die_1 : decode cX3_die 1 = .ok (.getfield 19, 3) := by decide +kernel
theorem dX3_die_4 : decode cX3_die 4 = .ok (.iload_n 1, 1) := by decide +kernel
theorem dX3_die_5 : decode cX3_die 5 = .ok (.invokevirtual 92, 3) := by decide +kernel
theorem dX3_die_8 : decode cX3_die 8 = .ok (.ifCond .ne 5, 3) := by decide +kernel
theorem dX3_die_11 : decode cX3_die 11 = .ok (.iconst (-1), 1) := by decide +kernel
theorem dX3_die_12 : decode cX3_die 12 = .ok (.ireturn, 1) := by decide +kernel
theorem dX3_die_13 : decode cX3_die 13 = .ok (.aload_n 0, 1) := by decide +kernel
theorem dX3_die_14 : decode cX3_die 14 = .ok (.getfield 19, 3) := by decide +kernel
theorem dX3_die_17 : decode cX3_die 17 = .ok (.getfield 83, 3) := by decide +kernel
theorem dX3_die_20 : decode cX3_die 20 = .ok (.iload_n 1, 1) := by decide +kernel
theorem dX3_die_21 : decode cX3_die 21 = .ok (.invokestatic 107, 3) := by decide +kernel
theorem dX3_die_24 : decode cX3_die 24 = .ok (.ifCond .eq 6, 3) := by decide +kernel
theorem dX3_die_27 : decode cX3_die 27 = .ok (.bipush (-3), 2) := by decide +kernel
theorem dX3_die_29 : decode cX3_die 29 = .ok (.ireturn, 1) := by decide +kernel
theorem dX3_die_30 : decode cX3_die 30 = .ok (.aload_n 0, 1) := by decide +kernel
theorem dX3_die_31 : decode cX3_die 31 = .ok (.getfield 29, 3) := by decide +kernel
theorem dX3_die_34 : decode cX3_die 34 = .ok (.aload_n 0, 1) := by decide +kernel
theorem dX3_die_35 : decode cX3_die 35 = .ok (.getfield 19, 3) := by decide +kernel
theorem dX3_die_38 : decode cX3_die 38 = .ok (.invokevirtual 111, 3) := by decide +kernel
theorem dX3_die_41 : decode cX3_die 41 = .ok (.aload_n 0, 1) := by decide +kernel
theorem dX3_die_42 : decode cX3_die 42 = .ok (.getfield 19, 3) := by decide +kernel
theorem dX3_die_45 : decode cX3_die 45 = .ok (.iload_n 1, 1) := by decide +kernel
theorem dX3_die_46 : decode cX3_die 46 = .ok (.invokevirtual 126, 3) := by decide +kernel
theorem dX3_die_49 : decode cX3_die 49 = .ok (.aload_n 0, 1) := by decide +kernel
theorem dX3_die_50 : decode cX3_die 50 = .ok (.getfield 19, 3) := by decide +kernel
theorem dX3_die_53 : decode cX3_die 53 = .ok (.getfield 72, 3) := by decide +kernel
theorem dX3_die_56 : decode cX3_die 56 = .ok (.invokestatic 118, 3) := by decide +kernel
theorem dX3_die_59 : decode cX3_die 59 = .ok (.ireturn, 1) := by decide +kernel
set_option maxRecDepth 20000 in
theorem ggX3_feed_X1_has : GoodIn wsX3_feed wsX1_has := goodIn_r _ [6, 7, 42, 43, 44, 45, 46, 47, 48] (by decide +kernel) (by decide +kernel)
set_option maxRecDepth 20000 in
theorem gX3_feed_X1_has_n92 : GoodIn wsX3_feed (wsX1_has) := ggX3_feed_X1_has
set_option maxRecDepth 20000 in
theorem ggX3_feed_X0_remember : GoodIn wsX3_feed wsX0_remember := goodIn_r _ [11, 12, 13, 14, 15, 4, 16, 17, 7, 18, 19, 20, 21, 22, 23, 49, 50, 51, 42, 43, 44, 45, 46, 47, 48] (by decide +kernel) (by decide +kernel)
set_option maxRecDepth 20000 in
theorem gX3_feed_X0_remember_n111 : GoodIn wsX3_feed (wsX0_remember) := ggX3_feed_X0_remember
set_option maxRecDepth 20000 in
theorem ggX3_feed_X3_pair : GoodIn wsX3_feed wsX3_pair := goodIn_r _ [27] (by decide +kernel) (by decide +kernel)
set_option maxRecDepth 20000 in
theorem gX3_feed_X3_pair : GoodIn wsX3_feed (va_wsS RX3 134 yX3_pair wsX3_pair) := goodIn_app (goodIn_of _ (by decide +kernel)) ggX3_feed_X3_pair
set_option maxRecDepth 20000 in
theorem ggX3_feed_X1_feeds : GoodIn wsX3_feed wsX1_feeds := goodIn_r _ [30, 20, 25, 26, 27, 42, 43, 44, 45, 46, 47, 48] (by decide +kernel) (by decide +kernel)
set_option maxRecDepth 20000 in
theorem gX3_feed_X1_feeds_n138 : GoodIn wsX3_feed (wsX1_feeds) := ggX3_feed_X1_feeds
theorem dX3_feed_0 : decode cX3_feed 0 = .ok (.aload_n 0, 1) := by decide +kernel
theorem dX3_feed_1 : decode cX3_feed 1 = .ok (.getfield 19, 3) := by decide +kernel
theorem dX3_feed_4 : decode cX3_feed 4 = .ok (.iload_n 1, 1) := by decide +kernel
theorem dX3_feed_5 : decode cX3_feed 5 = .ok (.invokevirtual 92, 3) := by decide +kernel
theorem dX3_feed_8 : decode cX3_feed 8 = .ok (.ifCond .eq 14, 3) := by decide +kernel
theorem dX3_feed_11 : decode cX3_feed 11 = .ok (.aload_n 0, 1) := by decide +kernel
theorem dX3_feed_12 : decode cX3_feed 12 = .ok (.getfield 19, 3) := by decide +kernel
theorem dX3_feed_15 : decode cX3_feed 15 = .ok (.iload_n 2, 1) := by decide +kernel
theorem dX3_feed_16 : decode cX3_feed 16 = .ok (.invokevirtual 92, 3) := by decide +kernel
theorem dX3_feed_19 : decode cX3_feed 19 = .ok (.ifCond .ne 5, 3) := by decide +kernel
theorem dX3_feed_22 : decode cX3_feed 22 = .ok (.iconst (-1), 1) := by decide +kernel
theorem dX3_feed_23 : decode cX3_feed 23 = .ok (.ireturn, 1) := by decide +kernel
theorem dX3_feed_24 : decode cX3_feed 24 = .ok (.iload_n 1, 1) := by decide +kernel
theorem dX3_feed_25 : decode cX3_feed 25 = .ok (.iload_n 2, 1) := by decide +kernel
theorem dX3_feed_26 : decode cX3_feed 26 = .ok (.if_icmp .ne 6, 3) := by decide +kernel
theorem dX3_feed_29 : decode cX3_feed 29 = .ok (.bipush (-2), 2) := by decide +kernel
theorem dX3_feed_31 : decode cX3_feed 31 = .ok (.ireturn, 1) := by decide +kernel
theorem dX3_feed_32 : decode cX3_feed 32 = .ok (.aload_n 0, 1) := by decide +kernel
theorem dX3_feed_33 : decode cX3_feed 33 = .ok (.getfield 29, 3) := by decide +kernel
theorem dX3_feed_36 : decode cX3_feed 36 = .ok (.aload_n 0, 1) := by decide +kernel
theorem dX3_feed_37 : decode cX3_feed 37 = .ok (.getfield 19, 3) := by decide +kernel
theorem dX3_feed_40 : decode cX3_feed 40 = .ok (.invokevirtual 111, 3) := by decide +kernel
theorem dX3_feed_43 : decode cX3_feed 43 = .ok (.aload_n 0, 1) := by decide +kernel
theorem dX3_feed_44 : decode cX3_feed 44 = .ok (.getfield 19, 3) := by decide +kernel
theorem dX3_feed_47 : decode cX3_feed 47 = .ok (.dup, 1) := by decide +kernel
theorem dX3_feed_48 : decode cX3_feed 48 = .ok (.getfield 130, 3) := by decide +kernel
theorem dX3_feed_51 : decode cX3_feed 51 = .ok (.iload_n 1, 1) := by decide +kernel
theorem dX3_feed_52 : decode cX3_feed 52 = .ok (.iload_n 2, 1) := by decide +kernel
theorem dX3_feed_53 : decode cX3_feed 53 = .ok (.invokestatic 134, 3) := by decide +kernel
theorem dX3_feed_56 : decode cX3_feed 56 = .ok (.lxor, 1) := by decide +kernel
theorem dX3_feed_57 : decode cX3_feed 57 = .ok (.putfield 130, 3) := by decide +kernel
theorem dX3_feed_60 : decode cX3_feed 60 = .ok (.aload_n 0, 1) := by decide +kernel
theorem dX3_feed_61 : decode cX3_feed 61 = .ok (.getfield 19, 3) := by decide +kernel
theorem dX3_feed_64 : decode cX3_feed 64 = .ok (.iload_n 1, 1) := by decide +kernel
theorem dX3_feed_65 : decode cX3_feed 65 = .ok (.iload_n 2, 1) := by decide +kernel
theorem dX3_feed_66 : decode cX3_feed 66 = .ok (.invokevirtual 138, 3) := by decide +kernel
theorem dX3_feed_69 : decode cX3_feed 69 = .ok (.ifCond .eq 7, 3) := by decide +kernel
theorem dX3_feed_72 : decode cX3_feed 72 = .ok (.iconst 1, 1) := by decide +kernel
theorem dX3_feed_73 : decode cX3_feed 73 = .ok (.goto 4, 3) := by decide +kernel
theorem dX3_feed_76 : decode cX3_feed 76 = .ok (.iconst 0, 1) := by decide +kernel
theorem dX3_feed_77 : decode cX3_feed 77 = .ok (.ireturn, 1) := by decide +kernel
set_option maxRecDepth 20000 in
theorem ggX3_grade_X1_has : GoodIn wsX3_grade wsX1_has := goodIn_r _ [6, 7, 41, 42, 43, 44, 45, 46, 47] (by decide +kernel) (by decide +kernel)
set_option maxRecDepth 20000 in
theorem gX3_grade_X1_has_n92 : GoodIn wsX3_grade (wsX1_has) := ggX3_grade_X1_has
set_option maxRecDepth 20000 in
theorem ggX3_grade_X1_deedOf : GoodIn wsX3_grade wsX1_deedOf := goodIn_r _ [10, 11, 41, 42, 43, 44, 45, 46, 47] (by decide +kernel) (by decide +kernel)
set_option maxRecDepth 20000 in
theorem gX3_grade_X1_deedOf_n95 : GoodIn wsX3_grade (wsX1_deedOf) := ggX3_grade_X1_deedOf
set_option maxRecDepth 20000 in
theorem ggX3_grade_X0_remember : GoodIn wsX3_grade wsX0_remember := goodIn_r _ [15, 16, 17, 18, 19, 4, 20, 21, 7, 22, 11, 23, 24, 25, 26, 48, 49, 50, 41, 42, 43, 44, 45, 46, 47] (by decide +kernel) (by decide +kernel)
set_option maxRecDepth 20000 in
theorem gX3_grade_X0_remember_n111 : GoodIn wsX3_grade (wsX0_remember) := ggX3_grade_X0_remember
set_option maxRecDepth 20000 in
theorem ggX3_grade_X1_setDeed : GoodIn wsX3_grade wsX1_setDeed := goodIn_r _ [29, 11, 41, 42, 43, 44, 45, 46, 47] (by decide +kernel) (by decide +kernel)
set_option maxRecDepth 20000 in
theorem gX3_grade_X1_setDeed_n141 : GoodIn wsX3_grade (wsX1_setDeed) := ggX3_grade_X1_setDeed
theorem dX3_grade_0 : decode cX3_grade 0 = .ok (.aload_n 0, 1) := by decide +kernel
theorem dX3_grade_1 : decode cX3_grade 1 = .ok (.getfield 19, 3) := by decide +kernel
theorem dX3_grade_4 : decode cX3_grade 4 = .ok (.iload_n 1, 1) := by decide +kernel
theorem dX3_grade_5 : decode cX3_grade 5 = .ok (.invokevirtual 92, 3) := by decide +kernel
theorem dX3_grade_8 : decode cX3_grade 8 = .ok (.ifCond .ne 5, 3) := by decide +kernel
theorem dX3_grade_11 : decode cX3_grade 11 = .ok (.iconst (-1), 1) := by decide +kernel
theorem dX3_grade_12 : decode cX3_grade 12 = .ok (.ireturn, 1) := by decide +kernel
theorem dX3_grade_13 : decode cX3_grade 13 = .ok (.iload_n 2, 1) := by decide +kernel
theorem dX3_grade_14 : decode cX3_grade 14 = .ok (.ifCond .lt 9, 3) := by decide +kernel
theorem dX3_grade_17 : decode cX3_grade 17 = .ok (.iload_n 2, 1) := by decide +kernel
theorem dX3_grade_18 : decode cX3_grade 18 = .ok (.bipush 10, 2) := by decide +kernel
theorem dX3_grade_20 : decode cX3_grade 20 = .ok (.if_icmp .lt 6, 3) := by decide +kernel
theorem dX3_grade_23 : decode cX3_grade 23 = .ok (.bipush (-2), 2) := by decide +kernel
theorem dX3_grade_25 : decode cX3_grade 25 = .ok (.ireturn, 1) := by decide +kernel
theorem dX3_grade_26 : decode cX3_grade 26 = .ok (.aload_n 0, 1) := by decide +kernel
theorem dX3_grade_27 : decode cX3_grade 27 = .ok (.getfield 19, 3) := by decide +kernel
theorem dX3_grade_30 : decode cX3_grade 30 = .ok (.iload_n 1, 1) := by decide +kernel
theorem dX3_grade_31 : decode cX3_grade 31 = .ok (.invokevirtual 95, 3) := by decide +kernel
theorem dX3_grade_34 : decode cX3_grade 34 = .ok (.istore_n 3, 1) := by decide +kernel
theorem dX3_grade_35 : decode cX3_grade 35 = .ok (.iload_n 2, 1) := by decide +kernel
theorem dX3_grade_36 : decode cX3_grade 36 = .ok (.iload_n 3, 1) := by decide +kernel
theorem dX3_grade_37 : decode cX3_grade 37 = .ok (.if_icmp .ne 6, 3) := by decide +kernel
theorem dX3_grade_40 : decode cX3_grade 40 = .ok (.bipush (-3), 2) := by decide +kernel
theorem dX3_grade_42 : decode cX3_grade 42 = .ok (.ireturn, 1) := by decide +kernel
theorem dX3_grade_43 : decode cX3_grade 43 = .ok (.aload_n 0, 1) := by decide +kernel
theorem dX3_grade_44 : decode cX3_grade 44 = .ok (.getfield 29, 3) := by decide +kernel
theorem dX3_grade_47 : decode cX3_grade 47 = .ok (.aload_n 0, 1) := by decide +kernel
theorem dX3_grade_48 : decode cX3_grade 48 = .ok (.getfield 19, 3) := by decide +kernel
theorem dX3_grade_51 : decode cX3_grade 51 = .ok (.invokevirtual 111, 3) := by decide +kernel
theorem dX3_grade_54 : decode cX3_grade 54 = .ok (.aload_n 0, 1) := by decide +kernel
theorem dX3_grade_55 : decode cX3_grade 55 = .ok (.getfield 19, 3) := by decide +kernel
theorem dX3_grade_58 : decode cX3_grade 58 = .ok (.iload_n 1, 1) := by decide +kernel
theorem dX3_grade_59 : decode cX3_grade 59 = .ok (.iload_n 2, 1) := by decide +kernel
theorem dX3_grade_60 : decode cX3_grade 60 = .ok (.invokevirtual 141, 3) := by decide +kernel
theorem dX3_grade_63 : decode cX3_grade 63 = .ok (.iload_n 3, 1) := by decide +kernel
theorem dX3_grade_64 : decode cX3_grade 64 = .ok (.ireturn, 1) := by decide +kernel
set_option maxRecDepth 20000 in
theorem ggX3_day_X0_remember : GoodIn wsX3_day wsX0_remember := goodIn_r _ [6, 7, 8, 9, 10, 11, 12, 13, 14, 15, 16, 17, 18, 19, 20, 65, 66, 67, 68, 69, 70, 71, 72, 73, 74] (by decide +kernel) (by decide +kernel)
set_option maxRecDepth 20000 in
theorem gX3_day_X0_remember_n111 : GoodIn wsX3_day (wsX0_remember) := ggX3_day_X0_remember
set_option maxRecDepth 20000 in
theorem ggX3_day_X1_passDay : GoodIn wsX3_day wsX1_passDay := goodIn_r _ [23, 18, 20, 24, 25, 26, 11, 27, 14, 28, 29, 30, 31, 32, 33, 34, 35, 36, 37, 38, 15, 39, 40, 41, 42, 16, 43, 44, 45, 46, 17, 47, 48, 49, 50, 51, 52, 53, 68, 69, 70, 71, 72, 73, 74] (by decide +kernel) (by decide +kernel)
set_option maxRecDepth 20000 in
theorem gX3_day_X1_passDay_n145 : GoodIn wsX3_day (wsX1_passDay) := ggX3_day_X1_passDay
theorem dX3_day_0 : decode cX3_day 0 = .ok (.aload_n 0, 1) := by decide +kernel
theorem dX3_day_1 : decode cX3_day 1 = .ok (.getfield 29, 3) := by decide +kernel
theorem dX3_day_4 : decode cX3_day 4 = .ok (.aload_n 0, 1) := by decide +kernel
theorem dX3_day_5 : decode cX3_day 5 = .ok (.getfield 19, 3) := by decide +kernel
theorem dX3_day_8 : decode cX3_day 8 = .ok (.invokevirtual 111, 3) := by decide +kernel
theorem dX3_day_11 : decode cX3_day 11 = .ok (.aload_n 0, 1) := by decide +kernel
theorem dX3_day_12 : decode cX3_day 12 = .ok (.getfield 19, 3) := by decide +kernel
theorem dX3_day_15 : decode cX3_day 15 = .ok (.invokevirtual 145, 3) := by decide +kernel
theorem dX3_day_18 : decode cX3_day 18 = .ok (.ireturn, 1) := by decide +kernel
set_option maxRecDepth 20000 in
theorem ggX3_undo_X0_takeBackInto : GoodIn wsX3_undo wsX0_takeBackInto := goodIn_r _ [6, 7, 8, 9, 10, 11, 12, 13, 14, 15, 16, 17, 18, 19, 20, 32, 33, 34, 35, 36, 37, 38, 39, 40, 41] (by decide +kernel) (by decide +kernel)
set_option maxRecDepth 20000 in
theorem gX3_undo_X0_takeBackInto_n148 : GoodIn wsX3_undo (wsX0_takeBackInto) := ggX3_undo_X0_takeBackInto
theorem dX3_undo_0 : decode cX3_undo 0 = .ok (.aload_n 0, 1) := by decide +kernel
theorem dX3_undo_1 : decode cX3_undo 1 = .ok (.getfield 29, 3) := by decide +kernel
theorem dX3_undo_4 : decode cX3_undo 4 = .ok (.aload_n 0, 1) := by decide +kernel
theorem dX3_undo_5 : decode cX3_undo 5 = .ok (.getfield 19, 3) := by decide +kernel
theorem dX3_undo_8 : decode cX3_undo 8 = .ok (.invokevirtual 148, 3) := by decide +kernel
theorem dX3_undo_11 : decode cX3_undo 11 = .ok (.ifCond .eq 13, 3) := by decide +kernel
theorem dX3_undo_14 : decode cX3_undo 14 = .ok (.aload_n 0, 1) := by decide +kernel
theorem dX3_undo_15 : decode cX3_undo 15 = .ok (.getfield 29, 3) := by decide +kernel
theorem dX3_undo_18 : decode cX3_undo 18 = .ok (.getfield 63, 3) := by decide +kernel
theorem dX3_undo_21 : decode cX3_undo 21 = .ok (.goto 5, 3) := by decide +kernel
theorem dX3_undo_24 : decode cX3_undo 24 = .ok (.bipush (-3), 2) := by decide +kernel
theorem dX3_undo_26 : decode cX3_undo 26 = .ok (.ireturn, 1) := by decide +kernel
set_option maxRecDepth 20000 in
theorem ggX3_fall_X1_fallRow : GoodIn wsX3_fall wsX1_fallRow := goodIn_r _ [5, 6, 7, 8, 9, 10, 3, 11, 12, 13, 14, 15, 16, 17, 18, 19, 20, 21, 22, 23, 24, 25, 26, 27, 28, 29, 30, 31, 32, 33, 34, 35, 36, 37, 38, 39, 40, 52, 53, 54, 55, 56, 57, 58] (by decide +kernel) (by decide +kernel)
set_option maxRecDepth 20000 in
theorem gX3_fall_X1_fallRow_n152 : GoodIn wsX3_fall (wsX1_fallRow) := ggX3_fall_X1_fallRow
theorem dX3_fall_0 : decode cX3_fall 0 = .ok (.aload_n 0, 1) := by decide +kernel
theorem dX3_fall_1 : decode cX3_fall 1 = .ok (.getfield 19, 3) := by decide +kernel
theorem dX3_fall_4 : decode cX3_fall 4 = .ok (.invokevirtual 152, 3) := by decide +kernel
theorem dX3_fall_7 : decode cX3_fall 7 = .ok (.ireturn, 1) := by decide +kernel
set_option maxRecDepth 20000 in
theorem ggX3_place_X1_has : GoodIn wsX3_place wsX1_has := goodIn_r _ [5, 6, 55, 56, 57, 58, 59, 60, 61] (by decide +kernel) (by decide +kernel)
set_option maxRecDepth 20000 in
theorem gX3_place_X1_has_n92 : GoodIn wsX3_place (wsX1_has) := ggX3_place_X1_has
set_option maxRecDepth 20000 in
theorem ggX3_place_X1_placeOf : GoodIn wsX3_place wsX1_placeOf := goodIn_r _ [9, 10, 6, 11, 12, 13, 3, 14, 15, 16, 17, 18, 19, 20, 21, 22, 23, 24, 25, 26, 27, 28, 29, 30, 31, 32, 33, 34, 35, 36, 37, 38, 39, 40, 41, 42, 43, 55, 56, 57, 58, 59, 60, 61] (by decide +kernel) (by decide +kernel)
set_option maxRecDepth 20000 in
theorem gX3_place_X1_placeOf_n155 : GoodIn wsX3_place (wsX1_placeOf) := ggX3_place_X1_placeOf
theorem dX3_place_0 : decode cX3_place 0 = .ok (.aload_n 0, 1) := by decide +kernel
theorem dX3_place_1 : decode cX3_place 1 = .ok (.getfield 19, 3) := by decide +kernel
theorem dX3_place_4 : decode cX3_place 4 = .ok (.iload_n 1, 1) := by decide +kernel
theorem dX3_place_5 : decode cX3_place 5 = .ok (.invokevirtual 92, 3) := by decide +kernel
theorem dX3_place_8 : decode cX3_place 8 = .ok (.ifCond .eq 14, 3) := by decide +kernel
theorem dX3_place_11 : decode cX3_place 11 = .ok (.aload_n 0, 1) := by decide +kernel
theorem dX3_place_12 : decode cX3_place 12 = .ok (.getfield 19, 3) := by decide +kernel
theorem dX3_place_15 : decode cX3_place 15 = .ok (.iload_n 1, 1) := by decide +kernel
theorem dX3_place_16 : decode cX3_place 16 = .ok (.invokevirtual 155, 3) := by decide +kernel
theorem dX3_place_19 : decode cX3_place 19 = .ok (.goto 4, 3) := by decide +kernel
theorem dX3_place_22 : decode cX3_place 22 = .ok (.iconst (-1), 1) := by decide +kernel
theorem dX3_place_23 : decode cX3_place 23 = .ok (.ireturn, 1) := by decide +kernel
set_option maxRecDepth 20000 in
theorem ggX3_last_X1_leftBehind : GoodIn wsX3_last wsX1_leftBehind := goodIn_r _ [5, 6, 7, 8, 9, 3, 10, 11, 12, 13, 14, 15, 16, 17, 18, 19, 20, 21, 22, 23, 24, 25, 26, 27, 28, 29, 30, 31, 32, 33, 34, 46, 47, 48, 49, 50, 51, 52] (by decide +kernel) (by decide +kernel)
set_option maxRecDepth 20000 in
theorem gX3_last_X1_leftBehind_n158 : GoodIn wsX3_last (wsX1_leftBehind) := ggX3_last_X1_leftBehind
theorem dX3_last_0 : decode cX3_last 0 = .ok (.aload_n 0, 1) := by decide +kernel
theorem dX3_last_1 : decode cX3_last 1 = .ok (.getfield 19, 3) := by decide +kernel
theorem dX3_last_4 : decode cX3_last 4 = .ok (.aload_n 0, 1) := by decide +kernel
theorem dX3_last_5 : decode cX3_last 5 = .ok (.getfield 19, 3) := by decide +kernel
theorem dX3_last_8 : decode cX3_last 8 = .ok (.getfield 72, 3) := by decide +kernel
theorem dX3_last_11 : decode cX3_last 11 = .ok (.invokevirtual 158, 3) := by decide +kernel
theorem dX3_last_14 : decode cX3_last 14 = .ok (.ireturn, 1) := by decide +kernel
set_option maxRecDepth 20000 in
theorem ggX3_toFeed_X1_has : GoodIn wsX3_toFeed wsX1_has := goodIn_r _ [6, 7, 83, 84, 85, 86, 87, 88, 89] (by decide +kernel) (by decide +kernel)
set_option maxRecDepth 20000 in
theorem gX3_toFeed_X1_has_n92 : GoodIn wsX3_toFeed (wsX1_has) := ggX3_toFeed_X1_has
set_option maxRecDepth 20000 in
theorem ggX3_toFeed_X1_isTaken : GoodIn wsX3_toFeed wsX1_isTaken := goodIn_r _ [10, 11, 12, 13, 4, 14, 7, 15, 16, 17, 18, 19, 20, 21, 22, 23, 24, 25, 26, 27, 28, 29, 30, 31, 32, 33, 34, 35, 36, 37, 38, 39, 40, 41, 42, 83, 84, 85, 86, 87, 88, 89] (by decide +kernel) (by decide +kernel)
set_option maxRecDepth 20000 in
theorem gX3_toFeed_X1_isTaken_n161 : GoodIn wsX3_toFeed (wsX1_isTaken) := ggX3_toFeed_X1_isTaken
set_option maxRecDepth 20000 in
theorem ggX3_toFeed_X1_copy : GoodIn wsX3_toFeed wsX1_copy := goodIn_r _ [45, 7, 30, 35, 40, 46, 47, 48, 83, 84, 85, 86, 87, 88, 89] (by decide +kernel) (by decide +kernel)
set_option maxRecDepth 20000 in
theorem gX3_toFeed_X1_copy_n59 : GoodIn wsX3_toFeed (wsX1_copy) := ggX3_toFeed_X1_copy
set_option maxRecDepth 20000 in
theorem ggX3_toFeed_X3_onePair : GoodIn wsX3_toFeed wsX3_onePair := goodIn_r _ [52, 1, 53, 54, 55, 20, 56, 3, 4, 5, 6, 7, 57, 58, 59, 40, 60, 61, 62, 63, 64, 65, 66, 2, 12, 13, 14, 15, 16, 17, 18, 19, 21, 22, 23, 24, 25, 26, 27, 28, 29, 30, 31, 32, 33, 34, 35, 36, 37, 38, 39, 41, 42, 67, 72, 73, 74, 75, 76, 77, 78, 79, 80, 81, 82, 83, 84, 85, 86, 87, 88, 89] (by decide +kernel) (by decide +kernel)
set_option maxRecDepth 20000 in
theorem gX3_toFeed_X3_onePair : GoodIn wsX3_toFeed (wsV RX3 164 RX3 yX3_onePair wsX3_onePair) := goodIn_app (goodIn_of _ (by decide +kernel)) ggX3_toFeed_X3_onePair
set_option maxRecDepth 20000 in
theorem ggX3_toFeed_X3_twoPairs : GoodIn wsX3_toFeed wsX3_twoPairs := goodIn_r _ [71, 1, 53, 54, 55, 20, 56, 3, 4, 5, 6, 7, 57, 58, 59, 40, 60, 61, 62, 63, 64, 65, 66, 2, 12, 13, 14, 15, 16, 17, 18, 19, 21, 22, 23, 24, 25, 26, 27, 28, 29, 30, 31, 32, 33, 34, 35, 36, 37, 38, 39, 41, 42, 67, 72, 73, 74, 75, 76, 77, 78, 79, 80, 81, 82, 83, 84, 85, 86, 87, 88, 89] (by decide +kernel) (by decide +kernel)
set_option maxRecDepth 20000 in
theorem gX3_toFeed_X3_twoPairs : GoodIn wsX3_toFeed (wsV RX3 167 RX3 yX3_twoPairs wsX3_twoPairs) := goodIn_app (goodIn_of _ (by decide +kernel)) ggX3_toFeed_X3_twoPairs
theorem dX3_toFeed_0 : decode cX3_toFeed 0 = .ok (.aload_n 0, 1) := by decide +kernel
theorem dX3_toFeed_1 : decode cX3_toFeed 1 = .ok (.getfield 19, 3) := by decide +kernel
theorem dX3_toFeed_4 : decode cX3_toFeed 4 = .ok (.iload_n 1, 1) := by decide +kernel
theorem dX3_toFeed_5 : decode cX3_toFeed 5 = .ok (.invokevirtual 92, 3) := by decide +kernel
theorem dX3_toFeed_8 : decode cX3_toFeed 8 = .ok (.ifCond .ne 5, 3) := by decide +kernel
theorem dX3_toFeed_11 : decode cX3_toFeed 11 = .ok (.iconst (-1), 1) := by decide +kernel
theorem dX3_toFeed_12 : decode cX3_toFeed 12 = .ok (.ireturn, 1) := by decide +kernel
theorem dX3_toFeed_13 : decode cX3_toFeed 13 = .ok (.iload_n 2, 1) := by decide +kernel
theorem dX3_toFeed_14 : decode cX3_toFeed 14 = .ok (.ifCond .lt 8, 3) := by decide +kernel
theorem dX3_toFeed_17 : decode cX3_toFeed 17 = .ok (.iload_n 2, 1) := by decide +kernel
theorem dX3_toFeed_18 : decode cX3_toFeed 18 = .ok (.iconst 1, 1) := by decide +kernel
theorem dX3_toFeed_19 : decode cX3_toFeed 19 = .ok (.if_icmp .le 6, 3) := by decide +kernel
theorem dX3_toFeed_22 : decode cX3_toFeed 22 = .ok (.bipush (-2), 2) := by decide +kernel
theorem dX3_toFeed_24 : decode cX3_toFeed 24 = .ok (.ireturn, 1) := by decide +kernel
theorem dX3_toFeed_25 : decode cX3_toFeed 25 = .ok (.aload_n 0, 1) := by decide +kernel
theorem dX3_toFeed_26 : decode cX3_toFeed 26 = .ok (.getfield 19, 3) := by decide +kernel
theorem dX3_toFeed_29 : decode cX3_toFeed 29 = .ok (.iload_n 1, 1) := by decide +kernel
theorem dX3_toFeed_30 : decode cX3_toFeed 30 = .ok (.aload_n 0, 1) := by decide +kernel
theorem dX3_toFeed_31 : decode cX3_toFeed 31 = .ok (.getfield 19, 3) := by decide +kernel
theorem dX3_toFeed_34 : decode cX3_toFeed 34 = .ok (.getfield 72, 3) := by decide +kernel
theorem dX3_toFeed_37 : decode cX3_toFeed 37 = .ok (.invokevirtual 161, 3) := by decide +kernel
theorem dX3_toFeed_40 : decode cX3_toFeed 40 = .ok (.ifCond .ne 5, 3) := by decide +kernel
theorem dX3_toFeed_43 : decode cX3_toFeed 43 = .ok (.iconst 0, 1) := by decide +kernel
theorem dX3_toFeed_44 : decode cX3_toFeed 44 = .ok (.ireturn, 1) := by decide +kernel
theorem dX3_toFeed_45 : decode cX3_toFeed 45 = .ok (.aload_n 0, 1) := by decide +kernel
theorem dX3_toFeed_46 : decode cX3_toFeed 46 = .ok (.getfield 23, 3) := by decide +kernel
theorem dX3_toFeed_49 : decode cX3_toFeed 49 = .ok (.aload_n 0, 1) := by decide +kernel
theorem dX3_toFeed_50 : decode cX3_toFeed 50 = .ok (.getfield 19, 3) := by decide +kernel
theorem dX3_toFeed_53 : decode cX3_toFeed 53 = .ok (.invokevirtual 59, 3) := by decide +kernel
theorem dX3_toFeed_56 : decode cX3_toFeed 56 = .ok (.aload_n 0, 1) := by decide +kernel
theorem dX3_toFeed_57 : decode cX3_toFeed 57 = .ok (.iload_n 1, 1) := by decide +kernel
theorem dX3_toFeed_58 : decode cX3_toFeed 58 = .ok (.invokevirtual 164, 3) := by decide +kernel
theorem dX3_toFeed_61 : decode cX3_toFeed 61 = .ok (.istore_n 3, 1) := by decide +kernel
theorem dX3_toFeed_62 : decode cX3_toFeed 62 = .ok (.iload_n 3, 1) := by decide +kernel
theorem dX3_toFeed_63 : decode cX3_toFeed 63 = .ok (.bipush (-9), 2) := by decide +kernel
theorem dX3_toFeed_65 : decode cX3_toFeed 65 = .ok (.if_icmp .eq 13, 3) := by decide +kernel
theorem dX3_toFeed_68 : decode cX3_toFeed 68 = .ok (.iload_n 2, 1) := by decide +kernel
theorem dX3_toFeed_69 : decode cX3_toFeed 69 = .ok (.ifCond .ne 7, 3) := by decide +kernel
theorem dX3_toFeed_72 : decode cX3_toFeed 72 = .ok (.iconst 1, 1) := by decide +kernel
theorem dX3_toFeed_73 : decode cX3_toFeed 73 = .ok (.goto 4, 3) := by decide +kernel
theorem dX3_toFeed_76 : decode cX3_toFeed 76 = .ok (.iload_n 3, 1) := by decide +kernel
theorem dX3_toFeed_77 : decode cX3_toFeed 77 = .ok (.ireturn, 1) := by decide +kernel
theorem dX3_toFeed_78 : decode cX3_toFeed 78 = .ok (.aload_n 0, 1) := by decide +kernel
theorem dX3_toFeed_79 : decode cX3_toFeed 79 = .ok (.iload_n 1, 1) := by decide +kernel
theorem dX3_toFeed_80 : decode cX3_toFeed 80 = .ok (.invokevirtual 167, 3) := by decide +kernel
theorem dX3_toFeed_83 : decode cX3_toFeed 83 = .ok (.istore_n 3, 1) := by decide +kernel
theorem dX3_toFeed_84 : decode cX3_toFeed 84 = .ok (.iload_n 2, 1) := by decide +kernel
theorem dX3_toFeed_85 : decode cX3_toFeed 85 = .ok (.ifCond .ne 13, 3) := by decide +kernel
theorem dX3_toFeed_88 : decode cX3_toFeed 88 = .ok (.iload_n 3, 1) := by decide +kernel
theorem dX3_toFeed_89 : decode cX3_toFeed 89 = .ok (.bipush (-9), 2) := by decide +kernel
theorem dX3_toFeed_91 : decode cX3_toFeed 91 = .ok (.if_icmp .eq 7, 3) := by decide +kernel
theorem dX3_toFeed_94 : decode cX3_toFeed 94 = .ok (.iconst 2, 1) := by decide +kernel
theorem dX3_toFeed_95 : decode cX3_toFeed 95 = .ok (.goto 4, 3) := by decide +kernel
