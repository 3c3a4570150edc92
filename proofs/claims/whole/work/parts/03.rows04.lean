theorem dX4_readPair_19 : decode cX4_readPair 19 = .ok (.iaload, 1) := by decide +kernel
theorem dX4_readPair_20 : decode cX4_readPair 20 = .ok (.bipush 48, 2) := by decide +kernel
theorem dX4_readPair_22 : decode cX4_readPair 22 = .ok (.isub, 1) := by decide +kernel
theorem dX4_readPair_23 : decode cX4_readPair 23 = .ok (.goto 5, 3) := by decide +kernel
theorem dX4_readPair_26 : decode cX4_readPair 26 = .ok (.bipush (-9), 2) := by decide +kernel
theorem dX4_readPair_28 : decode cX4_readPair 28 = .ok (.istore_n 1, 1) := by decide +kernel
theorem dX4_readPair_29 : decode cX4_readPair 29 = .ok (.iload_n 1, 1) := by decide +kernel
theorem dX4_readPair_30 : decode cX4_readPair 30 = .ok (.i2l, 1) := by decide +kernel
theorem dX4_readPair_31 : decode cX4_readPair 31 = .ok (.lconst 0, 1) := by decide +kernel
theorem dX4_readPair_32 : decode cX4_readPair 32 = .ok (.aload_n 0, 1) := by decide +kernel
theorem dX4_readPair_33 : decode cX4_readPair 33 = .ok (.getfield 79, 3) := by decide +kernel
theorem dX4_readPair_36 : decode cX4_readPair 36 = .ok (.iconst 1, 1) := by decide +kernel
theorem dX4_readPair_37 : decode cX4_readPair 37 = .ok (.isub, 1) := by decide +kernel
theorem dX4_readPair_38 : decode cX4_readPair 38 = .ok (.i2l, 1) := by decide +kernel
theorem dX4_readPair_39 : decode cX4_readPair 39 = .ok (.invokestatic 67, 3) := by decide +kernel
theorem dX4_readPair_42 : decode cX4_readPair 42 = .ok (.ifCond .eq 11, 3) := by decide +kernel
theorem dX4_readPair_45 : decode cX4_readPair 45 = .ok (.aload_n 0, 1) := by decide +kernel
theorem dX4_readPair_46 : decode cX4_readPair 46 = .ok (.iload_n 1, 1) := by decide +kernel
theorem dX4_readPair_47 : decode cX4_readPair 47 = .ok (.invokevirtual 82, 3) := by decide +kernel
theorem dX4_readPair_50 : decode cX4_readPair 50 = .ok (.ifCond .ne 5, 3) := by decide +kernel
theorem dX4_readPair_53 : decode cX4_readPair 53 = .ok (.iconst 0, 1) := by decide +kernel
theorem dX4_readPair_54 : decode cX4_readPair 54 = .ok (.ireturn, 1) := by decide +kernel
theorem dX4_readPair_55 : decode cX4_readPair 55 = .ok (.aload_n 0, 1) := by decide +kernel
theorem dX4_readPair_56 : decode cX4_readPair 56 = .ok (.dup, 1) := by decide +kernel
theorem dX4_readPair_57 : decode cX4_readPair 57 = .ok (.getfield 76, 3) := by decide +kernel
theorem dX4_readPair_60 : decode cX4_readPair 60 = .ok (.iconst 1, 1) := by decide +kernel
theorem dX4_readPair_61 : decode cX4_readPair 61 = .ok (.iadd, 1) := by decide +kernel
theorem dX4_readPair_62 : decode cX4_readPair 62 = .ok (.putfield 76, 3) := by decide +kernel
theorem dX4_readPair_65 : decode cX4_readPair 65 = .ok (.aload_n 0, 1) := by decide +kernel
theorem dX4_readPair_66 : decode cX4_readPair 66 = .ok (.getfield 76, 3) := by decide +kernel
theorem dX4_readPair_69 : decode cX4_readPair 69 = .ok (.aload_n 0, 1) := by decide +kernel
theorem dX4_readPair_70 : decode cX4_readPair 70 = .ok (.getfield 73, 3) := by decide +kernel
theorem dX4_readPair_73 : decode cX4_readPair 73 = .ok (.if_icmp .ge 18, 3) := by decide +kernel
theorem dX4_readPair_76 : decode cX4_readPair 76 = .ok (.aload_n 0, 1) := by decide +kernel
theorem dX4_readPair_77 : decode cX4_readPair 77 = .ok (.getfield 7, 3) := by decide +kernel
theorem dX4_readPair_80 : decode cX4_readPair 80 = .ok (.aload_n 0, 1) := by decide +kernel
theorem dX4_readPair_81 : decode cX4_readPair 81 = .ok (.getfield 76, 3) := by decide +kernel
theorem dX4_readPair_84 : decode cX4_readPair 84 = .ok (.iaload, 1) := by decide +kernel
theorem dX4_readPair_85 : decode cX4_readPair 85 = .ok (.bipush 48, 2) := by decide +kernel
theorem dX4_readPair_87 : decode cX4_readPair 87 = .ok (.isub, 1) := by decide +kernel
theorem dX4_readPair_88 : decode cX4_readPair 88 = .ok (.goto 5, 3) := by decide +kernel
theorem dX4_readPair_91 : decode cX4_readPair 91 = .ok (.bipush (-9), 2) := by decide +kernel
theorem dX4_readPair_93 : decode cX4_readPair 93 = .ok (.istore_n 2, 1) := by decide +kernel
theorem dX4_readPair_94 : decode cX4_readPair 94 = .ok (.iload_n 2, 1) := by decide +kernel
theorem dX4_readPair_95 : decode cX4_readPair 95 = .ok (.i2l, 1) := by decide +kernel
theorem dX4_readPair_96 : decode cX4_readPair 96 = .ok (.lconst 0, 1) := by decide +kernel
theorem dX4_readPair_97 : decode cX4_readPair 97 = .ok (.aload_n 0, 1) := by decide +kernel
theorem dX4_readPair_98 : decode cX4_readPair 98 = .ok (.getfield 79, 3) := by decide +kernel
theorem dX4_readPair_101 : decode cX4_readPair 101 = .ok (.iconst 1, 1) := by decide +kernel
theorem dX4_readPair_102 : decode cX4_readPair 102 = .ok (.isub, 1) := by decide +kernel
theorem dX4_readPair_103 : decode cX4_readPair 103 = .ok (.i2l, 1) := by decide +kernel
theorem dX4_readPair_104 : decode cX4_readPair 104 = .ok (.invokestatic 67, 3) := by decide +kernel
theorem dX4_readPair_107 : decode cX4_readPair 107 = .ok (.ifCond .eq 15, 3) := by decide +kernel
theorem dX4_readPair_110 : decode cX4_readPair 110 = .ok (.aload_n 0, 1) := by decide +kernel
theorem dX4_readPair_111 : decode cX4_readPair 111 = .ok (.iload_n 1, 1) := by decide +kernel
theorem dX4_readPair_112 : decode cX4_readPair 112 = .ok (.invokevirtual 82, 3) := by decide +kernel
theorem dX4_readPair_115 : decode cX4_readPair 115 = .ok (.iload_n 2, 1) := by decide +kernel
theorem dX4_readPair_116 : decode cX4_readPair 116 = .ok (.invokestatic 89, 3) := by decide +kernel
theorem dX4_readPair_119 : decode cX4_readPair 119 = .ok (.ifCond .ne 5, 3) := by decide +kernel
theorem dX4_readPair_122 : decode cX4_readPair 122 = .ok (.iconst 0, 1) := by decide +kernel
theorem dX4_readPair_123 : decode cX4_readPair 123 = .ok (.ireturn, 1) := by decide +kernel
theorem dX4_readPair_124 : decode cX4_readPair 124 = .ok (.aload_n 0, 1) := by decide +kernel
theorem dX4_readPair_125 : decode cX4_readPair 125 = .ok (.dup, 1) := by decide +kernel
theorem dX4_readPair_126 : decode cX4_readPair 126 = .ok (.getfield 76, 3) := by decide +kernel
theorem dX4_readPair_129 : decode cX4_readPair 129 = .ok (.iconst 1, 1) := by decide +kernel
theorem dX4_readPair_130 : decode cX4_readPair 130 = .ok (.iadd, 1) := by decide +kernel
theorem dX4_readPair_131 : decode cX4_readPair 131 = .ok (.putfield 76, 3) := by decide +kernel
theorem dX4_readPair_134 : decode cX4_readPair 134 = .ok (.aload_n 0, 1) := by decide +kernel
theorem dX4_readPair_135 : decode cX4_readPair 135 = .ok (.getfield 22, 3) := by decide +kernel
theorem dX4_readPair_138 : decode cX4_readPair 138 = .ok (.iload_n 1, 1) := by decide +kernel
theorem dX4_readPair_139 : decode cX4_readPair 139 = .ok (.dup2, 1) := by decide +kernel
theorem dX4_readPair_140 : decode cX4_readPair 140 = .ok (.iaload, 1) := by decide +kernel
theorem dX4_readPair_141 : decode cX4_readPair 141 = .ok (.iconst 1, 1) := by decide +kernel
theorem dX4_readPair_142 : decode cX4_readPair 142 = .ok (.iload_n 2, 1) := by decide +kernel
theorem dX4_readPair_143 : decode cX4_readPair 143 = .ok (.ishl, 1) := by decide +kernel
theorem dX4_readPair_144 : decode cX4_readPair 144 = .ok (.ior, 1) := by decide +kernel
theorem dX4_readPair_145 : decode cX4_readPair 145 = .ok (.iastore, 1) := by decide +kernel
theorem dX4_readPair_146 : decode cX4_readPair 146 = .ok (.iconst 1, 1) := by decide +kernel
theorem dX4_readPair_147 : decode cX4_readPair 147 = .ok (.ireturn, 1) := by decide +kernel
set_option maxRecDepth 20000 in
theorem ggX4_readPart_X4_readPerson : GoodIn wsX4_readPart wsX4_readPerson := goodIn_r _ [8, 9, 3, 10, 11, 12, 13, 14, 7, 15, 2, 16, 1, 17, 18, 19, 35, 36, 37, 38, 39, 40, 41, 42, 43, 44, 45, 46, 47, 48, 49, 50, 51, 52, 53, 54, 55, 56, 57, 58, 59, 60, 61, 62, 63] (by decide +kernel) (by decide +kernel)
set_option maxRecDepth 20000 in
theorem gX4_readPart_X4_readPerson : GoodIn wsX4_readPart (wsV RX4 93 RX4 yX4_readPerson wsX4_readPerson) := goodIn_app (goodIn_of _ (by decide +kernel)) ggX4_readPart_X4_readPerson
set_option maxRecDepth 20000 in
theorem ggX4_readPart_X4_isLeft : GoodIn wsX4_readPart wsX4_isLeft := goodIn_r _ [23, 3, 24, 25, 26, 7, 27, 11, 35, 36, 37, 38, 39, 40, 41, 42, 43, 44, 45, 46, 47, 48, 49, 50, 51, 52, 53, 54, 55, 56, 57, 58, 59, 60, 61, 62, 63] (by decide +kernel) (by decide +kernel)
set_option maxRecDepth 20000 in
theorem gX4_readPart_X4_isLeft : GoodIn wsX4_readPart (wsV RX4 97 RX4 yX4_isLeft wsX4_isLeft) := goodIn_app (goodIn_of _ (by decide +kernel)) ggX4_readPart_X4_isLeft
set_option maxRecDepth 20000 in
theorem ggX4_readPart_X4_readPair : GoodIn wsX4_readPart wsX4_readPair := goodIn_r _ [31, 2, 16, 1, 3, 11, 17, 18, 7, 19, 24, 25, 26, 27, 32, 33, 34, 35, 36, 37, 38, 39, 40, 41, 42, 43, 44, 45, 46, 47, 48, 49, 50, 51, 52, 53, 54, 55, 56, 57, 58, 59, 60, 61, 62, 63] (by decide +kernel) (by decide +kernel)
set_option maxRecDepth 20000 in
theorem gX4_readPart_X4_readPair : GoodIn wsX4_readPart (wsV RX4 100 RX4 yX4_readPair wsX4_readPair) := goodIn_app (goodIn_of _ (by decide +kernel)) ggX4_readPart_X4_readPair
theorem dX4_readPart_0 : decode cX4_readPart 0 = .ok (.aload_n 0, 1) := by decide +kernel
theorem dX4_readPart_1 : decode cX4_readPart 1 = .ok (.getfield 7, 3) := by decide +kernel
theorem dX4_readPart_4 : decode cX4_readPart 4 = .ok (.aload_n 0, 1) := by decide +kernel
theorem dX4_readPart_5 : decode cX4_readPart 5 = .ok (.getfield 76, 3) := by decide +kernel
theorem dX4_readPart_8 : decode cX4_readPart 8 = .ok (.iaload, 1) := by decide +kernel
theorem dX4_readPart_9 : decode cX4_readPart 9 = .ok (.istore_n 1, 1) := by decide +kernel
theorem dX4_readPart_10 : decode cX4_readPart 10 = .ok (.aload_n 0, 1) := by decide +kernel
theorem dX4_readPart_11 : decode cX4_readPart 11 = .ok (.dup, 1) := by decide +kernel
theorem dX4_readPart_12 : decode cX4_readPart 12 = .ok (.getfield 76, 3) := by decide +kernel
theorem dX4_readPart_15 : decode cX4_readPart 15 = .ok (.iconst 1, 1) := by decide +kernel
theorem dX4_readPart_16 : decode cX4_readPart 16 = .ok (.iadd, 1) := by decide +kernel
theorem dX4_readPart_17 : decode cX4_readPart 17 = .ok (.putfield 76, 3) := by decide +kernel
theorem dX4_readPart_20 : decode cX4_readPart 20 = .ok (.iload_n 1, 1) := by decide +kernel
theorem dX4_readPart_21 : decode cX4_readPart 21 = .ok (.bipush 80, 2) := by decide +kernel
theorem dX4_readPart_23 : decode cX4_readPart 23 = .ok (.if_icmp .ne 17, 3) := by decide +kernel
theorem dX4_readPart_26 : decode cX4_readPart 26 = .ok (.aload_n 0, 1) := by decide +kernel
theorem dX4_readPart_27 : decode cX4_readPart 27 = .ok (.getfield 79, 3) := by decide +kernel
theorem dX4_readPart_30 : decode cX4_readPart 30 = .ok (.bipush 7, 2) := by decide +kernel
theorem dX4_readPart_32 : decode cX4_readPart 32 = .ok (.if_icmp .ge 8, 3) := by decide +kernel
theorem dX4_readPart_35 : decode cX4_readPart 35 = .ok (.aload_n 0, 1) := by decide +kernel
theorem dX4_readPart_36 : decode cX4_readPart 36 = .ok (.invokevirtual 93, 3) := by decide +kernel
theorem dX4_readPart_39 : decode cX4_readPart 39 = .ok (.ireturn, 1) := by decide +kernel
theorem dX4_readPart_40 : decode cX4_readPart 40 = .ok (.iload_n 1, 1) := by decide +kernel
theorem dX4_readPart_41 : decode cX4_readPart 41 = .ok (.bipush 70, 2) := by decide +kernel
theorem dX4_readPart_43 : decode cX4_readPart 43 = .ok (.if_icmp .ne 15, 3) := by decide +kernel
theorem dX4_readPart_46 : decode cX4_readPart 46 = .ok (.aload_n 0, 1) := by decide +kernel
theorem dX4_readPart_47 : decode cX4_readPart 47 = .ok (.invokevirtual 97, 3) := by decide +kernel
theorem dX4_readPart_50 : decode cX4_readPart 50 = .ok (.ifCond .eq 8, 3) := by decide +kernel
theorem dX4_readPart_53 : decode cX4_readPart 53 = .ok (.aload_n 0, 1) := by decide +kernel
theorem dX4_readPart_54 : decode cX4_readPart 54 = .ok (.invokevirtual 100, 3) := by decide +kernel
theorem dX4_readPart_57 : decode cX4_readPart 57 = .ok (.ireturn, 1) := by decide +kernel
theorem dX4_readPart_58 : decode cX4_readPart 58 = .ok (.aload_n 0, 1) := by decide +kernel
theorem dX4_readPart_59 : decode cX4_readPart 59 = .ok (.dup, 1) := by decide +kernel
theorem dX4_readPart_60 : decode cX4_readPart 60 = .ok (.getfield 76, 3) := by decide +kernel
theorem dX4_readPart_63 : decode cX4_readPart 63 = .ok (.iconst 1, 1) := by decide +kernel
theorem dX4_readPart_64 : decode cX4_readPart 64 = .ok (.isub, 1) := by decide +kernel
theorem dX4_readPart_65 : decode cX4_readPart 65 = .ok (.putfield 76, 3) := by decide +kernel
theorem dX4_readPart_68 : decode cX4_readPart 68 = .ok (.iconst 0, 1) := by decide +kernel
theorem dX4_readPart_69 : decode cX4_readPart 69 = .ok (.ireturn, 1) := by decide +kernel
set_option maxRecDepth 20000 in
theorem ggX4_readCounty_X4_readPart : GoodIn wsX4_readCounty wsX4_readPart := goodIn_r _ [9, 4, 1, 2, 10, 11, 12, 8, 13, 14, 15, 16, 17, 18, 19, 20, 3, 21, 22, 23, 24, 25, 26, 27, 28, 29, 30, 31, 32, 33, 34, 35, 36, 37, 38, 39, 40, 41, 42, 43, 44, 45, 46, 47, 48, 49, 50, 51, 52, 53, 54, 55, 56, 57, 58, 59, 60, 61, 62, 63, 64, 65, 66, 67] (by decide +kernel) (by decide +kernel)
set_option maxRecDepth 20000 in
theorem gX4_readCounty_X4_readPart : GoodIn wsX4_readCounty (wsV RX4 103 RX4 yX4_readPart wsX4_readPart) := goodIn_app (goodIn_of _ (by decide +kernel)) ggX4_readCounty_X4_readPart
theorem dX4_readCounty_0 : decode cX4_readCounty 0 = .ok (.aload_n 0, 1) := by decide +kernel
theorem dX4_readCounty_1 : decode cX4_readCounty 1 = .ok (.iconst 0, 1) := by decide +kernel
theorem dX4_readCounty_2 : decode cX4_readCounty 2 = .ok (.putfield 76, 3) := by decide +kernel
theorem dX4_readCounty_5 : decode cX4_readCounty 5 = .ok (.aload_n 0, 1) := by decide +kernel
theorem dX4_readCounty_6 : decode cX4_readCounty 6 = .ok (.iconst 0, 1) := by decide +kernel
theorem dX4_readCounty_7 : decode cX4_readCounty 7 = .ok (.putfield 79, 3) := by decide +kernel
theorem dX4_readCounty_10 : decode cX4_readCounty 10 = .ok (.aload_n 0, 1) := by decide +kernel
theorem dX4_readCounty_11 : decode cX4_readCounty 11 = .ok (.getfield 73, 3) := by decide +kernel
theorem dX4_readCounty_14 : decode cX4_readCounty 14 = .ok (.ifCond .eq 14, 3) := by decide +kernel
theorem dX4_readCounty_17 : decode cX4_readCounty 17 = .ok (.aload_n 0, 1) := by decide +kernel
theorem dX4_readCounty_18 : decode cX4_readCounty 18 = .ok (.getfield 7, 3) := by decide +kernel
theorem dX4_readCounty_21 : decode cX4_readCounty 21 = .ok (.iconst 0, 1) := by decide +kernel
theorem dX4_readCounty_22 : decode cX4_readCounty 22 = .ok (.iaload, 1) := by decide +kernel
theorem dX4_readCounty_23 : decode cX4_readCounty 23 = .ok (.bipush 65, 2) := by decide +kernel
theorem dX4_readCounty_25 : decode cX4_readCounty 25 = .ok (.if_icmp .eq 5, 3) := by decide +kernel
theorem dX4_readCounty_28 : decode cX4_readCounty 28 = .ok (.iconst 0, 1) := by decide +kernel
theorem dX4_readCounty_29 : decode cX4_readCounty 29 = .ok (.ireturn, 1) := by decide +kernel
theorem dX4_readCounty_30 : decode cX4_readCounty 30 = .ok (.aload_n 0, 1) := by decide +kernel
theorem dX4_readCounty_31 : decode cX4_readCounty 31 = .ok (.iconst 1, 1) := by decide +kernel
theorem dX4_readCounty_32 : decode cX4_readCounty 32 = .ok (.putfield 76, 3) := by decide +kernel
theorem dX4_readCounty_35 : decode cX4_readCounty 35 = .ok (.aload_n 0, 1) := by decide +kernel
theorem dX4_readCounty_36 : decode cX4_readCounty 36 = .ok (.getfield 76, 3) := by decide +kernel
theorem dX4_readCounty_39 : decode cX4_readCounty 39 = .ok (.aload_n 0, 1) := by decide +kernel
theorem dX4_readCounty_40 : decode cX4_readCounty 40 = .ok (.getfield 73, 3) := by decide +kernel
theorem dX4_readCounty_43 : decode cX4_readCounty 43 = .ok (.if_icmp .ge 15, 3) := by decide +kernel
theorem dX4_readCounty_46 : decode cX4_readCounty 46 = .ok (.aload_n 0, 1) := by decide +kernel
theorem dX4_readCounty_47 : decode cX4_readCounty 47 = .ok (.invokevirtual 103, 3) := by decide +kernel
theorem dX4_readCounty_50 : decode cX4_readCounty 50 = .ok (.ifCond .ne (-15), 3) := by decide +kernel
theorem dX4_readCounty_53 : decode cX4_readCounty 53 = .ok (.aload_n 0, 1) := by decide +kernel
theorem dX4_readCounty_54 : decode cX4_readCounty 54 = .ok (.getfield 76, 3) := by decide +kernel
theorem dX4_readCounty_57 : decode cX4_readCounty 57 = .ok (.ireturn, 1) := by decide +kernel
theorem dX4_readCounty_58 : decode cX4_readCounty 58 = .ok (.bipush (-9), 2) := by decide +kernel
theorem dX4_readCounty_60 : decode cX4_readCounty 60 = .ok (.ireturn, 1) := by decide +kernel
set_option maxRecDepth 20000 in
theorem ggX4_fault_X4_readCounty : GoodIn wsX4_fault wsX4_readCounty := goodIn_r _ [6, 7, 8, 9, 10, 11, 12, 13, 5, 14, 15, 16, 17, 18, 19, 20, 21, 22, 23, 24, 25, 26, 27, 28, 29, 30, 31, 32, 33, 34, 35, 36, 37, 38, 39, 40, 41, 42, 43, 44, 45, 46, 47, 48, 49, 50, 51, 52, 53, 54, 55, 56, 57, 58, 59, 60, 61, 62, 63, 64, 65, 66, 67, 68, 69, 70, 71, 72] (by decide +kernel) (by decide +kernel)
set_option maxRecDepth 20000 in
theorem gX4_fault_X4_readCounty : GoodIn wsX4_fault (wsV RX4 106 RX4 yX4_readCounty wsX4_readCounty) := goodIn_app (goodIn_of _ (by decide +kernel)) ggX4_fault_X4_readCounty
theorem dX4_fault_0 : decode cX4_fault 0 = .ok (.aload_n 0, 1) := by decide +kernel
theorem dX4_fault_1 : decode cX4_fault 1 = .ok (.iconst 0, 1) := by decide +kernel
theorem dX4_fault_2 : decode cX4_fault 2 = .ok (.putfield 60, 3) := by decide +kernel
theorem dX4_fault_5 : decode cX4_fault 5 = .ok (.aload_n 0, 1) := by decide +kernel
theorem dX4_fault_6 : decode cX4_fault 6 = .ok (.invokevirtual 106, 3) := by decide +kernel
theorem dX4_fault_9 : decode cX4_fault 9 = .ok (.ireturn, 1) := by decide +kernel
set_option maxRecDepth 20000 in
theorem ggX4_county_X4_readCounty : GoodIn wsX4_county wsX4_readCounty := goodIn_r _ [15, 16, 2, 17, 18, 19, 20, 21, 14, 22, 23, 24, 25, 26, 7, 6, 8, 27, 28, 29, 30, 31, 32, 33, 34, 35, 36, 37, 38, 39, 40, 41, 42, 43, 44, 45, 46, 47, 48, 49, 50, 51, 52, 53, 54, 55, 56, 57, 58, 59, 60, 61, 62, 63, 64, 65, 66, 67, 68, 69, 70, 71, 72, 73, 74, 75, 76, 77] (by decide +kernel) (by decide +kernel)
set_option maxRecDepth 20000 in
theorem gX4_county_X4_readCounty : GoodIn wsX4_county (wsV RX4 106 RX4 yX4_readCounty wsX4_readCounty) := goodIn_app (goodIn_of _ (by decide +kernel)) ggX4_county_X4_readCounty
theorem dX4_county_0 : decode cX4_county 0 = .ok (.aload_n 0, 1) := by decide +kernel
theorem dX4_county_1 : decode cX4_county 1 = .ok (.iconst 0, 1) := by decide +kernel
theorem dX4_county_2 : decode cX4_county 2 = .ok (.putfield 60, 3) := by decide +kernel
theorem dX4_county_5 : decode cX4_county 5 = .ok (.aload_n 0, 1) := by decide +kernel
theorem dX4_county_6 : decode cX4_county 6 = .ok (.invokevirtual 106, 3) := by decide +kernel
theorem dX4_county_9 : decode cX4_county 9 = .ok (.bipush (-9), 2) := by decide +kernel
theorem dX4_county_11 : decode cX4_county 11 = .ok (.if_icmp .eq 6, 3) := by decide +kernel
theorem dX4_county_14 : decode cX4_county 14 = .ok (.bipush (-3), 2) := by decide +kernel
theorem dX4_county_16 : decode cX4_county 16 = .ok (.ireturn, 1) := by decide +kernel
theorem dX4_county_17 : decode cX4_county 17 = .ok (.aload_n 0, 1) := by decide +kernel
theorem dX4_county_18 : decode cX4_county 18 = .ok (.aload_n 0, 1) := by decide +kernel
theorem dX4_county_19 : decode cX4_county 19 = .ok (.getfield 79, 3) := by decide +kernel
theorem dX4_county_22 : decode cX4_county 22 = .ok (.putfield 64, 3) := by decide +kernel
theorem dX4_county_25 : decode cX4_county 25 = .ok (.iconst 0, 1) := by decide +kernel
theorem dX4_county_26 : decode cX4_county 26 = .ok (.istore_n 1, 1) := by decide +kernel
theorem dX4_county_27 : decode cX4_county 27 = .ok (.iload_n 1, 1) := by decide +kernel
theorem dX4_county_28 : decode cX4_county 28 = .ok (.bipush 17, 2) := by decide +kernel
theorem dX4_county_30 : decode cX4_county 30 = .ok (.if_icmp .ge 16, 3) := by decide +kernel
theorem dX4_county_33 : decode cX4_county 33 = .ok (.aload_n 0, 1) := by decide +kernel
theorem dX4_county_34 : decode cX4_county 34 = .ok (.getfield 25, 3) := by decide +kernel
theorem dX4_county_37 : decode cX4_county 37 = .ok (.iload_n 1, 1) := by decide +kernel
theorem dX4_county_38 : decode cX4_county 38 = .ok (.iconst 0, 1) := by decide +kernel
theorem dX4_county_39 : decode cX4_county 39 = .ok (.iastore, 1) := by decide +kernel
theorem dX4_county_40 : decode cX4_county 40 = .ok (.iinc 1 1, 3) := by decide +kernel
theorem dX4_county_43 : decode cX4_county 43 = .ok (.goto (-16), 3) := by decide +kernel
theorem dX4_county_46 : decode cX4_county 46 = .ok (.iconst 0, 1) := by decide +kernel
theorem dX4_county_47 : decode cX4_county 47 = .ok (.istore_n 1, 1) := by decide +kernel
theorem dX4_county_48 : decode cX4_county 48 = .ok (.iload_n 1, 1) := by decide +kernel
theorem dX4_county_49 : decode cX4_county 49 = .ok (.aload_n 0, 1) := by decide +kernel
theorem dX4_county_50 : decode cX4_county 50 = .ok (.getfield 64, 3) := by decide +kernel
theorem dX4_county_53 : decode cX4_county 53 = .ok (.if_icmp .ge 50, 3) := by decide +kernel
theorem dX4_county_56 : decode cX4_county 56 = .ok (.aload_n 0, 1) := by decide +kernel
theorem dX4_county_57 : decode cX4_county 57 = .ok (.getfield 13, 3) := by decide +kernel
theorem dX4_county_60 : decode cX4_county 60 = .ok (.iload_n 1, 1) := by decide +kernel
theorem dX4_county_61 : decode cX4_county 61 = .ok (.aload_n 0, 1) := by decide +kernel
theorem dX4_county_62 : decode cX4_county 62 = .ok (.getfield 19, 3) := by decide +kernel
theorem dX4_county_65 : decode cX4_county 65 = .ok (.iload_n 1, 1) := by decide +kernel
theorem dX4_county_66 : decode cX4_county 66 = .ok (.iaload, 1) := by decide +kernel
theorem dX4_county_67 : decode cX4_county 67 = .ok (.iastore, 1) := by decide +kernel
theorem dX4_county_68 : decode cX4_county 68 = .ok (.aload_n 0, 1) := by decide +kernel
theorem dX4_county_69 : decode cX4_county 69 = .ok (.getfield 25, 3) := by decide +kernel
theorem dX4_county_72 : decode cX4_county 72 = .ok (.iconst 0, 1) := by decide +kernel
theorem dX4_county_73 : decode cX4_county 73 = .ok (.iload_n 1, 1) := by decide +kernel
theorem dX4_county_74 : decode cX4_county 74 = .ok (.iadd, 1) := by decide +kernel
theorem dX4_county_75 : decode cX4_county 75 = .ok (.aload_n 0, 1) := by decide +kernel
theorem dX4_county_76 : decode cX4_county 76 = .ok (.getfield 16, 3) := by decide +kernel
theorem dX4_county_79 : decode cX4_county 79 = .ok (.iload_n 1, 1) := by decide +kernel
theorem dX4_county_80 : decode cX4_county 80 = .ok (.iaload, 1) := by decide +kernel
theorem dX4_county_81 : decode cX4_county 81 = .ok (.iastore, 1) := by decide +kernel
theorem dX4_county_82 : decode cX4_county 82 = .ok (.aload_n 0, 1) := by decide +kernel
theorem dX4_county_83 : decode cX4_county 83 = .ok (.getfield 25, 3) := by decide +kernel
theorem dX4_county_86 : decode cX4_county 86 = .ok (.bipush 7, 2) := by decide +kernel
theorem dX4_county_88 : decode cX4_county 88 = .ok (.iload_n 1, 1) := by decide +kernel
theorem dX4_county_89 : decode cX4_county 89 = .ok (.iadd, 1) := by decide +kernel
theorem dX4_county_90 : decode cX4_county 90 = .ok (.aload_n 0, 1) := by decide +kernel
theorem dX4_county_91 : decode cX4_county 91 = .ok (.getfield 22, 3) := by decide +kernel
theorem dX4_county_94 : decode cX4_county 94 = .ok (.iload_n 1, 1) := by decide +kernel
theorem dX4_county_95 : decode cX4_county 95 = .ok (.iaload, 1) := by decide +kernel
theorem dX4_county_96 : decode cX4_county 96 = .ok (.iastore, 1) := by decide +kernel
theorem dX4_county_97 : decode cX4_county 97 = .ok (.iinc 1 1, 3) := by decide +kernel
theorem dX4_county_100 : decode cX4_county 100 = .ok (.goto (-52), 3) := by decide +kernel
theorem dX4_county_103 : decode cX4_county 103 = .ok (.aload_n 0, 1) := by decide +kernel
theorem dX4_county_104 : decode cX4_county 104 = .ok (.getfield 25, 3) := by decide +kernel
theorem dX4_county_107 : decode cX4_county 107 = .ok (.bipush 14, 2) := by decide +kernel
theorem dX4_county_109 : decode cX4_county 109 = .ok (.iconst 1, 1) := by decide +kernel
theorem dX4_county_110 : decode cX4_county 110 = .ok (.aload_n 0, 1) := by decide +kernel
theorem dX4_county_111 : decode cX4_county 111 = .ok (.getfield 64, 3) := by decide +kernel
theorem dX4_county_114 : decode cX4_county 114 = .ok (.ishl, 1) := by decide +kernel
theorem dX4_county_115 : decode cX4_county 115 = .ok (.iconst 1, 1) := by decide +kernel
theorem dX4_county_116 : decode cX4_county 116 = .ok (.isub, 1) := by decide +kernel
theorem dX4_county_117 : decode cX4_county 117 = .ok (.iastore, 1) := by decide +kernel
theorem dX4_county_118 : decode cX4_county 118 = .ok (.aload_n 0, 1) := by decide +kernel
theorem dX4_county_119 : decode cX4_county 119 = .ok (.iconst 0, 1) := by decide +kernel
theorem dX4_county_120 : decode cX4_county 120 = .ok (.putfield 110, 3) := by decide +kernel
theorem dX4_county_123 : decode cX4_county 123 = .ok (.aload_n 0, 1) := by decide +kernel
theorem dX4_county_124 : decode cX4_county 124 = .ok (.getfield 37, 3) := by decide +kernel
theorem dX4_county_127 : decode cX4_county 127 = .ok (.iconst 0, 1) := by decide +kernel
theorem dX4_county_128 : decode cX4_county 128 = .ok (.iconst 0, 1) := by decide +kernel
theorem dX4_county_129 : decode cX4_county 129 = .ok (.bastore, 1) := by decide +kernel
theorem dX4_county_130 : decode cX4_county 130 = .ok (.aload_n 0, 1) := by decide +kernel
theorem dX4_county_131 : decode cX4_county 131 = .ok (.getfield 37, 3) := by decide +kernel
theorem dX4_county_134 : decode cX4_county 134 = .ok (.iconst 1, 1) := by decide +kernel
theorem dX4_county_135 : decode cX4_county 135 = .ok (.iconst 0, 1) := by decide +kernel
theorem dX4_county_136 : decode cX4_county 136 = .ok (.bastore, 1) := by decide +kernel
theorem dX4_county_137 : decode cX4_county 137 = .ok (.aload_n 0, 1) := by decide +kernel
theorem dX4_county_138 : decode cX4_county 138 = .ok (.getfield 64, 3) := by decide +kernel
theorem dX4_county_141 : decode cX4_county 141 = .ok (.ireturn, 1) := by decide +kernel
theorem dX4_gradeOf_0 : decode cX4_gradeOf 0 = .ok (.aload_n 0, 1) := by decide +kernel
theorem dX4_gradeOf_1 : decode cX4_gradeOf 1 = .ok (.getfield 13, 3) := by decide +kernel
theorem dX4_gradeOf_4 : decode cX4_gradeOf 4 = .ok (.iload_n 2, 1) := by decide +kernel
theorem dX4_gradeOf_5 : decode cX4_gradeOf 5 = .ok (.iaload, 1) := by decide +kernel
theorem dX4_gradeOf_6 : decode cX4_gradeOf 6 = .ok (.iconst 3, 1) := by decide +kernel
theorem dX4_gradeOf_7 : decode cX4_gradeOf 7 = .ok (.if_icmp .ne 7, 3) := by decide +kernel
theorem dX4_gradeOf_10 : decode cX4_gradeOf 10 = .ok (.iconst 0, 1) := by decide +kernel
theorem dX4_gradeOf_11 : decode cX4_gradeOf 11 = .ok (.goto 28, 3) := by decide +kernel
theorem dX4_gradeOf_14 : decode cX4_gradeOf 14 = .ok (.aload_n 0, 1) := by decide +kernel
theorem dX4_gradeOf_15 : decode cX4_gradeOf 15 = .ok (.getfield 13, 3) := by decide +kernel
theorem dX4_gradeOf_18 : decode cX4_gradeOf 18 = .ok (.iload_n 2, 1) := by decide +kernel
theorem dX4_gradeOf_19 : decode cX4_gradeOf 19 = .ok (.iaload, 1) := by decide +kernel
theorem dX4_gradeOf_20 : decode cX4_gradeOf 20 = .ok (.iconst 2, 1) := by decide +kernel
theorem dX4_gradeOf_21 : decode cX4_gradeOf 21 = .ok (.if_icmp .ne 13, 3) := by decide +kernel
theorem dX4_gradeOf_24 : decode cX4_gradeOf 24 = .ok (.aload_n 1, 1) := by decide +kernel
theorem dX4_gradeOf_25 : decode cX4_gradeOf 25 = .ok (.iconst 0, 1) := by decide +kernel
theorem dX4_gradeOf_26 : decode cX4_gradeOf 26 = .ok (.iload_n 2, 1) := by decide +kernel
theorem dX4_gradeOf_27 : decode cX4_gradeOf 27 = .ok (.iadd, 1) := by decide +kernel
theorem dX4_gradeOf_28 : decode cX4_gradeOf 28 = .ok (.iaload, 1) := by decide +kernel
theorem dX4_gradeOf_29 : decode cX4_gradeOf 29 = .ok (.iconst 2, 1) := by decide +kernel
theorem dX4_gradeOf_30 : decode cX4_gradeOf 30 = .ok (.iadd, 1) := by decide +kernel
theorem dX4_gradeOf_31 : decode cX4_gradeOf 31 = .ok (.goto 8, 3) := by decide +kernel
theorem dX4_gradeOf_34 : decode cX4_gradeOf 34 = .ok (.aload_n 1, 1) := by decide +kernel
theorem dX4_gradeOf_35 : decode cX4_gradeOf 35 = .ok (.iconst 0, 1) := by decide +kernel
theorem dX4_gradeOf_36 : decode cX4_gradeOf 36 = .ok (.iload_n 2, 1) := by decide +kernel
theorem dX4_gradeOf_37 : decode cX4_gradeOf 37 = .ok (.iadd, 1) := by decide +kernel
theorem dX4_gradeOf_38 : decode cX4_gradeOf 38 = .ok (.iaload, 1) := by decide +kernel
theorem dX4_gradeOf_39 : decode cX4_gradeOf 39 = .ok (.ireturn, 1) := by decide +kernel
set_option maxRecDepth 20000 in
theorem ggX4_isHidden_X4_has : GoodIn wsX4_isHidden wsX4_has := goodIn_r _ [6] (by decide +kernel) (by decide +kernel)
set_option maxRecDepth 20000 in
theorem gX4_isHidden_X4_has : GoodIn wsX4_isHidden (va_wsS RX4 89 yX4_has wsX4_has) := goodIn_app (goodIn_of _ (by decide +kernel)) ggX4_isHidden_X4_has
theorem dX4_isHidden_0 : decode cX4_isHidden 0 = .ok (.iconst 0, 1) := by decide +kernel
theorem dX4_isHidden_1 : decode cX4_isHidden 1 = .ok (.istore_n 3, 1) := by decide +kernel
theorem dX4_isHidden_2 : decode cX4_isHidden 2 = .ok (.iconst 0, 1) := by decide +kernel
theorem dX4_isHidden_3 : decode cX4_isHidden 3 = .ok (.istore 4, 2) := by decide +kernel
theorem dX4_isHidden_5 : decode cX4_isHidden 5 = .ok (.iload 4, 2) := by decide +kernel
theorem dX4_isHidden_7 : decode cX4_isHidden 7 = .ok (.aload_n 0, 1) := by decide +kernel
theorem dX4_isHidden_8 : decode cX4_isHidden 8 = .ok (.getfield 64, 3) := by decide +kernel
theorem dX4_isHidden_11 : decode cX4_isHidden 11 = .ok (.if_icmp .ge 51, 3) := by decide +kernel
theorem dX4_isHidden_14 : decode cX4_isHidden 14 = .ok (.iload_n 3, 1) := by decide +kernel
theorem dX4_isHidden_15 : decode cX4_isHidden 15 = .ok (.ifCond .ne 35, 3) := by decide +kernel
theorem dX4_isHidden_18 : decode cX4_isHidden 18 = .ok (.iload 4, 2) := by decide +kernel
theorem dX4_isHidden_20 : decode cX4_isHidden 20 = .ok (.iload_n 2, 1) := by decide +kernel
theorem dX4_isHidden_21 : decode cX4_isHidden 21 = .ok (.if_icmp .eq 33, 3) := by decide +kernel
theorem dX4_isHidden_24 : decode cX4_isHidden 24 = .ok (.aload_n 1, 1) := by decide +kernel
theorem dX4_isHidden_25 : decode cX4_isHidden 25 = .ok (.bipush 14, 2) := by decide +kernel
theorem dX4_isHidden_27 : decode cX4_isHidden 27 = .ok (.iaload, 1) := by decide +kernel
theorem dX4_isHidden_28 : decode cX4_isHidden 28 = .ok (.iload 4, 2) := by decide +kernel
theorem dX4_isHidden_30 : decode cX4_isHidden 30 = .ok (.invokestatic 89, 3) := by decide +kernel
theorem dX4_isHidden_33 : decode cX4_isHidden 33 = .ok (.ifCond .eq 21, 3) := by decide +kernel
theorem dX4_isHidden_36 : decode cX4_isHidden 36 = .ok (.aload_n 1, 1) := by decide +kernel
theorem dX4_isHidden_37 : decode cX4_isHidden 37 = .ok (.bipush 7, 2) := by decide +kernel
theorem dX4_isHidden_39 : decode cX4_isHidden 39 = .ok (.iload 4, 2) := by decide +kernel
theorem dX4_isHidden_41 : decode cX4_isHidden 41 = .ok (.iadd, 1) := by decide +kernel
theorem dX4_isHidden_42 : decode cX4_isHidden 42 = .ok (.iaload, 1) := by decide +kernel
theorem dX4_isHidden_43 : decode cX4_isHidden 43 = .ok (.iload_n 2, 1) := by decide +kernel
theorem dX4_isHidden_44 : decode cX4_isHidden 44 = .ok (.invokestatic 89, 3) := by decide +kernel
theorem dX4_isHidden_47 : decode cX4_isHidden 47 = .ok (.ifCond .eq 7, 3) := by decide +kernel
theorem dX4_isHidden_50 : decode cX4_isHidden 50 = .ok (.iconst 1, 1) := by decide +kernel
theorem dX4_isHidden_51 : decode cX4_isHidden 51 = .ok (.goto 4, 3) := by decide +kernel
theorem dX4_isHidden_54 : decode cX4_isHidden 54 = .ok (.iconst 0, 1) := by decide +kernel
theorem dX4_isHidden_55 : decode cX4_isHidden 55 = .ok (.istore_n 3, 1) := by decide +kernel
theorem dX4_isHidden_56 : decode cX4_isHidden 56 = .ok (.iinc 4 1, 3) := by decide +kernel
theorem dX4_isHidden_59 : decode cX4_isHidden 59 = .ok (.goto (-54), 3) := by decide +kernel
theorem dX4_isHidden_62 : decode cX4_isHidden 62 = .ok (.iload_n 3, 1) := by decide +kernel
theorem dX4_isHidden_63 : decode cX4_isHidden 63 = .ok (.ifCond .eq 17, 3) := by decide +kernel
theorem dX4_isHidden_66 : decode cX4_isHidden 66 = .ok (.aload_n 0, 1) := by decide +kernel
theorem dX4_isHidden_67 : decode cX4_isHidden 67 = .ok (.getfield 13, 3) := by decide +kernel
theorem dX4_isHidden_70 : decode cX4_isHidden 70 = .ok (.iload_n 2, 1) := by decide +kernel
theorem dX4_isHidden_71 : decode cX4_isHidden 71 = .ok (.iaload, 1) := by decide +kernel
theorem dX4_isHidden_72 : decode cX4_isHidden 72 = .ok (.iconst 1, 1) := by decide +kernel
theorem dX4_isHidden_73 : decode cX4_isHidden 73 = .ok (.if_icmp .eq 7, 3) := by decide +kernel
theorem dX4_isHidden_76 : decode cX4_isHidden 76 = .ok (.iconst 1, 1) := by decide +kernel
theorem dX4_isHidden_77 : decode cX4_isHidden 77 = .ok (.goto 4, 3) := by decide +kernel
theorem dX4_isHidden_80 : decode cX4_isHidden 80 = .ok (.iconst 0, 1) := by decide +kernel
theorem dX4_isHidden_81 : decode cX4_isHidden 81 = .ok (.ireturn, 1) := by decide +kernel
set_option maxRecDepth 20000 in
theorem ggX4_mayOf_X4_has : GoodIn wsX4_mayOf wsX4_has := goodIn_r _ [5] (by decide +kernel) (by decide +kernel)
set_option maxRecDepth 20000 in
theorem gX4_mayOf_X4_has : GoodIn wsX4_mayOf (va_wsS RX4 89 yX4_has wsX4_has) := goodIn_app (goodIn_of _ (by decide +kernel)) ggX4_mayOf_X4_has
set_option maxRecDepth 20000 in
theorem ggX4_mayOf_X4_gradeOf : GoodIn wsX4_mayOf wsX4_gradeOf := goodIn_r _ [9, 10, 15, 16, 17, 18, 19, 20, 21, 22, 23, 24, 25, 26, 27, 28, 29, 30, 31, 32, 33, 34, 35, 36, 37, 38, 39, 40, 41, 42, 43] (by decide +kernel) (by decide +kernel)
set_option maxRecDepth 20000 in
theorem gX4_mayOf_X4_gradeOf : GoodIn wsX4_mayOf (wsV RX4 113 RX4 yX4_gradeOf wsX4_gradeOf) := goodIn_app (goodIn_of _ (by decide +kernel)) ggX4_mayOf_X4_gradeOf
set_option maxRecDepth 20000 in
theorem ggX4_mayOf_X4_isHidden : GoodIn wsX4_mayOf wsX4_isHidden := goodIn_r _ [14, 1, 10, 2, 3, 4, 5, 15, 16, 17, 18, 19, 20, 21, 22, 23, 24, 25, 26, 27, 28, 29, 30, 31, 32, 33, 34, 35, 36, 37, 38, 39, 40, 41, 42, 43] (by decide +kernel) (by decide +kernel)
set_option maxRecDepth 20000 in
theorem gX4_mayOf_X4_isHidden : GoodIn wsX4_mayOf (wsV RX4 117 RX4 yX4_isHidden wsX4_isHidden) := goodIn_app (goodIn_of _ (by decide +kernel)) ggX4_mayOf_X4_isHidden
theorem dX4_mayOf_0 : decode cX4_mayOf 0 = .ok (.iconst 0, 1) := by decide +kernel
theorem dX4_mayOf_1 : decode cX4_mayOf 1 = .ok (.istore_n 2, 1) := by decide +kernel
theorem dX4_mayOf_2 : decode cX4_mayOf 2 = .ok (.iconst 0, 1) := by decide +kernel
theorem dX4_mayOf_3 : decode cX4_mayOf 3 = .ok (.istore_n 3, 1) := by decide +kernel
theorem dX4_mayOf_4 : decode cX4_mayOf 4 = .ok (.iload_n 3, 1) := by decide +kernel
theorem dX4_mayOf_5 : decode cX4_mayOf 5 = .ok (.aload_n 0, 1) := by decide +kernel
theorem dX4_mayOf_6 : decode cX4_mayOf 6 = .ok (.getfield 64, 3) := by decide +kernel
theorem dX4_mayOf_9 : decode cX4_mayOf 9 = .ok (.if_icmp .ge 41, 3) := by decide +kernel
theorem dX4_mayOf_12 : decode cX4_mayOf 12 = .ok (.aload_n 1, 1) := by decide +kernel
theorem dX4_mayOf_13 : decode cX4_mayOf 13 = .ok (.bipush 14, 2) := by decide +kernel
theorem dX4_mayOf_15 : decode cX4_mayOf 15 = .ok (.iaload, 1) := by decide +kernel
theorem dX4_mayOf_16 : decode cX4_mayOf 16 = .ok (.iload_n 3, 1) := by decide +kernel
theorem dX4_mayOf_17 : decode cX4_mayOf 17 = .ok (.invokestatic 89, 3) := by decide +kernel
theorem dX4_mayOf_20 : decode cX4_mayOf 20 = .ok (.ifCond .eq 22, 3) := by decide +kernel
theorem dX4_mayOf_23 : decode cX4_mayOf 23 = .ok (.aload_n 0, 1) := by decide +kernel
theorem dX4_mayOf_24 : decode cX4_mayOf 24 = .ok (.aload_n 1, 1) := by decide +kernel
theorem dX4_mayOf_25 : decode cX4_mayOf 25 = .ok (.iload_n 3, 1) := by decide +kernel
theorem dX4_mayOf_26 : decode cX4_mayOf 26 = .ok (.invokevirtual 113, 3) := by decide +kernel
theorem dX4_mayOf_29 : decode cX4_mayOf 29 = .ok (.iload_n 2, 1) := by decide +kernel
theorem dX4_mayOf_30 : decode cX4_mayOf 30 = .ok (.if_icmp .le 12, 3) := by decide +kernel
theorem dX4_mayOf_33 : decode cX4_mayOf 33 = .ok (.aload_n 0, 1) := by decide +kernel
theorem dX4_mayOf_34 : decode cX4_mayOf 34 = .ok (.aload_n 1, 1) := by decide +kernel
theorem dX4_mayOf_35 : decode cX4_mayOf 35 = .ok (.iload_n 3, 1) := by decide +kernel
theorem dX4_mayOf_36 : decode cX4_mayOf 36 = .ok (.invokevirtual 113, 3) := by decide +kernel
theorem dX4_mayOf_39 : decode cX4_mayOf 39 = .ok (.goto 4, 3) := by decide +kernel
theorem dX4_mayOf_42 : decode cX4_mayOf 42 = .ok (.iload_n 2, 1) := by decide +kernel
theorem dX4_mayOf_43 : decode cX4_mayOf 43 = .ok (.istore_n 2, 1) := by decide +kernel
theorem dX4_mayOf_44 : decode cX4_mayOf 44 = .ok (.iinc 3 1, 3) := by decide +kernel
theorem dX4_mayOf_47 : decode cX4_mayOf 47 = .ok (.goto (-43), 3) := by decide +kernel
theorem dX4_mayOf_50 : decode cX4_mayOf 50 = .ok (.iconst 0, 1) := by decide +kernel
theorem dX4_mayOf_51 : decode cX4_mayOf 51 = .ok (.istore_n 3, 1) := by decide +kernel
theorem dX4_mayOf_52 : decode cX4_mayOf 52 = .ok (.iconst 0, 1) := by decide +kernel
theorem dX4_mayOf_53 : decode cX4_mayOf 53 = .ok (.istore 4, 2) := by decide +kernel
theorem dX4_mayOf_55 : decode cX4_mayOf 55 = .ok (.iload 4, 2) := by decide +kernel
theorem dX4_mayOf_57 : decode cX4_mayOf 57 = .ok (.aload_n 0, 1) := by decide +kernel
theorem dX4_mayOf_58 : decode cX4_mayOf 58 = .ok (.getfield 64, 3) := by decide +kernel
theorem dX4_mayOf_61 : decode cX4_mayOf 61 = .ok (.if_icmp .ge 53, 3) := by decide +kernel
theorem dX4_mayOf_64 : decode cX4_mayOf 64 = .ok (.iload_n 3, 1) := by decide +kernel
theorem dX4_mayOf_65 : decode cX4_mayOf 65 = .ok (.aload_n 1, 1) := by decide +kernel
theorem dX4_mayOf_66 : decode cX4_mayOf 66 = .ok (.bipush 14, 2) := by decide +kernel
theorem dX4_mayOf_68 : decode cX4_mayOf 68 = .ok (.iaload, 1) := by decide +kernel
theorem dX4_mayOf_69 : decode cX4_mayOf 69 = .ok (.iload 4, 2) := by decide +kernel
theorem dX4_mayOf_71 : decode cX4_mayOf 71 = .ok (.invokestatic 89, 3) := by decide +kernel
theorem dX4_mayOf_74 : decode cX4_mayOf 74 = .ok (.ifCond .eq 31, 3) := by decide +kernel
theorem dX4_mayOf_77 : decode cX4_mayOf 77 = .ok (.aload_n 0, 1) := by decide +kernel
theorem dX4_mayOf_78 : decode cX4_mayOf 78 = .ok (.aload_n 1, 1) := by decide +kernel
theorem dX4_mayOf_79 : decode cX4_mayOf 79 = .ok (.iload 4, 2) := by decide +kernel
theorem dX4_mayOf_81 : decode cX4_mayOf 81 = .ok (.invokevirtual 113, 3) := by decide +kernel
theorem dX4_mayOf_84 : decode cX4_mayOf 84 = .ok (.iload_n 2, 1) := by decide +kernel
theorem dX4_mayOf_85 : decode cX4_mayOf 85 = .ok (.if_icmp .ne 20, 3) := by decide +kernel
theorem dX4_mayOf_88 : decode cX4_mayOf 88 = .ok (.aload_n 0, 1) := by decide +kernel
theorem dX4_mayOf_89 : decode cX4_mayOf 89 = .ok (.aload_n 1, 1) := by decide +kernel
theorem dX4_mayOf_90 : decode cX4_mayOf 90 = .ok (.iload 4, 2) := by decide +kernel
theorem dX4_mayOf_92 : decode cX4_mayOf 92 = .ok (.invokevirtual 117, 3) := by decide +kernel
theorem dX4_mayOf_95 : decode cX4_mayOf 95 = .ok (.ifCond .ne 10, 3) := by decide +kernel
theorem dX4_mayOf_98 : decode cX4_mayOf 98 = .ok (.iconst 1, 1) := by decide +kernel
theorem dX4_mayOf_99 : decode cX4_mayOf 99 = .ok (.iload 4, 2) := by decide +kernel
theorem dX4_mayOf_101 : decode cX4_mayOf 101 = .ok (.ishl, 1) := by decide +kernel
theorem dX4_mayOf_102 : decode cX4_mayOf 102 = .ok (.goto 4, 3) := by decide +kernel
theorem dX4_mayOf_105 : decode cX4_mayOf 105 = .ok (.iconst 0, 1) := by decide +kernel
theorem dX4_mayOf_106 : decode cX4_mayOf 106 = .ok (.ior, 1) := by decide +kernel
theorem dX4_mayOf_107 : decode cX4_mayOf 107 = .ok (.istore_n 3, 1) := by decide +kernel
theorem dX4_mayOf_108 : decode cX4_mayOf 108 = .ok (.iinc 4 1, 3) := by decide +kernel
theorem dX4_mayOf_111 : decode cX4_mayOf 111 = .ok (.goto (-56), 3) := by decide +kernel
theorem dX4_mayOf_114 : decode cX4_mayOf 114 = .ok (.iload_n 3, 1) := by decide +kernel
theorem dX4_mayOf_115 : decode cX4_mayOf 115 = .ok (.ireturn, 1) := by decide +kernel
set_option maxRecDepth 20000 in
theorem ggX4_least_X4_has : GoodIn wsX4_least wsX4_has := goodIn_r _ [4] (by decide +kernel) (by decide +kernel)
set_option maxRecDepth 20000 in
theorem gX4_least_X4_has : GoodIn wsX4_least (va_wsS RX4 89 yX4_has wsX4_has) := goodIn_app (goodIn_of _ (by decide +kernel)) ggX4_least_X4_has
theorem dX4_least_0 : decode cX4_least 0 = .ok (.iconst 0, 1) := by decide +kernel
theorem dX4_least_1 : decode cX4_least 1 = .ok (.istore_n 1, 1) := by decide +kernel
theorem dX4_least_2 : decode cX4_least 2 = .ok (.iload_n 0, 1) := by decide +kernel
theorem dX4_least_3 : decode cX4_least 3 = .ok (.iload_n 1, 1) := by decide +kernel
theorem dX4_least_4 : decode cX4_least 4 = .ok (.invokestatic 89, 3) := by decide +kernel
theorem dX4_least_7 : decode cX4_least 7 = .ok (.ifCond .ne 9, 3) := by decide +kernel
theorem dX4_least_10 : decode cX4_least 10 = .ok (.iinc 1 1, 3) := by decide +kernel
theorem dX4_least_13 : decode cX4_least 13 = .ok (.goto (-11), 3) := by decide +kernel
theorem dX4_least_16 : decode cX4_least 16 = .ok (.iload_n 1, 1) := by decide +kernel
theorem dX4_least_17 : decode cX4_least 17 = .ok (.ireturn, 1) := by decide +kernel
theorem dX4_begin_0 : decode cX4_begin 0 = .ok (.iconst 0, 1) := by decide +kernel
theorem dX4_begin_1 : decode cX4_begin 1 = .ok (.istore_n 1, 1) := by decide +kernel
theorem dX4_begin_2 : decode cX4_begin 2 = .ok (.iload_n 1, 1) := by decide +kernel
theorem dX4_begin_3 : decode cX4_begin 3 = .ok (.bipush 17, 2) := by decide +kernel
theorem dX4_begin_5 : decode cX4_begin 5 = .ok (.if_icmp .ge 21, 3) := by decide +kernel
theorem dX4_begin_8 : decode cX4_begin 8 = .ok (.aload_n 0, 1) := by decide +kernel
theorem dX4_begin_9 : decode cX4_begin 9 = .ok (.getfield 28, 3) := by decide +kernel
theorem dX4_begin_12 : decode cX4_begin 12 = .ok (.iload_n 1, 1) := by decide +kernel
theorem dX4_begin_13 : decode cX4_begin 13 = .ok (.aload_n 0, 1) := by decide +kernel
theorem dX4_begin_14 : decode cX4_begin 14 = .ok (.getfield 25, 3) := by decide +kernel
theorem dX4_begin_17 : decode cX4_begin 17 = .ok (.iload_n 1, 1) := by decide +kernel
theorem dX4_begin_18 : decode cX4_begin 18 = .ok (.iaload, 1) := by decide +kernel
theorem dX4_begin_19 : decode cX4_begin 19 = .ok (.iastore, 1) := by decide +kernel
theorem dX4_begin_20 : decode cX4_begin 20 = .ok (.iinc 1 1, 3) := by decide +kernel
theorem dX4_begin_23 : decode cX4_begin 23 = .ok (.goto (-21), 3) := by decide +kernel
theorem dX4_begin_26 : decode cX4_begin 26 = .ok (.return_, 1) := by decide +kernel
set_option maxRecDepth 20000 in
theorem ggX4_layFall_X4_mayOf : GoodIn wsX4_layFall wsX4_mayOf := goodIn_r _ [8, 9, 10, 11, 7, 12, 13, 14, 15, 16, 17, 18, 19, 20, 21, 25, 26, 27, 28, 29, 30, 31, 32, 33, 34, 35, 36, 37, 38, 39, 40, 41, 42, 43, 44, 45, 46, 47, 48, 49, 50, 51, 52, 53] (by decide +kernel) (by decide +kernel)
set_option maxRecDepth 20000 in
theorem gX4_layFall_X4_mayOf : GoodIn wsX4_layFall (wsV RX4 124 RX4 yX4_mayOf wsX4_mayOf) := goodIn_app (goodIn_of _ (by decide +kernel)) ggX4_layFall_X4_mayOf
set_option maxRecDepth 20000 in
theorem ggX4_layFall_X4_least : GoodIn wsX4_layFall wsX4_least := goodIn_r _ [24, 10, 11, 7, 12] (by decide +kernel) (by decide +kernel)
set_option maxRecDepth 20000 in
theorem gX4_layFall_X4_least : GoodIn wsX4_layFall (va_wsS RX4 128 yX4_least wsX4_least) := goodIn_app (goodIn_of _ (by decide +kernel)) ggX4_layFall_X4_least
theorem dX4_layFall_0 : decode cX4_layFall 0 = .ok (.aload_n 0, 1) := by decide +kernel
theorem dX4_layFall_1 : decode cX4_layFall 1 = .ok (.iconst 0, 1) := by decide +kernel
theorem dX4_layFall_2 : decode cX4_layFall 2 = .ok (.putfield 121, 3) := by decide +kernel
theorem dX4_layFall_5 : decode cX4_layFall 5 = .ok (.aload_n 0, 1) := by decide +kernel
theorem dX4_layFall_6 : decode cX4_layFall 6 = .ok (.aload_n 0, 1) := by decide +kernel
theorem dX4_layFall_7 : decode cX4_layFall 7 = .ok (.getfield 28, 3) := by decide +kernel
theorem dX4_layFall_10 : decode cX4_layFall 10 = .ok (.invokevirtual 124, 3) := by decide +kernel
theorem dX4_layFall_13 : decode cX4_layFall 13 = .ok (.istore_n 1, 1) := by decide +kernel
theorem dX4_layFall_14 : decode cX4_layFall 14 = .ok (.iload_n 1, 1) := by decide +kernel
theorem dX4_layFall_15 : decode cX4_layFall 15 = .ok (.ifCond .eq 61, 3) := by decide +kernel
theorem dX4_layFall_18 : decode cX4_layFall 18 = .ok (.aload_n 0, 1) := by decide +kernel
theorem dX4_layFall_19 : decode cX4_layFall 19 = .ok (.getfield 47, 3) := by decide +kernel
theorem dX4_layFall_22 : decode cX4_layFall 22 = .ok (.aload_n 0, 1) := by decide +kernel
theorem dX4_layFall_23 : decode cX4_layFall 23 = .ok (.getfield 121, 3) := by decide +kernel
theorem dX4_layFall_26 : decode cX4_layFall 26 = .ok (.iload_n 1, 1) := by decide +kernel
theorem dX4_layFall_27 : decode cX4_layFall 27 = .ok (.invokestatic 128, 3) := by decide +kernel
theorem dX4_layFall_30 : decode cX4_layFall 30 = .ok (.iastore, 1) := by decide +kernel
theorem dX4_layFall_31 : decode cX4_layFall 31 = .ok (.aload_n 0, 1) := by decide +kernel
theorem dX4_layFall_32 : decode cX4_layFall 32 = .ok (.getfield 28, 3) := by decide +kernel
theorem dX4_layFall_35 : decode cX4_layFall 35 = .ok (.bipush 14, 2) := by decide +kernel
theorem dX4_layFall_37 : decode cX4_layFall 37 = .ok (.dup2, 1) := by decide +kernel
theorem dX4_layFall_38 : decode cX4_layFall 38 = .ok (.iaload, 1) := by decide +kernel
theorem dX4_layFall_39 : decode cX4_layFall 39 = .ok (.iconst 1, 1) := by decide +kernel
theorem dX4_layFall_40 : decode cX4_layFall 40 = .ok (.aload_n 0, 1) := by decide +kernel
theorem dX4_layFall_41 : decode cX4_layFall 41 = .ok (.getfield 47, 3) := by decide +kernel
theorem dX4_layFall_44 : decode cX4_layFall 44 = .ok (.aload_n 0, 1) := by decide +kernel
theorem dX4_layFall_45 : decode cX4_layFall 45 = .ok (.getfield 121, 3) := by decide +kernel
theorem dX4_layFall_48 : decode cX4_layFall 48 = .ok (.iaload, 1) := by decide +kernel
theorem dX4_layFall_49 : decode cX4_layFall 49 = .ok (.ishl, 1) := by decide +kernel
theorem dX4_layFall_50 : decode cX4_layFall 50 = .ok (.iconst (-1), 1) := by decide +kernel
theorem dX4_layFall_51 : decode cX4_layFall 51 = .ok (.ixor, 1) := by decide +kernel
theorem dX4_layFall_52 : decode cX4_layFall 52 = .ok (.iand, 1) := by decide +kernel
theorem dX4_layFall_53 : decode cX4_layFall 53 = .ok (.iastore, 1) := by decide +kernel
theorem dX4_layFall_54 : decode cX4_layFall 54 = .ok (.aload_n 0, 1) := by decide +kernel
theorem dX4_layFall_55 : decode cX4_layFall 55 = .ok (.dup, 1) := by decide +kernel
theorem dX4_layFall_56 : decode cX4_layFall 56 = .ok (.getfield 121, 3) := by decide +kernel
theorem dX4_layFall_59 : decode cX4_layFall 59 = .ok (.iconst 1, 1) := by decide +kernel
theorem dX4_layFall_60 : decode cX4_layFall 60 = .ok (.iadd, 1) := by decide +kernel
theorem dX4_layFall_61 : decode cX4_layFall 61 = .ok (.putfield 121, 3) := by decide +kernel
theorem dX4_layFall_64 : decode cX4_layFall 64 = .ok (.aload_n 0, 1) := by decide +kernel
theorem dX4_layFall_65 : decode cX4_layFall 65 = .ok (.aload_n 0, 1) := by decide +kernel
theorem dX4_layFall_66 : decode cX4_layFall 66 = .ok (.getfield 28, 3) := by decide +kernel
theorem dX4_layFall_69 : decode cX4_layFall 69 = .ok (.invokevirtual 124, 3) := by decide +kernel
theorem dX4_layFall_72 : decode cX4_layFall 72 = .ok (.istore_n 1, 1) := by decide +kernel
theorem dX4_layFall_73 : decode cX4_layFall 73 = .ok (.goto (-59), 3) := by decide +kernel
theorem dX4_layFall_76 : decode cX4_layFall 76 = .ok (.return_, 1) := by decide +kernel
theorem dX4_placeOf_0 : decode cX4_placeOf 0 = .ok (.bipush (-9), 2) := by decide +kernel
theorem dX4_placeOf_2 : decode cX4_placeOf 2 = .ok (.istore_n 2, 1) := by decide +kernel
theorem dX4_placeOf_3 : decode cX4_placeOf 3 = .ok (.iconst 0, 1) := by decide +kernel
theorem dX4_placeOf_4 : decode cX4_placeOf 4 = .ok (.istore_n 3, 1) := by decide +kernel
theorem dX4_placeOf_5 : decode cX4_placeOf 5 = .ok (.iload_n 3, 1) := by decide +kernel
theorem dX4_placeOf_6 : decode cX4_placeOf 6 = .ok (.aload_n 0, 1) := by decide +kernel
theorem dX4_placeOf_7 : decode cX4_placeOf 7 = .ok (.getfield 121, 3) := by decide +kernel
theorem dX4_placeOf_10 : decode cX4_placeOf 10 = .ok (.if_icmp .ge 25, 3) := by decide +kernel
theorem dX4_placeOf_13 : decode cX4_placeOf 13 = .ok (.aload_n 0, 1) := by decide +kernel
theorem dX4_placeOf_14 : decode cX4_placeOf 14 = .ok (.getfield 47, 3) := by decide +kernel
theorem dX4_placeOf_17 : decode cX4_placeOf 17 = .ok (.iload_n 3, 1) := by decide +kernel
theorem dX4_placeOf_18 : decode cX4_placeOf 18 = .ok (.iaload, 1) := by decide +kernel
theorem dX4_placeOf_19 : decode cX4_placeOf 19 = .ok (.iload_n 1, 1) := by decide +kernel
theorem dX4_placeOf_20 : decode cX4_placeOf 20 = .ok (.if_icmp .ne 7, 3) := by decide +kernel
theorem dX4_placeOf_23 : decode cX4_placeOf 23 = .ok (.iload_n 3, 1) := by decide +kernel
theorem dX4_placeOf_24 : decode cX4_placeOf 24 = .ok (.goto 4, 3) := by decide +kernel
theorem dX4_placeOf_27 : decode cX4_placeOf 27 = .ok (.iload_n 2, 1) := by decide +kernel
theorem dX4_placeOf_28 : decode cX4_placeOf 28 = .ok (.istore_n 2, 1) := by decide +kernel
theorem dX4_placeOf_29 : decode cX4_placeOf 29 = .ok (.iinc 3 1, 3) := by decide +kernel
theorem dX4_placeOf_32 : decode cX4_placeOf 32 = .ok (.goto (-27), 3) := by decide +kernel
theorem dX4_placeOf_35 : decode cX4_placeOf 35 = .ok (.iload_n 2, 1) := by decide +kernel
theorem dX4_placeOf_36 : decode cX4_placeOf 36 = .ok (.ireturn, 1) := by decide +kernel
set_option maxRecDepth 20000 in
theorem ggX4_about_X4_isHidden : GoodIn wsX4_about wsX4_isHidden := goodIn_r _ [11, 2, 12, 13, 14, 10, 15, 24, 25, 26, 27, 28, 29, 30, 31, 32, 33, 34, 35, 36, 37, 38, 39, 40, 41, 42, 43, 44, 45, 46, 47, 48, 49, 50, 51, 52] (by decide +kernel) (by decide +kernel)
set_option maxRecDepth 20000 in
theorem gX4_about_X4_isHidden : GoodIn wsX4_about (wsV RX4 117 RX4 yX4_isHidden wsX4_isHidden) := goodIn_app (goodIn_of _ (by decide +kernel)) ggX4_about_X4_isHidden
set_option maxRecDepth 20000 in
theorem ggX4_about_X4_mayOf : GoodIn wsX4_about wsX4_mayOf := goodIn_r _ [19, 2, 13, 14, 10, 15, 20, 21, 22, 23, 12, 7, 8, 9, 11, 24, 25, 26, 27, 28, 29, 30, 31, 32, 33, 34, 35, 36, 37, 38, 39, 40, 41, 42, 43, 44, 45, 46, 47, 48, 49, 50, 51, 52] (by decide +kernel) (by decide +kernel)
set_option maxRecDepth 20000 in
theorem gX4_about_X4_mayOf : GoodIn wsX4_about (wsV RX4 124 RX4 yX4_mayOf wsX4_mayOf) := goodIn_app (goodIn_of _ (by decide +kernel)) ggX4_about_X4_mayOf
theorem dX4_about_0 : decode cX4_about 0 = .ok (.aload_n 0, 1) := by decide +kernel
theorem dX4_about_1 : decode cX4_about 1 = .ok (.iconst 0, 1) := by decide +kernel
theorem dX4_about_2 : decode cX4_about 2 = .ok (.putfield 60, 3) := by decide +kernel
theorem dX4_about_5 : decode cX4_about 5 = .ok (.iconst 0, 1) := by decide +kernel
theorem dX4_about_6 : decode cX4_about 6 = .ok (.istore_n 2, 1) := by decide +kernel
theorem dX4_about_7 : decode cX4_about 7 = .ok (.iconst 0, 1) := by decide +kernel
theorem dX4_about_8 : decode cX4_about 8 = .ok (.istore_n 3, 1) := by decide +kernel
theorem dX4_about_9 : decode cX4_about 9 = .ok (.iload_n 3, 1) := by decide +kernel
theorem dX4_about_10 : decode cX4_about 10 = .ok (.aload_n 0, 1) := by decide +kernel
theorem dX4_about_11 : decode cX4_about 11 = .ok (.getfield 64, 3) := by decide +kernel
theorem dX4_about_14 : decode cX4_about 14 = .ok (.if_icmp .ge 31, 3) := by decide +kernel
theorem dX4_about_17 : decode cX4_about 17 = .ok (.iload_n 2, 1) := by decide +kernel
theorem dX4_about_18 : decode cX4_about 18 = .ok (.aload_n 0, 1) := by decide +kernel
theorem dX4_about_19 : decode cX4_about 19 = .ok (.aload_n 0, 1) := by decide +kernel
theorem dX4_about_20 : decode cX4_about 20 = .ok (.getfield 25, 3) := by decide +kernel
theorem dX4_about_23 : decode cX4_about 23 = .ok (.iload_n 3, 1) := by decide +kernel
theorem dX4_about_24 : decode cX4_about 24 = .ok (.invokevirtual 117, 3) := by decide +kernel
theorem dX4_about_27 : decode cX4_about 27 = .ok (.ifCond .eq 9, 3) := by decide +kernel
theorem dX4_about_30 : decode cX4_about 30 = .ok (.iconst 1, 1) := by decide +kernel
theorem dX4_about_31 : decode cX4_about 31 = .ok (.iload_n 3, 1) := by decide +kernel
theorem dX4_about_32 : decode cX4_about 32 = .ok (.ishl, 1) := by decide +kernel
theorem dX4_about_33 : decode cX4_about 33 = .ok (.goto 4, 3) := by decide +kernel
theorem dX4_about_36 : decode cX4_about 36 = .ok (.iconst 0, 1) := by decide +kernel
theorem dX4_about_37 : decode cX4_about 37 = .ok (.ior, 1) := by decide +kernel
theorem dX4_about_38 : decode cX4_about 38 = .ok (.istore_n 2, 1) := by decide +kernel
theorem dX4_about_39 : decode cX4_about 39 = .ok (.iinc 3 1, 3) := by decide +kernel
theorem dX4_about_42 : decode cX4_about 42 = .ok (.goto (-33), 3) := by decide +kernel
theorem dX4_about_45 : decode cX4_about 45 = .ok (.iload_n 1, 1) := by decide +kernel
theorem dX4_about_46 : decode cX4_about 46 = .ok (.tableswitch 105 0 8 #[50, 55, 63, 72, 74, 82, 90, 95, 100], 50) := by decide +kernel
theorem dX4_about_96 : decode cX4_about 96 = .ok (.aload_n 0, 1) := by decide +kernel
theorem dX4_about_97 : decode cX4_about 97 = .ok (.getfield 64, 3) := by decide +kernel
theorem dX4_about_100 : decode cX4_about 100 = .ok (.ireturn, 1) := by decide +kernel
theorem dX4_about_101 : decode cX4_about 101 = .ok (.aload_n 0, 1) := by decide +kernel
theorem dX4_about_102 : decode cX4_about 102 = .ok (.getfield 25, 3) := by decide +kernel
theorem dX4_about_105 : decode cX4_about 105 = .ok (.bipush 14, 2) := by decide +kernel
theorem dX4_about_107 : decode cX4_about 107 = .ok (.iaload, 1) := by decide +kernel
theorem dX4_about_108 : decode cX4_about 108 = .ok (.ireturn, 1) := by decide +kernel
theorem dX4_about_109 : decode cX4_about 109 = .ok (.aload_n 0, 1) := by decide +kernel
theorem dX4_about_110 : decode cX4_about 110 = .ok (.aload_n 0, 1) := by decide +kernel
theorem dX4_about_111 : decode cX4_about 111 = .ok (.getfield 25, 3) := by decide +kernel
theorem dX4_about_114 : decode cX4_about 114 = .ok (.invokevirtual 124, 3) := by decide +kernel
theorem dX4_about_117 : decode cX4_about 117 = .ok (.ireturn, 1) := by decide +kernel
theorem dX4_about_118 : decode cX4_about 118 = .ok (.iload_n 2, 1) := by decide +kernel
theorem dX4_about_119 : decode cX4_about 119 = .ok (.ireturn, 1) := by decide +kernel
theorem dX4_about_120 : decode cX4_about 120 = .ok (.aload_n 0, 1) := by decide +kernel
theorem dX4_about_121 : decode cX4_about 121 = .ok (.getfield 25, 3) := by decide +kernel
theorem dX4_about_124 : decode cX4_about 124 = .ok (.bipush 15, 2) := by decide +kernel
theorem dX4_about_126 : decode cX4_about 126 = .ok (.iaload, 1) := by decide +kernel
theorem dX4_about_127 : decode cX4_about 127 = .ok (.ireturn, 1) := by decide +kernel
theorem dX4_about_128 : decode cX4_about 128 = .ok (.aload_n 0, 1) := by decide +kernel
theorem dX4_about_129 : decode cX4_about 129 = .ok (.getfield 25, 3) := by decide +kernel
theorem dX4_about_132 : decode cX4_about 132 = .ok (.bipush 16, 2) := by decide +kernel
theorem dX4_about_134 : decode cX4_about 134 = .ok (.iaload, 1) := by decide +kernel
theorem dX4_about_135 : decode cX4_about 135 = .ok (.ireturn, 1) := by decide +kernel
theorem dX4_about_136 : decode cX4_about 136 = .ok (.aload_n 0, 1) := by decide +kernel
theorem dX4_about_137 : decode cX4_about 137 = .ok (.getfield 110, 3) := by decide +kernel
theorem dX4_about_140 : decode cX4_about 140 = .ok (.ireturn, 1) := by decide +kernel
theorem dX4_about_141 : decode cX4_about 141 = .ok (.aload_n 0, 1) := by decide +kernel
theorem dX4_about_142 : decode cX4_about 142 = .ok (.getfield 131, 3) := by decide +kernel
theorem dX4_about_145 : decode cX4_about 145 = .ok (.ireturn, 1) := by decide +kernel
theorem dX4_about_146 : decode cX4_about 146 = .ok (.aload_n 0, 1) := by decide +kernel
theorem dX4_about_147 : decode cX4_about 147 = .ok (.getfield 73, 3) := by decide +kernel
theorem dX4_about_150 : decode cX4_about 150 = .ok (.ireturn, 1) := by decide +kernel
theorem dX4_about_151 : decode cX4_about 151 = .ok (.bipush (-2), 2) := by decide +kernel
theorem dX4_about_153 : decode cX4_about 153 = .ok (.ireturn, 1) := by decide +kernel
set_option maxRecDepth 20000 in
theorem ggX4_person_X4_noPerson : GoodIn wsX4_person wsX4_noPerson := goodIn_r _ [8, 9, 10, 11, 7, 12, 17, 18, 19, 20, 21, 22, 23, 24, 25, 26, 27, 28, 29, 30, 31, 32, 33, 34, 35, 36, 37, 38, 39, 40, 41, 42, 43, 44, 45] (by decide +kernel) (by decide +kernel)
set_option maxRecDepth 20000 in
theorem gX4_person_X4_noPerson : GoodIn wsX4_person (wsV RX4 134 RX4 yX4_noPerson wsX4_noPerson) := goodIn_app (goodIn_of _ (by decide +kernel)) ggX4_person_X4_noPerson
set_option maxRecDepth 20000 in
theorem ggX4_person_X4_gradeOf : GoodIn wsX4_person wsX4_gradeOf := goodIn_r _ [16, 3, 17, 18, 19, 20, 21, 22, 23, 24, 25, 26, 27, 28, 29, 30, 31, 32, 33, 34, 35, 36, 37, 38, 39, 40, 41, 42, 43, 44, 45] (by decide +kernel) (by decide +kernel)
set_option maxRecDepth 20000 in
theorem gX4_person_X4_gradeOf : GoodIn wsX4_person (wsV RX4 113 RX4 yX4_gradeOf wsX4_gradeOf) := goodIn_app (goodIn_of _ (by decide +kernel)) ggX4_person_X4_gradeOf
theorem dX4_person_0 : decode cX4_person 0 = .ok (.aload_n 0, 1) := by decide +kernel
theorem dX4_person_1 : decode cX4_person 1 = .ok (.iconst 0, 1) := by decide +kernel
theorem dX4_person_2 : decode cX4_person 2 = .ok (.putfield 60, 3) := by decide +kernel
theorem dX4_person_5 : decode cX4_person 5 = .ok (.aload_n 0, 1) := by decide +kernel
theorem dX4_person_6 : decode cX4_person 6 = .ok (.iload_n 1, 1) := by decide +kernel
theorem dX4_person_7 : decode cX4_person 7 = .ok (.invokevirtual 134, 3) := by decide +kernel
theorem dX4_person_10 : decode cX4_person 10 = .ok (.ifCond .eq 5, 3) := by decide +kernel
theorem dX4_person_13 : decode cX4_person 13 = .ok (.iconst (-1), 1) := by decide +kernel
theorem dX4_person_14 : decode cX4_person 14 = .ok (.ireturn, 1) := by decide +kernel
theorem dX4_person_15 : decode cX4_person 15 = .ok (.iload_n 2, 1) := by decide +kernel
theorem dX4_person_16 : decode cX4_person 16 = .ok (.tableswitch 68 0 3 #[32, 41, 48, 58], 32) := by decide +kernel
theorem dX4_person_48 : decode cX4_person 48 = .ok (.aload_n 0, 1) := by decide +kernel
theorem dX4_person_49 : decode cX4_person 49 = .ok (.getfield 25, 3) := by decide +kernel
theorem dX4_person_52 : decode cX4_person 52 = .ok (.iconst 0, 1) := by decide +kernel
theorem dX4_person_53 : decode cX4_person 53 = .ok (.iload_n 1, 1) := by decide +kernel
theorem dX4_person_54 : decode cX4_person 54 = .ok (.iadd, 1) := by decide +kernel
theorem dX4_person_55 : decode cX4_person 55 = .ok (.iaload, 1) := by decide +kernel
theorem dX4_person_56 : decode cX4_person 56 = .ok (.ireturn, 1) := by decide +kernel
theorem dX4_person_57 : decode cX4_person 57 = .ok (.aload_n 0, 1) := by decide +kernel
theorem dX4_person_58 : decode cX4_person 58 = .ok (.getfield 13, 3) := by decide +kernel
theorem dX4_person_61 : decode cX4_person 61 = .ok (.iload_n 1, 1) := by decide +kernel
theorem dX4_person_62 : decode cX4_person 62 = .ok (.iaload, 1) := by decide +kernel
theorem dX4_person_63 : decode cX4_person 63 = .ok (.ireturn, 1) := by decide +kernel
theorem dX4_person_64 : decode cX4_person 64 = .ok (.aload_n 0, 1) := by decide +kernel
theorem dX4_person_65 : decode cX4_person 65 = .ok (.aload_n 0, 1) := by decide +kernel
theorem dX4_person_66 : decode cX4_person 66 = .ok (.getfield 25, 3) := by decide +kernel
theorem dX4_person_69 : decode cX4_person 69 = .ok (.iload_n 1, 1) := by decide +kernel
theorem dX4_person_70 : decode cX4_person 70 = .ok (.invokevirtual 113, 3) := by decide +kernel
theorem dX4_person_73 : decode cX4_person 73 = .ok (.ireturn, 1) := by decide +kernel
theorem dX4_person_74 : decode cX4_person 74 = .ok (.aload_n 0, 1) := by decide +kernel
theorem dX4_person_75 : decode cX4_person 75 = .ok (.getfield 25, 3) := by decide +kernel
theorem dX4_person_78 : decode cX4_person 78 = .ok (.bipush 7, 2) := by decide +kernel
theorem dX4_person_80 : decode cX4_person 80 = .ok (.iload_n 1, 1) := by decide +kernel
theorem dX4_person_81 : decode cX4_person 81 = .ok (.iadd, 1) := by decide +kernel
theorem dX4_person_82 : decode cX4_person 82 = .ok (.iaload, 1) := by decide +kernel
theorem dX4_person_83 : decode cX4_person 83 = .ok (.ireturn, 1) := by decide +kernel
theorem dX4_person_84 : decode cX4_person 84 = .ok (.bipush (-2), 2) := by decide +kernel
theorem dX4_person_86 : decode cX4_person 86 = .ok (.ireturn, 1) := by decide +kernel
theorem dX4_note_0 : decode cX4_note 0 = .ok (.aload_n 0, 1) := by decide +kernel
theorem dX4_note_1 : decode cX4_note 1 = .ok (.getfield 110, 3) := by decide +kernel
theorem dX4_note_4 : decode cX4_note 4 = .ok (.bipush 14, 2) := by decide +kernel
theorem dX4_note_6 : decode cX4_note 6 = .ok (.if_icmp .ne 43, 3) := by decide +kernel
theorem dX4_note_9 : decode cX4_note 9 = .ok (.iconst 0, 1) := by decide +kernel
theorem dX4_note_10 : decode cX4_note 10 = .ok (.istore_n 1, 1) := by decide +kernel
theorem dX4_note_11 : decode cX4_note 11 = .ok (.iload_n 1, 1) := by decide +kernel
theorem dX4_note_12 : decode cX4_note 12 = .ok (.sipush 221, 3) := by decide +kernel
theorem dX4_note_15 : decode cX4_note 15 = .ok (.if_icmp .ge 24, 3) := by decide +kernel
theorem dX4_note_18 : decode cX4_note 18 = .ok (.aload_n 0, 1) := by decide +kernel
theorem dX4_note_19 : decode cX4_note 19 = .ok (.getfield 31, 3) := by decide +kernel
theorem dX4_note_22 : decode cX4_note 22 = .ok (.iload_n 1, 1) := by decide +kernel
theorem dX4_note_23 : decode cX4_note 23 = .ok (.aload_n 0, 1) := by decide +kernel
theorem dX4_note_24 : decode cX4_note 24 = .ok (.getfield 31, 3) := by decide +kernel
theorem dX4_note_27 : decode cX4_note 27 = .ok (.iload_n 1, 1) := by decide +kernel
theorem dX4_note_28 : decode cX4_note 28 = .ok (.bipush 17, 2) := by decide +kernel
theorem dX4_note_30 : decode cX4_note 30 = .ok (.iadd, 1) := by decide +kernel
theorem dX4_note_31 : decode cX4_note 31 = .ok (.iaload, 1) := by decide +kernel
theorem dX4_note_32 : decode cX4_note 32 = .ok (.iastore, 1) := by decide +kernel
theorem dX4_note_33 : decode cX4_note 33 = .ok (.iinc 1 1, 3) := by decide +kernel
theorem dX4_note_36 : decode cX4_note 36 = .ok (.goto (-25), 3) := by decide +kernel
theorem dX4_note_39 : decode cX4_note 39 = .ok (.aload_n 0, 1) := by decide +kernel
theorem dX4_note_40 : decode cX4_note 40 = .ok (.dup, 1) := by decide +kernel
theorem dX4_note_41 : decode cX4_note 41 = .ok (.getfield 110, 3) := by decide +kernel
theorem dX4_note_44 : decode cX4_note 44 = .ok (.iconst 1, 1) := by decide +kernel
theorem dX4_note_45 : decode cX4_note 45 = .ok (.isub, 1) := by decide +kernel
theorem dX4_note_46 : decode cX4_note 46 = .ok (.putfield 110, 3) := by decide +kernel
theorem dX4_note_49 : decode cX4_note 49 = .ok (.iconst 0, 1) := by decide +kernel
theorem dX4_note_50 : decode cX4_note 50 = .ok (.istore_n 1, 1) := by decide +kernel
theorem dX4_note_51 : decode cX4_note 51 = .ok (.iload_n 1, 1) := by decide +kernel
theorem dX4_note_52 : decode cX4_note 52 = .ok (.bipush 17, 2) := by decide +kernel
theorem dX4_note_54 : decode cX4_note 54 = .ok (.if_icmp .ge 29, 3) := by decide +kernel
theorem dX4_note_57 : decode cX4_note 57 = .ok (.aload_n 0, 1) := by decide +kernel
theorem dX4_note_58 : decode cX4_note 58 = .ok (.getfield 31, 3) := by decide +kernel
theorem dX4_note_61 : decode cX4_note 61 = .ok (.bipush 17, 2) := by decide +kernel
theorem dX4_note_63 : decode cX4_note 63 = .ok (.aload_n 0, 1) := by decide +kernel
theorem dX4_note_64 : decode cX4_note 64 = .ok (.getfield 110, 3) := by decide +kernel
theorem dX4_note_67 : decode cX4_note 67 = .ok (.imul, 1) := by decide +kernel
theorem dX4_note_68 : decode cX4_note 68 = .ok (.iload_n 1, 1) := by decide +kernel
theorem dX4_note_69 : decode cX4_note 69 = .ok (.iadd, 1) := by decide +kernel
theorem dX4_note_70 : decode cX4_note 70 = .ok (.aload_n 0, 1) := by decide +kernel
theorem dX4_note_71 : decode cX4_note 71 = .ok (.getfield 25, 3) := by decide +kernel
theorem dX4_note_74 : decode cX4_note 74 = .ok (.iload_n 1, 1) := by decide +kernel
theorem dX4_note_75 : decode cX4_note 75 = .ok (.iaload, 1) := by decide +kernel
theorem dX4_note_76 : decode cX4_note 76 = .ok (.iastore, 1) := by decide +kernel
theorem dX4_note_77 : decode cX4_note 77 = .ok (.iinc 1 1, 3) := by decide +kernel
theorem dX4_note_80 : decode cX4_note 80 = .ok (.goto (-29), 3) := by decide +kernel
theorem dX4_note_83 : decode cX4_note 83 = .ok (.aload_n 0, 1) := by decide +kernel
theorem dX4_note_84 : decode cX4_note 84 = .ok (.dup, 1) := by decide +kernel
theorem dX4_note_85 : decode cX4_note 85 = .ok (.getfield 110, 3) := by decide +kernel
theorem dX4_note_88 : decode cX4_note 88 = .ok (.iconst 1, 1) := by decide +kernel
theorem dX4_note_89 : decode cX4_note 89 = .ok (.iadd, 1) := by decide +kernel
theorem dX4_note_90 : decode cX4_note 90 = .ok (.putfield 110, 3) := by decide +kernel
theorem dX4_note_93 : decode cX4_note 93 = .ok (.return_, 1) := by decide +kernel
set_option maxRecDepth 20000 in
theorem ggX4_take_X4_noPerson : GoodIn wsX4_take wsX4_noPerson := goodIn_r _ [7, 8, 9, 10, 6, 11, 37, 38, 39, 40, 41, 42, 43, 44, 45, 46, 47, 48, 49, 50, 51, 52, 53, 54, 55, 56, 57, 58, 59, 60, 61, 62, 63, 64, 65] (by decide +kernel) (by decide +kernel)
set_option maxRecDepth 20000 in
theorem gX4_take_X4_noPerson : GoodIn wsX4_take (wsV RX4 134 RX4 yX4_noPerson wsX4_noPerson) := goodIn_app (goodIn_of _ (by decide +kernel)) ggX4_take_X4_noPerson
set_option maxRecDepth 20000 in
theorem ggX4_take_X4_mayOf : GoodIn wsX4_take wsX4_mayOf := goodIn_r _ [15, 8, 16, 17, 6, 18, 19, 20, 21, 22, 23, 24, 25, 26, 27, 37, 38, 39, 40, 41, 42, 43, 44, 45, 46, 47, 48, 49, 50, 51, 52, 53, 54, 55, 56, 57, 58, 59, 60, 61, 62, 63, 64, 65] (by decide +kernel) (by decide +kernel)
set_option maxRecDepth 20000 in
theorem gX4_take_X4_mayOf : GoodIn wsX4_take (wsV RX4 124 RX4 yX4_mayOf wsX4_mayOf) := goodIn_app (goodIn_of _ (by decide +kernel)) ggX4_take_X4_mayOf
set_option maxRecDepth 20000 in
theorem ggX4_take_X4_has : GoodIn wsX4_take wsX4_has := goodIn_r _ [18] (by decide +kernel) (by decide +kernel)
set_option maxRecDepth 20000 in
theorem gX4_take_X4_has : GoodIn wsX4_take (va_wsS RX4 89 yX4_has wsX4_has) := goodIn_app (goodIn_of _ (by decide +kernel)) ggX4_take_X4_has
set_option maxRecDepth 20000 in
theorem ggX4_take_X4_note : GoodIn wsX4_take wsX4_note := goodIn_r _ [31, 32, 33, 2, 37, 38, 39, 40, 41, 42, 43, 44, 45, 46, 47, 48, 49, 50, 51, 52, 53, 54, 55, 56, 57, 58, 59, 60, 61, 62, 63, 64, 65] (by decide +kernel) (by decide +kernel)
set_option maxRecDepth 20000 in
theorem gX4_take_X4_note : GoodIn wsX4_take (wsV RX4 138 RX4 yX4_note wsX4_note) := goodIn_app (goodIn_of _ (by decide +kernel)) ggX4_take_X4_note
set_option maxRecDepth 20000 in
theorem ggX4_take_X4_many : GoodIn wsX4_take wsX4_many := goodIn_r _ [36] (by decide +kernel) (by decide +kernel)
set_option maxRecDepth 20000 in
theorem gX4_take_X4_many : GoodIn wsX4_take (va_wsS RX4 141 yX4_many wsX4_many) := goodIn_app (goodIn_of _ (by decide +kernel)) ggX4_take_X4_many
theorem dX4_take_0 : decode cX4_take 0 = .ok (.aload_n 0, 1) := by decide +kernel
theorem dX4_take_1 : decode cX4_take 1 = .ok (.iconst 0, 1) := by decide +kernel
theorem dX4_take_2 : decode cX4_take 2 = .ok (.putfield 60, 3) := by decide +kernel
theorem dX4_take_5 : decode cX4_take 5 = .ok (.aload_n 0, 1) := by decide +kernel
theorem dX4_take_6 : decode cX4_take 6 = .ok (.iload_n 1, 1) := by decide +kernel
theorem dX4_take_7 : decode cX4_take 7 = .ok (.invokevirtual 134, 3) := by decide +kernel
theorem dX4_take_10 : decode cX4_take 10 = .ok (.ifCond .eq 5, 3) := by decide +kernel
theorem dX4_take_13 : decode cX4_take 13 = .ok (.iconst (-1), 1) := by decide +kernel
theorem dX4_take_14 : decode cX4_take 14 = .ok (.ireturn, 1) := by decide +kernel
theorem dX4_take_15 : decode cX4_take 15 = .ok (.aload_n 0, 1) := by decide +kernel
theorem dX4_take_16 : decode cX4_take 16 = .ok (.aload_n 0, 1) := by decide +kernel
theorem dX4_take_17 : decode cX4_take 17 = .ok (.getfield 25, 3) := by decide +kernel
theorem dX4_take_20 : decode cX4_take 20 = .ok (.invokevirtual 124, 3) := by decide +kernel
theorem dX4_take_23 : decode cX4_take 23 = .ok (.iload_n 1, 1) := by decide +kernel
theorem dX4_take_24 : decode cX4_take 24 = .ok (.invokestatic 89, 3) := by decide +kernel
theorem dX4_take_27 : decode cX4_take 27 = .ok (.ifCond .ne 6, 3) := by decide +kernel
theorem dX4_take_30 : decode cX4_take 30 = .ok (.bipush (-3), 2) := by decide +kernel
theorem dX4_take_32 : decode cX4_take 32 = .ok (.ireturn, 1) := by decide +kernel
theorem dX4_take_33 : decode cX4_take 33 = .ok (.aload_n 0, 1) := by decide +kernel
theorem dX4_take_34 : decode cX4_take 34 = .ok (.invokevirtual 138, 3) := by decide +kernel
theorem dX4_take_37 : decode cX4_take 37 = .ok (.aload_n 0, 1) := by decide +kernel
theorem dX4_take_38 : decode cX4_take 38 = .ok (.getfield 25, 3) := by decide +kernel
