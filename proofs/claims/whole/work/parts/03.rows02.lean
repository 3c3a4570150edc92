theorem dX3_toFeed_98 : decode cX3_toFeed 98 = .ok (.iload_n 3, 1) := by decide +kernel
theorem dX3_toFeed_99 : decode cX3_toFeed 99 = .ok (.ireturn, 1) := by decide +kernel
set_option maxRecDepth 20000 in
theorem ggX3_giveUp_X1_has : GoodIn wsX3_giveUp wsX1_has := goodIn_r _ [5, 6, 64, 65, 66, 67, 68, 69, 70] (by decide +kernel) (by decide +kernel)
set_option maxRecDepth 20000 in
theorem gX3_giveUp_X1_has_n92 : GoodIn wsX3_giveUp (wsX1_has) := ggX3_giveUp_X1_has
set_option maxRecDepth 20000 in
theorem ggX3_giveUp_X3_isIn : GoodIn wsX3_giveUp wsX3_isIn := goodIn_r _ [10] (by decide +kernel) (by decide +kernel)
set_option maxRecDepth 20000 in
theorem gX3_giveUp_X3_isIn : GoodIn wsX3_giveUp (va_wsS RX3 107 yX3_isIn wsX3_isIn) := goodIn_app (goodIn_of _ (by decide +kernel)) ggX3_giveUp_X3_isIn
set_option maxRecDepth 20000 in
theorem ggX3_giveUp_X3_without : GoodIn wsX3_giveUp wsX3_without := goodIn_r _ [13] (by decide +kernel) (by decide +kernel)
set_option maxRecDepth 20000 in
theorem gX3_giveUp_X3_without : GoodIn wsX3_giveUp (va_wsS RX3 114 yX3_without wsX3_without) := goodIn_app (goodIn_of _ (by decide +kernel)) ggX3_giveUp_X3_without
set_option maxRecDepth 20000 in
theorem ggX3_giveUp_J6_bitCount_0f7a4 : GoodIn wsX3_giveUp wsJ6_bitCount_0f7a4 := goodIn_r _ [17, 18, 19, 20] (by decide +kernel) (by decide +kernel)
set_option maxRecDepth 20000 in
theorem gX3_giveUp_J6_bitCount_0f7a4 : GoodIn wsX3_giveUp (va_wsS RX3 118 yJ6_bitCount_0f7a4 wsJ6_bitCount_0f7a4) := goodIn_app (goodIn_of _ (by decide +kernel)) ggX3_giveUp_J6_bitCount_0f7a4
set_option maxRecDepth 20000 in
theorem ggX3_giveUp_X1_isTaken : GoodIn wsX3_giveUp wsX1_isTaken := goodIn_r _ [23, 24, 25, 26, 3, 27, 6, 28, 29, 30, 31, 8, 9, 10, 32, 33, 34, 35, 36, 37, 38, 39, 40, 41, 42, 43, 44, 45, 46, 47, 48, 49, 50, 51, 52, 64, 65, 66, 67, 68, 69, 70] (by decide +kernel) (by decide +kernel)
set_option maxRecDepth 20000 in
theorem gX3_giveUp_X1_isTaken_n161 : GoodIn wsX3_giveUp (wsX1_isTaken) := ggX3_giveUp_X1_isTaken
theorem dX3_giveUp_0 : decode cX3_giveUp 0 = .ok (.aload_n 0, 1) := by decide +kernel
theorem dX3_giveUp_1 : decode cX3_giveUp 1 = .ok (.getfield 19, 3) := by decide +kernel
theorem dX3_giveUp_4 : decode cX3_giveUp 4 = .ok (.iload_n 1, 1) := by decide +kernel
theorem dX3_giveUp_5 : decode cX3_giveUp 5 = .ok (.invokevirtual 92, 3) := by decide +kernel
theorem dX3_giveUp_8 : decode cX3_giveUp 8 = .ok (.ifCond .ne 5, 3) := by decide +kernel
theorem dX3_giveUp_11 : decode cX3_giveUp 11 = .ok (.iconst (-1), 1) := by decide +kernel
theorem dX3_giveUp_12 : decode cX3_giveUp 12 = .ok (.ireturn, 1) := by decide +kernel
theorem dX3_giveUp_13 : decode cX3_giveUp 13 = .ok (.aload_n 0, 1) := by decide +kernel
theorem dX3_giveUp_14 : decode cX3_giveUp 14 = .ok (.getfield 19, 3) := by decide +kernel
theorem dX3_giveUp_17 : decode cX3_giveUp 17 = .ok (.getfield 72, 3) := by decide +kernel
theorem dX3_giveUp_20 : decode cX3_giveUp 20 = .ok (.iload_n 1, 1) := by decide +kernel
theorem dX3_giveUp_21 : decode cX3_giveUp 21 = .ok (.invokestatic 107, 3) := by decide +kernel
theorem dX3_giveUp_24 : decode cX3_giveUp 24 = .ok (.ifCond .ne 6, 3) := by decide +kernel
theorem dX3_giveUp_27 : decode cX3_giveUp 27 = .ok (.bipush (-3), 2) := by decide +kernel
theorem dX3_giveUp_29 : decode cX3_giveUp 29 = .ok (.ireturn, 1) := by decide +kernel
theorem dX3_giveUp_30 : decode cX3_giveUp 30 = .ok (.aload_n 0, 1) := by decide +kernel
theorem dX3_giveUp_31 : decode cX3_giveUp 31 = .ok (.getfield 19, 3) := by decide +kernel
theorem dX3_giveUp_34 : decode cX3_giveUp 34 = .ok (.getfield 72, 3) := by decide +kernel
theorem dX3_giveUp_37 : decode cX3_giveUp 37 = .ok (.iload_n 1, 1) := by decide +kernel
theorem dX3_giveUp_38 : decode cX3_giveUp 38 = .ok (.invokestatic 114, 3) := by decide +kernel
theorem dX3_giveUp_41 : decode cX3_giveUp 41 = .ok (.istore_n 2, 1) := by decide +kernel
theorem dX3_giveUp_42 : decode cX3_giveUp 42 = .ok (.bipush (-9), 2) := by decide +kernel
theorem dX3_giveUp_44 : decode cX3_giveUp 44 = .ok (.istore_n 3, 1) := by decide +kernel
theorem dX3_giveUp_45 : decode cX3_giveUp 45 = .ok (.iconst 0, 1) := by decide +kernel
theorem dX3_giveUp_46 : decode cX3_giveUp 46 = .ok (.istore 4, 2) := by decide +kernel
theorem dX3_giveUp_48 : decode cX3_giveUp 48 = .ok (.iload 4, 2) := by decide +kernel
theorem dX3_giveUp_50 : decode cX3_giveUp 50 = .ok (.iload_n 2, 1) := by decide +kernel
theorem dX3_giveUp_51 : decode cX3_giveUp 51 = .ok (.if_icmp .gt 74, 3) := by decide +kernel
theorem dX3_giveUp_54 : decode cX3_giveUp 54 = .ok (.iload_n 3, 1) := by decide +kernel
theorem dX3_giveUp_55 : decode cX3_giveUp 55 = .ok (.bipush (-9), 2) := by decide +kernel
theorem dX3_giveUp_57 : decode cX3_giveUp 57 = .ok (.if_icmp .eq 15, 3) := by decide +kernel
theorem dX3_giveUp_60 : decode cX3_giveUp 60 = .ok (.iload 4, 2) := by decide +kernel
theorem dX3_giveUp_62 : decode cX3_giveUp 62 = .ok (.invokestatic 118, 3) := by decide +kernel
theorem dX3_giveUp_65 : decode cX3_giveUp 65 = .ok (.iload_n 3, 1) := by decide +kernel
theorem dX3_giveUp_66 : decode cX3_giveUp 66 = .ok (.invokestatic 118, 3) := by decide +kernel
theorem dX3_giveUp_69 : decode cX3_giveUp 69 = .ok (.if_icmp .ge 7, 3) := by decide +kernel
theorem dX3_giveUp_72 : decode cX3_giveUp 72 = .ok (.iconst 1, 1) := by decide +kernel
theorem dX3_giveUp_73 : decode cX3_giveUp 73 = .ok (.goto 4, 3) := by decide +kernel
theorem dX3_giveUp_76 : decode cX3_giveUp 76 = .ok (.iconst 0, 1) := by decide +kernel
theorem dX3_giveUp_77 : decode cX3_giveUp 77 = .ok (.istore 5, 2) := by decide +kernel
theorem dX3_giveUp_79 : decode cX3_giveUp 79 = .ok (.iload 4, 2) := by decide +kernel
theorem dX3_giveUp_81 : decode cX3_giveUp 81 = .ok (.iload_n 2, 1) := by decide +kernel
theorem dX3_giveUp_82 : decode cX3_giveUp 82 = .ok (.iand, 1) := by decide +kernel
theorem dX3_giveUp_83 : decode cX3_giveUp 83 = .ok (.iload 4, 2) := by decide +kernel
theorem dX3_giveUp_85 : decode cX3_giveUp 85 = .ok (.if_icmp .ne 34, 3) := by decide +kernel
theorem dX3_giveUp_88 : decode cX3_giveUp 88 = .ok (.iload 5, 2) := by decide +kernel
theorem dX3_giveUp_90 : decode cX3_giveUp 90 = .ok (.ifCond .eq 29, 3) := by decide +kernel
theorem dX3_giveUp_93 : decode cX3_giveUp 93 = .ok (.aload_n 0, 1) := by decide +kernel
theorem dX3_giveUp_94 : decode cX3_giveUp 94 = .ok (.getfield 19, 3) := by decide +kernel
theorem dX3_giveUp_97 : decode cX3_giveUp 97 = .ok (.iload_n 1, 1) := by decide +kernel
theorem dX3_giveUp_98 : decode cX3_giveUp 98 = .ok (.aload_n 0, 1) := by decide +kernel
theorem dX3_giveUp_99 : decode cX3_giveUp 99 = .ok (.getfield 19, 3) := by decide +kernel
theorem dX3_giveUp_102 : decode cX3_giveUp 102 = .ok (.getfield 72, 3) := by decide +kernel
theorem dX3_giveUp_105 : decode cX3_giveUp 105 = .ok (.iload 4, 2) := by decide +kernel
theorem dX3_giveUp_107 : decode cX3_giveUp 107 = .ok (.iconst (-1), 1) := by decide +kernel
theorem dX3_giveUp_108 : decode cX3_giveUp 108 = .ok (.ixor, 1) := by decide +kernel
theorem dX3_giveUp_109 : decode cX3_giveUp 109 = .ok (.iand, 1) := by decide +kernel
theorem dX3_giveUp_110 : decode cX3_giveUp 110 = .ok (.invokevirtual 161, 3) := by decide +kernel
theorem dX3_giveUp_113 : decode cX3_giveUp 113 = .ok (.ifCond .eq 6, 3) := by decide +kernel
theorem dX3_giveUp_116 : decode cX3_giveUp 116 = .ok (.iload 4, 2) := by decide +kernel
theorem dX3_giveUp_118 : decode cX3_giveUp 118 = .ok (.istore_n 3, 1) := by decide +kernel
theorem dX3_giveUp_119 : decode cX3_giveUp 119 = .ok (.iinc 4 1, 3) := by decide +kernel
theorem dX3_giveUp_122 : decode cX3_giveUp 122 = .ok (.goto (-74), 3) := by decide +kernel
theorem dX3_giveUp_125 : decode cX3_giveUp 125 = .ok (.iload_n 3, 1) := by decide +kernel
theorem dX3_giveUp_126 : decode cX3_giveUp 126 = .ok (.ireturn, 1) := by decide +kernel
set_option maxRecDepth 20000 in
theorem ggX3_claim_X1_has : GoodIn wsX3_claim wsX1_has := goodIn_r _ [6, 7, 68, 69, 70, 71, 72, 73, 74] (by decide +kernel) (by decide +kernel)
set_option maxRecDepth 20000 in
theorem gX3_claim_X1_has_n92 : GoodIn wsX3_claim (wsX1_has) := ggX3_claim_X1_has
set_option maxRecDepth 20000 in
theorem ggX3_claim_X3_isIn : GoodIn wsX3_claim wsX3_isIn := goodIn_r _ [11] (by decide +kernel) (by decide +kernel)
set_option maxRecDepth 20000 in
theorem gX3_claim_X3_isIn : GoodIn wsX3_claim (va_wsS RX3 107 yX3_isIn wsX3_isIn) := goodIn_app (goodIn_of _ (by decide +kernel)) ggX3_claim_X3_isIn
set_option maxRecDepth 20000 in
theorem ggX3_claim_X1_copy : GoodIn wsX3_claim wsX1_copy := goodIn_r _ [14, 7, 15, 16, 17, 18, 19, 20, 68, 69, 70, 71, 72, 73, 74] (by decide +kernel) (by decide +kernel)
set_option maxRecDepth 20000 in
theorem gX3_claim_X1_copy_n59 : GoodIn wsX3_claim (wsX1_copy) := ggX3_claim_X1_copy
set_option maxRecDepth 20000 in
theorem ggX3_claim_X1_setDeed : GoodIn wsX3_claim wsX1_setDeed := goodIn_r _ [23, 16, 68, 69, 70, 71, 72, 73, 74] (by decide +kernel) (by decide +kernel)
set_option maxRecDepth 20000 in
theorem gX3_claim_X1_setDeed_n141 : GoodIn wsX3_claim (wsX1_setDeed) := ggX3_claim_X1_setDeed
set_option maxRecDepth 20000 in
theorem ggX3_claim_X1_worthOf : GoodIn wsX3_claim wsX1_worthOf := goodIn_r _ [26, 27, 28, 29, 4, 30, 18, 7, 31, 32, 33, 34, 9, 10, 11, 35, 36, 37, 38, 39, 40, 41, 42, 15, 43, 44, 45, 46, 16, 47, 48, 49, 50, 17, 51, 52, 53, 54, 8, 55, 56, 68, 69, 70, 71, 72, 73, 74] (by decide +kernel) (by decide +kernel)
set_option maxRecDepth 20000 in
theorem gX3_claim_X1_worthOf_n170 : GoodIn wsX3_claim (wsX1_worthOf) := ggX3_claim_X1_worthOf
theorem dX3_claim_0 : decode cX3_claim 0 = .ok (.aload_n 0, 1) := by decide +kernel
theorem dX3_claim_1 : decode cX3_claim 1 = .ok (.getfield 19, 3) := by decide +kernel
theorem dX3_claim_4 : decode cX3_claim 4 = .ok (.iload_n 1, 1) := by decide +kernel
theorem dX3_claim_5 : decode cX3_claim 5 = .ok (.invokevirtual 92, 3) := by decide +kernel
theorem dX3_claim_8 : decode cX3_claim 8 = .ok (.ifCond .ne 5, 3) := by decide +kernel
theorem dX3_claim_11 : decode cX3_claim 11 = .ok (.iconst (-1), 1) := by decide +kernel
theorem dX3_claim_12 : decode cX3_claim 12 = .ok (.ireturn, 1) := by decide +kernel
theorem dX3_claim_13 : decode cX3_claim 13 = .ok (.aload_n 0, 1) := by decide +kernel
theorem dX3_claim_14 : decode cX3_claim 14 = .ok (.getfield 19, 3) := by decide +kernel
theorem dX3_claim_17 : decode cX3_claim 17 = .ok (.getfield 72, 3) := by decide +kernel
theorem dX3_claim_20 : decode cX3_claim 20 = .ok (.iload_n 1, 1) := by decide +kernel
theorem dX3_claim_21 : decode cX3_claim 21 = .ok (.invokestatic 107, 3) := by decide +kernel
theorem dX3_claim_24 : decode cX3_claim 24 = .ok (.ifCond .ne 6, 3) := by decide +kernel
theorem dX3_claim_27 : decode cX3_claim 27 = .ok (.bipush (-3), 2) := by decide +kernel
theorem dX3_claim_29 : decode cX3_claim 29 = .ok (.ireturn, 1) := by decide +kernel
theorem dX3_claim_30 : decode cX3_claim 30 = .ok (.aload_n 0, 1) := by decide +kernel
theorem dX3_claim_31 : decode cX3_claim 31 = .ok (.getfield 23, 3) := by decide +kernel
theorem dX3_claim_34 : decode cX3_claim 34 = .ok (.aload_n 0, 1) := by decide +kernel
theorem dX3_claim_35 : decode cX3_claim 35 = .ok (.getfield 19, 3) := by decide +kernel
theorem dX3_claim_38 : decode cX3_claim 38 = .ok (.invokevirtual 59, 3) := by decide +kernel
theorem dX3_claim_41 : decode cX3_claim 41 = .ok (.iconst 0, 1) := by decide +kernel
theorem dX3_claim_42 : decode cX3_claim 42 = .ok (.istore_n 2, 1) := by decide +kernel
theorem dX3_claim_43 : decode cX3_claim 43 = .ok (.iconst (-1), 1) := by decide +kernel
theorem dX3_claim_44 : decode cX3_claim 44 = .ok (.istore_n 3, 1) := by decide +kernel
theorem dX3_claim_45 : decode cX3_claim 45 = .ok (.iconst 0, 1) := by decide +kernel
theorem dX3_claim_46 : decode cX3_claim 46 = .ok (.istore 4, 2) := by decide +kernel
theorem dX3_claim_48 : decode cX3_claim 48 = .ok (.iload 4, 2) := by decide +kernel
theorem dX3_claim_50 : decode cX3_claim 50 = .ok (.bipush 10, 2) := by decide +kernel
theorem dX3_claim_52 : decode cX3_claim 52 = .ok (.if_icmp .ge 41, 3) := by decide +kernel
theorem dX3_claim_55 : decode cX3_claim 55 = .ok (.aload_n 0, 1) := by decide +kernel
theorem dX3_claim_56 : decode cX3_claim 56 = .ok (.getfield 23, 3) := by decide +kernel
theorem dX3_claim_59 : decode cX3_claim 59 = .ok (.iload_n 1, 1) := by decide +kernel
theorem dX3_claim_60 : decode cX3_claim 60 = .ok (.iload 4, 2) := by decide +kernel
theorem dX3_claim_62 : decode cX3_claim 62 = .ok (.invokevirtual 141, 3) := by decide +kernel
theorem dX3_claim_65 : decode cX3_claim 65 = .ok (.aload_n 0, 1) := by decide +kernel
theorem dX3_claim_66 : decode cX3_claim 66 = .ok (.getfield 23, 3) := by decide +kernel
theorem dX3_claim_69 : decode cX3_claim 69 = .ok (.iload_n 1, 1) := by decide +kernel
theorem dX3_claim_70 : decode cX3_claim 70 = .ok (.invokevirtual 170, 3) := by decide +kernel
theorem dX3_claim_73 : decode cX3_claim 73 = .ok (.istore 5, 2) := by decide +kernel
theorem dX3_claim_75 : decode cX3_claim 75 = .ok (.iload 5, 2) := by decide +kernel
theorem dX3_claim_77 : decode cX3_claim 77 = .ok (.iload_n 3, 1) := by decide +kernel
theorem dX3_claim_78 : decode cX3_claim 78 = .ok (.if_icmp .le 9, 3) := by decide +kernel
theorem dX3_claim_81 : decode cX3_claim 81 = .ok (.iload 5, 2) := by decide +kernel
theorem dX3_claim_83 : decode cX3_claim 83 = .ok (.istore_n 3, 1) := by decide +kernel
theorem dX3_claim_84 : decode cX3_claim 84 = .ok (.iload 4, 2) := by decide +kernel
theorem dX3_claim_86 : decode cX3_claim 86 = .ok (.istore_n 2, 1) := by decide +kernel
theorem dX3_claim_87 : decode cX3_claim 87 = .ok (.iinc 4 1, 3) := by decide +kernel
theorem dX3_claim_90 : decode cX3_claim 90 = .ok (.goto (-42), 3) := by decide +kernel
theorem dX3_claim_93 : decode cX3_claim 93 = .ok (.iload_n 2, 1) := by decide +kernel
theorem dX3_claim_94 : decode cX3_claim 94 = .ok (.ireturn, 1) := by decide +kernel
set_option maxRecDepth 20000 in
theorem ggX3_share_X1_has : GoodIn wsX3_share wsX1_has := goodIn_r _ [5, 6, 79, 80, 81, 82, 83, 84, 85] (by decide +kernel) (by decide +kernel)
set_option maxRecDepth 20000 in
theorem gX3_share_X1_has_n92 : GoodIn wsX3_share (wsX1_has) := ggX3_share_X1_has
set_option maxRecDepth 20000 in
theorem ggX3_share_X3_isIn : GoodIn wsX3_share wsX3_isIn := goodIn_r _ [10] (by decide +kernel) (by decide +kernel)
set_option maxRecDepth 20000 in
theorem gX3_share_X3_isIn : GoodIn wsX3_share (va_wsS RX3 107 yX3_isIn wsX3_isIn) := goodIn_app (goodIn_of _ (by decide +kernel)) ggX3_share_X3_isIn
set_option maxRecDepth 20000 in
theorem ggX3_share_X3_inLeastTerms : GoodIn wsX3_share wsX3_inLeastTerms := goodIn_r _ [13, 14, 15, 16, 17, 18, 19, 9, 20] (by decide +kernel) (by decide +kernel)
set_option maxRecDepth 20000 in
theorem gX3_share_X3_inLeastTerms : GoodIn wsX3_share (va_wsS RX3 173 yX3_inLeastTerms wsX3_inLeastTerms) := goodIn_app (goodIn_of _ (by decide +kernel)) ggX3_share_X3_inLeastTerms
set_option maxRecDepth 20000 in
theorem ggX3_share_X3_without : GoodIn wsX3_share wsX3_without := goodIn_r _ [23] (by decide +kernel) (by decide +kernel)
set_option maxRecDepth 20000 in
theorem gX3_share_X3_without : GoodIn wsX3_share (va_wsS RX3 114 yX3_without wsX3_without) := goodIn_app (goodIn_of _ (by decide +kernel)) ggX3_share_X3_without
set_option maxRecDepth 20000 in
theorem ggX3_share_J6_bitCount_0f7a4 : GoodIn wsX3_share wsJ6_bitCount_0f7a4 := goodIn_r _ [27, 28, 29, 30] (by decide +kernel) (by decide +kernel)
set_option maxRecDepth 20000 in
theorem gX3_share_J6_bitCount_0f7a4 : GoodIn wsX3_share (va_wsS RX3 118 yJ6_bitCount_0f7a4 wsJ6_bitCount_0f7a4) := goodIn_app (goodIn_of _ (by decide +kernel)) ggX3_share_J6_bitCount_0f7a4
set_option maxRecDepth 20000 in
theorem ggX3_share_X3_factorial : GoodIn wsX3_share wsX3_factorial := goodIn_r _ [33] (by decide +kernel) (by decide +kernel)
set_option maxRecDepth 20000 in
theorem gX3_share_X3_factorial : GoodIn wsX3_share (va_wsS RX3 177 yX3_factorial wsX3_factorial) := goodIn_app (goodIn_of _ (by decide +kernel)) ggX3_share_X3_factorial
set_option maxRecDepth 20000 in
theorem ggX3_share_X3_bit : GoodIn wsX3_share wsX3_bit := goodIn_r _ [36] (by decide +kernel) (by decide +kernel)
set_option maxRecDepth 20000 in
theorem gX3_share_X3_bit : GoodIn wsX3_share (va_wsS RX3 123 yX3_bit wsX3_bit) := goodIn_app (goodIn_of _ (by decide +kernel)) ggX3_share_X3_bit
set_option maxRecDepth 20000 in
theorem ggX3_share_X1_countTaken : GoodIn wsX3_share wsX1_countTaken := goodIn_r _ [39, 40, 25, 26, 27, 28, 29, 30, 41, 42, 43, 3, 44, 6, 45, 46, 47, 48, 8, 9, 10, 49, 50, 51, 52, 53, 54, 55, 56, 57, 58, 59, 60, 61, 62, 63, 64, 65, 66, 67, 35, 36, 79, 80, 81, 82, 83, 84, 85] (by decide +kernel) (by decide +kernel)
set_option maxRecDepth 20000 in
theorem gX3_share_X1_countTaken_n180 : GoodIn wsX3_share (wsX1_countTaken) := ggX3_share_X1_countTaken
theorem dX3_share_0 : decode cX3_share 0 = .ok (.aload_n 0, 1) := by decide +kernel
theorem dX3_share_1 : decode cX3_share 1 = .ok (.getfield 19, 3) := by decide +kernel
theorem dX3_share_4 : decode cX3_share 4 = .ok (.iload_n 1, 1) := by decide +kernel
theorem dX3_share_5 : decode cX3_share 5 = .ok (.invokevirtual 92, 3) := by decide +kernel
theorem dX3_share_8 : decode cX3_share 8 = .ok (.ifCond .ne 5, 3) := by decide +kernel
theorem dX3_share_11 : decode cX3_share 11 = .ok (.iconst (-1), 1) := by decide +kernel
theorem dX3_share_12 : decode cX3_share 12 = .ok (.ireturn, 1) := by decide +kernel
theorem dX3_share_13 : decode cX3_share 13 = .ok (.aload_n 0, 1) := by decide +kernel
theorem dX3_share_14 : decode cX3_share 14 = .ok (.getfield 19, 3) := by decide +kernel
theorem dX3_share_17 : decode cX3_share 17 = .ok (.getfield 72, 3) := by decide +kernel
theorem dX3_share_20 : decode cX3_share 20 = .ok (.iload_n 1, 1) := by decide +kernel
theorem dX3_share_21 : decode cX3_share 21 = .ok (.invokestatic 107, 3) := by decide +kernel
theorem dX3_share_24 : decode cX3_share 24 = .ok (.ifCond .ne 10, 3) := by decide +kernel
theorem dX3_share_27 : decode cX3_share 27 = .ok (.iconst 0, 1) := by decide +kernel
theorem dX3_share_28 : decode cX3_share 28 = .ok (.iconst 1, 1) := by decide +kernel
theorem dX3_share_29 : decode cX3_share 29 = .ok (.iload_n 2, 1) := by decide +kernel
theorem dX3_share_30 : decode cX3_share 30 = .ok (.invokestatic 173, 3) := by decide +kernel
theorem dX3_share_33 : decode cX3_share 33 = .ok (.ireturn, 1) := by decide +kernel
theorem dX3_share_34 : decode cX3_share 34 = .ok (.aload_n 0, 1) := by decide +kernel
theorem dX3_share_35 : decode cX3_share 35 = .ok (.getfield 19, 3) := by decide +kernel
theorem dX3_share_38 : decode cX3_share 38 = .ok (.getfield 72, 3) := by decide +kernel
theorem dX3_share_41 : decode cX3_share 41 = .ok (.iload_n 1, 1) := by decide +kernel
theorem dX3_share_42 : decode cX3_share 42 = .ok (.invokestatic 114, 3) := by decide +kernel
theorem dX3_share_45 : decode cX3_share 45 = .ok (.istore_n 3, 1) := by decide +kernel
theorem dX3_share_46 : decode cX3_share 46 = .ok (.iload_n 3, 1) := by decide +kernel
theorem dX3_share_47 : decode cX3_share 47 = .ok (.invokestatic 118, 3) := by decide +kernel
theorem dX3_share_50 : decode cX3_share 50 = .ok (.istore 4, 2) := by decide +kernel
theorem dX3_share_52 : decode cX3_share 52 = .ok (.iconst 0, 1) := by decide +kernel
theorem dX3_share_53 : decode cX3_share 53 = .ok (.istore 5, 2) := by decide +kernel
theorem dX3_share_55 : decode cX3_share 55 = .ok (.iconst 0, 1) := by decide +kernel
theorem dX3_share_56 : decode cX3_share 56 = .ok (.istore 6, 2) := by decide +kernel
theorem dX3_share_58 : decode cX3_share 58 = .ok (.iload 6, 2) := by decide +kernel
theorem dX3_share_60 : decode cX3_share 60 = .ok (.iload_n 3, 1) := by decide +kernel
theorem dX3_share_61 : decode cX3_share 61 = .ok (.if_icmp .gt 73, 3) := by decide +kernel
theorem dX3_share_64 : decode cX3_share 64 = .ok (.iload 6, 2) := by decide +kernel
theorem dX3_share_66 : decode cX3_share 66 = .ok (.iload_n 3, 1) := by decide +kernel
theorem dX3_share_67 : decode cX3_share 67 = .ok (.iand, 1) := by decide +kernel
theorem dX3_share_68 : decode cX3_share 68 = .ok (.iload 6, 2) := by decide +kernel
theorem dX3_share_70 : decode cX3_share 70 = .ok (.if_icmp .ne 58, 3) := by decide +kernel
theorem dX3_share_73 : decode cX3_share 73 = .ok (.iload 6, 2) := by decide +kernel
theorem dX3_share_75 : decode cX3_share 75 = .ok (.invokestatic 118, 3) := by decide +kernel
theorem dX3_share_78 : decode cX3_share 78 = .ok (.istore 7, 2) := by decide +kernel
theorem dX3_share_80 : decode cX3_share 80 = .ok (.iload 7, 2) := by decide +kernel
theorem dX3_share_82 : decode cX3_share 82 = .ok (.invokestatic 177, 3) := by decide +kernel
theorem dX3_share_85 : decode cX3_share 85 = .ok (.iload 4, 2) := by decide +kernel
theorem dX3_share_87 : decode cX3_share 87 = .ok (.iload 7, 2) := by decide +kernel
theorem dX3_share_89 : decode cX3_share 89 = .ok (.isub, 1) := by decide +kernel
theorem dX3_share_90 : decode cX3_share 90 = .ok (.invokestatic 177, 3) := by decide +kernel
theorem dX3_share_93 : decode cX3_share 93 = .ok (.imul, 1) := by decide +kernel
theorem dX3_share_94 : decode cX3_share 94 = .ok (.istore 8, 2) := by decide +kernel
theorem dX3_share_96 : decode cX3_share 96 = .ok (.iload 5, 2) := by decide +kernel
theorem dX3_share_98 : decode cX3_share 98 = .ok (.iload 8, 2) := by decide +kernel
theorem dX3_share_100 : decode cX3_share 100 = .ok (.aload_n 0, 1) := by decide +kernel
theorem dX3_share_101 : decode cX3_share 101 = .ok (.getfield 19, 3) := by decide +kernel
theorem dX3_share_104 : decode cX3_share 104 = .ok (.iload 6, 2) := by decide +kernel
theorem dX3_share_106 : decode cX3_share 106 = .ok (.iload_n 1, 1) := by decide +kernel
theorem dX3_share_107 : decode cX3_share 107 = .ok (.invokestatic 123, 3) := by decide +kernel
theorem dX3_share_110 : decode cX3_share 110 = .ok (.ior, 1) := by decide +kernel
theorem dX3_share_111 : decode cX3_share 111 = .ok (.invokevirtual 180, 3) := by decide +kernel
theorem dX3_share_114 : decode cX3_share 114 = .ok (.aload_n 0, 1) := by decide +kernel
theorem dX3_share_115 : decode cX3_share 115 = .ok (.getfield 19, 3) := by decide +kernel
theorem dX3_share_118 : decode cX3_share 118 = .ok (.iload 6, 2) := by decide +kernel
theorem dX3_share_120 : decode cX3_share 120 = .ok (.invokevirtual 180, 3) := by decide +kernel
theorem dX3_share_123 : decode cX3_share 123 = .ok (.isub, 1) := by decide +kernel
theorem dX3_share_124 : decode cX3_share 124 = .ok (.imul, 1) := by decide +kernel
theorem dX3_share_125 : decode cX3_share 125 = .ok (.iadd, 1) := by decide +kernel
theorem dX3_share_126 : decode cX3_share 126 = .ok (.istore 5, 2) := by decide +kernel
theorem dX3_share_128 : decode cX3_share 128 = .ok (.iinc 6 1, 3) := by decide +kernel
theorem dX3_share_131 : decode cX3_share 131 = .ok (.goto (-73), 3) := by decide +kernel
theorem dX3_share_134 : decode cX3_share 134 = .ok (.iload 5, 2) := by decide +kernel
theorem dX3_share_136 : decode cX3_share 136 = .ok (.iload 4, 2) := by decide +kernel
theorem dX3_share_138 : decode cX3_share 138 = .ok (.iconst 1, 1) := by decide +kernel
theorem dX3_share_139 : decode cX3_share 139 = .ok (.iadd, 1) := by decide +kernel
theorem dX3_share_140 : decode cX3_share 140 = .ok (.invokestatic 177, 3) := by decide +kernel
theorem dX3_share_143 : decode cX3_share 143 = .ok (.iload_n 2, 1) := by decide +kernel
theorem dX3_share_144 : decode cX3_share 144 = .ok (.invokestatic 173, 3) := by decide +kernel
theorem dX3_share_147 : decode cX3_share 147 = .ok (.ireturn, 1) := by decide +kernel
set_option maxRecDepth 20000 in
theorem ggX3_see_X1_has : GoodIn wsX3_see wsX1_has := goodIn_r _ [7, 8, 20, 21, 22, 23, 24, 25, 26] (by decide +kernel) (by decide +kernel)
set_option maxRecDepth 20000 in
theorem gX3_see_X1_has_n92 : GoodIn wsX3_see (wsX1_has) := ggX3_see_X1_has
theorem dX3_see_0 : decode cX3_see 0 = .ok (.aload_n 0, 1) := by decide +kernel
theorem dX3_see_1 : decode cX3_see 1 = .ok (.getfield 19, 3) := by decide +kernel
theorem dX3_see_4 : decode cX3_see 4 = .ok (.iload_n 1, 1) := by decide +kernel
theorem dX3_see_5 : decode cX3_see 5 = .ok (.invokevirtual 92, 3) := by decide +kernel
theorem dX3_see_8 : decode cX3_see 8 = .ok (.ifCond .eq 14, 3) := by decide +kernel
theorem dX3_see_11 : decode cX3_see 11 = .ok (.aload_n 0, 1) := by decide +kernel
theorem dX3_see_12 : decode cX3_see 12 = .ok (.getfield 19, 3) := by decide +kernel
theorem dX3_see_15 : decode cX3_see 15 = .ok (.iload_n 2, 1) := by decide +kernel
theorem dX3_see_16 : decode cX3_see 16 = .ok (.invokevirtual 92, 3) := by decide +kernel
theorem dX3_see_19 : decode cX3_see 19 = .ok (.ifCond .ne 5, 3) := by decide +kernel
theorem dX3_see_22 : decode cX3_see 22 = .ok (.iconst (-1), 1) := by decide +kernel
theorem dX3_see_23 : decode cX3_see 23 = .ok (.ireturn, 1) := by decide +kernel
theorem dX3_see_24 : decode cX3_see 24 = .ok (.iload_n 1, 1) := by decide +kernel
theorem dX3_see_25 : decode cX3_see 25 = .ok (.iload_n 2, 1) := by decide +kernel
theorem dX3_see_26 : decode cX3_see 26 = .ok (.if_icmp .ne 6, 3) := by decide +kernel
theorem dX3_see_29 : decode cX3_see 29 = .ok (.bipush (-2), 2) := by decide +kernel
theorem dX3_see_31 : decode cX3_see 31 = .ok (.ireturn, 1) := by decide +kernel
theorem dX3_see_32 : decode cX3_see 32 = .ok (.aload_n 0, 1) := by decide +kernel
theorem dX3_see_33 : decode cX3_see 33 = .ok (.getfield 89, 3) := by decide +kernel
theorem dX3_see_36 : decode cX3_see 36 = .ok (.bipush 6, 2) := by decide +kernel
theorem dX3_see_38 : decode cX3_see 38 = .ok (.if_icmp .lt 6, 3) := by decide +kernel
theorem dX3_see_41 : decode cX3_see 41 = .ok (.bipush (-4), 2) := by decide +kernel
theorem dX3_see_43 : decode cX3_see 43 = .ok (.ireturn, 1) := by decide +kernel
theorem dX3_see_44 : decode cX3_see 44 = .ok (.aload_n 0, 1) := by decide +kernel
theorem dX3_see_45 : decode cX3_see 45 = .ok (.getfield 37, 3) := by decide +kernel
theorem dX3_see_48 : decode cX3_see 48 = .ok (.aload_n 0, 1) := by decide +kernel
theorem dX3_see_49 : decode cX3_see 49 = .ok (.getfield 89, 3) := by decide +kernel
theorem dX3_see_52 : decode cX3_see 52 = .ok (.bipush 10, 2) := by decide +kernel
theorem dX3_see_54 : decode cX3_see 54 = .ok (.iload_n 1, 1) := by decide +kernel
theorem dX3_see_55 : decode cX3_see 55 = .ok (.imul, 1) := by decide +kernel
theorem dX3_see_56 : decode cX3_see 56 = .ok (.iload_n 2, 1) := by decide +kernel
theorem dX3_see_57 : decode cX3_see 57 = .ok (.iadd, 1) := by decide +kernel
theorem dX3_see_58 : decode cX3_see 58 = .ok (.iastore, 1) := by decide +kernel
theorem dX3_see_59 : decode cX3_see 59 = .ok (.aload_n 0, 1) := by decide +kernel
theorem dX3_see_60 : decode cX3_see 60 = .ok (.dup, 1) := by decide +kernel
theorem dX3_see_61 : decode cX3_see 61 = .ok (.getfield 89, 3) := by decide +kernel
theorem dX3_see_64 : decode cX3_see 64 = .ok (.iconst 1, 1) := by decide +kernel
theorem dX3_see_65 : decode cX3_see 65 = .ok (.iadd, 1) := by decide +kernel
theorem dX3_see_66 : decode cX3_see 66 = .ok (.putfield 89, 3) := by decide +kernel
theorem dX3_see_69 : decode cX3_see 69 = .ok (.aload_n 0, 1) := by decide +kernel
theorem dX3_see_70 : decode cX3_see 70 = .ok (.getfield 89, 3) := by decide +kernel
theorem dX3_see_73 : decode cX3_see 73 = .ok (.ireturn, 1) := by decide +kernel
theorem dX3_unsee_0 : decode cX3_unsee 0 = .ok (.aload_n 0, 1) := by decide +kernel
theorem dX3_unsee_1 : decode cX3_unsee 1 = .ok (.getfield 89, 3) := by decide +kernel
theorem dX3_unsee_4 : decode cX3_unsee 4 = .ok (.istore_n 1, 1) := by decide +kernel
theorem dX3_unsee_5 : decode cX3_unsee 5 = .ok (.aload_n 0, 1) := by decide +kernel
theorem dX3_unsee_6 : decode cX3_unsee 6 = .ok (.iconst 0, 1) := by decide +kernel
theorem dX3_unsee_7 : decode cX3_unsee 7 = .ok (.putfield 89, 3) := by decide +kernel
theorem dX3_unsee_10 : decode cX3_unsee 10 = .ok (.iload_n 1, 1) := by decide +kernel
theorem dX3_unsee_11 : decode cX3_unsee 11 = .ok (.ireturn, 1) := by decide +kernel
set_option maxRecDepth 20000 in
theorem ggX3_did_X1_has : GoodIn wsX3_did wsX1_has := goodIn_r _ [6, 7, 75, 76, 77, 78, 79, 80, 81] (by decide +kernel) (by decide +kernel)
set_option maxRecDepth 20000 in
theorem gX3_did_X1_has_n92 : GoodIn wsX3_did (wsX1_has) := ggX3_did_X1_has
set_option maxRecDepth 20000 in
theorem ggX3_did_X1_copy : GoodIn wsX3_did wsX1_copy := goodIn_r _ [10, 7, 11, 12, 13, 14, 15, 16, 75, 76, 77, 78, 79, 80, 81] (by decide +kernel) (by decide +kernel)
set_option maxRecDepth 20000 in
theorem gX3_did_X1_copy_n59 : GoodIn wsX3_did (wsX1_copy) := ggX3_did_X1_copy
set_option maxRecDepth 20000 in
theorem ggX3_did_X1_setDeed : GoodIn wsX3_did wsX1_setDeed := goodIn_r _ [19, 12, 75, 76, 77, 78, 79, 80, 81] (by decide +kernel) (by decide +kernel)
set_option maxRecDepth 20000 in
theorem gX3_did_X1_setDeed_n141 : GoodIn wsX3_did (wsX1_setDeed) := ggX3_did_X1_setDeed
set_option maxRecDepth 20000 in
theorem ggX3_did_X3_allSeenIsSo : GoodIn wsX3_did wsX3_allSeenIsSo := goodIn_r _ [24, 25, 26, 27, 28, 29, 23, 30, 2, 3, 4, 5, 6, 7, 31, 32, 33, 14, 34, 35, 36, 37, 38, 39, 40, 41, 42, 43, 44, 45, 46, 47, 11, 48, 49, 50, 51, 12, 52, 53, 54, 55, 13, 56, 57, 58, 59, 60, 61, 62, 64, 65, 66, 67, 68, 69, 70, 71, 72, 73, 74, 75, 76, 77, 78, 79, 80, 81] (by decide +kernel) (by decide +kernel)
set_option maxRecDepth 20000 in
theorem gX3_did_X3_allSeenIsSo : GoodIn wsX3_did (wsV RX3 183 RX3 yX3_allSeenIsSo wsX3_allSeenIsSo) := goodIn_app (goodIn_of _ (by decide +kernel)) ggX3_did_X3_allSeenIsSo
set_option maxRecDepth 20000 in
theorem ggX3_did_X3_bit : GoodIn wsX3_did wsX3_bit := goodIn_r _ [57] (by decide +kernel) (by decide +kernel)
set_option maxRecDepth 20000 in
theorem gX3_did_X3_bit : GoodIn wsX3_did (va_wsS RX3 123 yX3_bit wsX3_bit) := goodIn_app (goodIn_of _ (by decide +kernel)) ggX3_did_X3_bit
theorem dX3_did_0 : decode cX3_did 0 = .ok (.aload_n 0, 1) := by decide +kernel
theorem dX3_did_1 : decode cX3_did 1 = .ok (.getfield 19, 3) := by decide +kernel
theorem dX3_did_4 : decode cX3_did 4 = .ok (.iload_n 1, 1) := by decide +kernel
theorem dX3_did_5 : decode cX3_did 5 = .ok (.invokevirtual 92, 3) := by decide +kernel
theorem dX3_did_8 : decode cX3_did 8 = .ok (.ifCond .ne 5, 3) := by decide +kernel
theorem dX3_did_11 : decode cX3_did 11 = .ok (.iconst (-1), 1) := by decide +kernel
theorem dX3_did_12 : decode cX3_did 12 = .ok (.ireturn, 1) := by decide +kernel
theorem dX3_did_13 : decode cX3_did 13 = .ok (.aload_n 0, 1) := by decide +kernel
theorem dX3_did_14 : decode cX3_did 14 = .ok (.getfield 23, 3) := by decide +kernel
theorem dX3_did_17 : decode cX3_did 17 = .ok (.aload_n 0, 1) := by decide +kernel
theorem dX3_did_18 : decode cX3_did 18 = .ok (.getfield 19, 3) := by decide +kernel
theorem dX3_did_21 : decode cX3_did 21 = .ok (.invokevirtual 59, 3) := by decide +kernel
theorem dX3_did_24 : decode cX3_did 24 = .ok (.iconst 0, 1) := by decide +kernel
theorem dX3_did_25 : decode cX3_did 25 = .ok (.istore_n 2, 1) := by decide +kernel
theorem dX3_did_26 : decode cX3_did 26 = .ok (.iconst 0, 1) := by decide +kernel
theorem dX3_did_27 : decode cX3_did 27 = .ok (.istore_n 3, 1) := by decide +kernel
theorem dX3_did_28 : decode cX3_did 28 = .ok (.iload_n 3, 1) := by decide +kernel
theorem dX3_did_29 : decode cX3_did 29 = .ok (.bipush 10, 2) := by decide +kernel
theorem dX3_did_31 : decode cX3_did 31 = .ok (.if_icmp .ge 32, 3) := by decide +kernel
theorem dX3_did_34 : decode cX3_did 34 = .ok (.aload_n 0, 1) := by decide +kernel
theorem dX3_did_35 : decode cX3_did 35 = .ok (.getfield 23, 3) := by decide +kernel
theorem dX3_did_38 : decode cX3_did 38 = .ok (.iload_n 1, 1) := by decide +kernel
theorem dX3_did_39 : decode cX3_did 39 = .ok (.iload_n 3, 1) := by decide +kernel
theorem dX3_did_40 : decode cX3_did 40 = .ok (.invokevirtual 141, 3) := by decide +kernel
theorem dX3_did_43 : decode cX3_did 43 = .ok (.aload_n 0, 1) := by decide +kernel
theorem dX3_did_44 : decode cX3_did 44 = .ok (.invokevirtual 183, 3) := by decide +kernel
theorem dX3_did_47 : decode cX3_did 47 = .ok (.ifCond .eq 10, 3) := by decide +kernel
theorem dX3_did_50 : decode cX3_did 50 = .ok (.iload_n 2, 1) := by decide +kernel
theorem dX3_did_51 : decode cX3_did 51 = .ok (.iload_n 3, 1) := by decide +kernel
theorem dX3_did_52 : decode cX3_did 52 = .ok (.invokestatic 123, 3) := by decide +kernel
theorem dX3_did_55 : decode cX3_did 55 = .ok (.ior, 1) := by decide +kernel
theorem dX3_did_56 : decode cX3_did 56 = .ok (.istore_n 2, 1) := by decide +kernel
theorem dX3_did_57 : decode cX3_did 57 = .ok (.iinc 3 1, 3) := by decide +kernel
theorem dX3_did_60 : decode cX3_did 60 = .ok (.goto (-32), 3) := by decide +kernel
theorem dX3_did_63 : decode cX3_did 63 = .ok (.iload_n 2, 1) := by decide +kernel
theorem dX3_did_64 : decode cX3_did 64 = .ok (.ireturn, 1) := by decide +kernel
set_option maxRecDepth 20000 in
theorem ggX3_rests_X1_has : GoodIn wsX3_rests wsX1_has := goodIn_r _ [5, 6, 87, 88, 89, 90, 91, 92, 93] (by decide +kernel) (by decide +kernel)
set_option maxRecDepth 20000 in
theorem gX3_rests_X1_has_n92 : GoodIn wsX3_rests (wsX1_has) := ggX3_rests_X1_has
set_option maxRecDepth 20000 in
theorem ggX3_rests_X3_isIn : GoodIn wsX3_rests wsX3_isIn := goodIn_r _ [10] (by decide +kernel) (by decide +kernel)
set_option maxRecDepth 20000 in
theorem gX3_rests_X3_isIn : GoodIn wsX3_rests (va_wsS RX3 107 yX3_isIn wsX3_isIn) := goodIn_app (goodIn_of _ (by decide +kernel)) ggX3_rests_X3_isIn
set_option maxRecDepth 20000 in
theorem ggX3_rests_X3_weighChoices : GoodIn wsX3_rests wsX3_weighChoices := goodIn_r _ [14, 15, 1, 16, 17, 18, 3, 19, 20, 6, 21, 22, 23, 24, 25, 26, 27, 28, 9, 29, 30, 31, 32, 33, 34, 35, 36, 37, 38, 39, 40, 41, 42, 43, 44, 45, 46, 8, 10, 47, 48, 49, 50, 51, 52, 53, 54, 55, 56, 57, 58, 59, 60, 61, 62, 63, 64, 65, 66, 7, 67, 68, 69, 70, 71, 76, 77, 78, 79, 80, 81, 82, 83, 84, 85, 86, 87, 88, 89, 90, 91, 92, 93] (by decide +kernel) (by decide +kernel)
set_option maxRecDepth 20000 in
theorem gX3_rests_X3_weighChoices : GoodIn wsX3_rests (wsV RX3 187 RX3 yX3_weighChoices wsX3_weighChoices) := goodIn_app (goodIn_of _ (by decide +kernel)) ggX3_rests_X3_weighChoices
set_option maxRecDepth 20000 in
theorem ggX3_rests_X3_isRest : GoodIn wsX3_rests wsX3_isRest := goodIn_r _ [75, 1, 16, 17, 76, 77, 78, 79, 80, 81, 82, 83, 84, 85, 86, 87, 88, 89, 90, 91, 92, 93] (by decide +kernel) (by decide +kernel)
set_option maxRecDepth 20000 in
theorem gX3_rests_X3_isRest : GoodIn wsX3_rests (wsV RX3 190 RX3 yX3_isRest wsX3_isRest) := goodIn_app (goodIn_of _ (by decide +kernel)) ggX3_rests_X3_isRest
theorem dX3_rests_0 : decode cX3_rests 0 = .ok (.aload_n 0, 1) := by decide +kernel
theorem dX3_rests_1 : decode cX3_rests 1 = .ok (.getfield 19, 3) := by decide +kernel
theorem dX3_rests_4 : decode cX3_rests 4 = .ok (.iload_n 1, 1) := by decide +kernel
theorem dX3_rests_5 : decode cX3_rests 5 = .ok (.invokevirtual 92, 3) := by decide +kernel
theorem dX3_rests_8 : decode cX3_rests 8 = .ok (.ifCond .eq 14, 3) := by decide +kernel
theorem dX3_rests_11 : decode cX3_rests 11 = .ok (.aload_n 0, 1) := by decide +kernel
theorem dX3_rests_12 : decode cX3_rests 12 = .ok (.getfield 19, 3) := by decide +kernel
theorem dX3_rests_15 : decode cX3_rests 15 = .ok (.iload_n 2, 1) := by decide +kernel
theorem dX3_rests_16 : decode cX3_rests 16 = .ok (.invokevirtual 92, 3) := by decide +kernel
theorem dX3_rests_19 : decode cX3_rests 19 = .ok (.ifCond .ne 5, 3) := by decide +kernel
theorem dX3_rests_22 : decode cX3_rests 22 = .ok (.iconst (-1), 1) := by decide +kernel
theorem dX3_rests_23 : decode cX3_rests 23 = .ok (.ireturn, 1) := by decide +kernel
theorem dX3_rests_24 : decode cX3_rests 24 = .ok (.iload_n 1, 1) := by decide +kernel
theorem dX3_rests_25 : decode cX3_rests 25 = .ok (.iload_n 2, 1) := by decide +kernel
theorem dX3_rests_26 : decode cX3_rests 26 = .ok (.if_icmp .eq 12, 3) := by decide +kernel
theorem dX3_rests_29 : decode cX3_rests 29 = .ok (.iload_n 3, 1) := by decide +kernel
theorem dX3_rests_30 : decode cX3_rests 30 = .ok (.ifCond .lt 8, 3) := by decide +kernel
theorem dX3_rests_33 : decode cX3_rests 33 = .ok (.iload_n 3, 1) := by decide +kernel
theorem dX3_rests_34 : decode cX3_rests 34 = .ok (.iconst 1, 1) := by decide +kernel
theorem dX3_rests_35 : decode cX3_rests 35 = .ok (.if_icmp .le 6, 3) := by decide +kernel
theorem dX3_rests_38 : decode cX3_rests 38 = .ok (.bipush (-2), 2) := by decide +kernel
theorem dX3_rests_40 : decode cX3_rests 40 = .ok (.ireturn, 1) := by decide +kernel
theorem dX3_rests_41 : decode cX3_rests 41 = .ok (.aload_n 0, 1) := by decide +kernel
theorem dX3_rests_42 : decode cX3_rests 42 = .ok (.getfield 19, 3) := by decide +kernel
theorem dX3_rests_45 : decode cX3_rests 45 = .ok (.getfield 72, 3) := by decide +kernel
theorem dX3_rests_48 : decode cX3_rests 48 = .ok (.iload_n 1, 1) := by decide +kernel
theorem dX3_rests_49 : decode cX3_rests 49 = .ok (.invokestatic 107, 3) := by decide +kernel
theorem dX3_rests_52 : decode cX3_rests 52 = .ok (.ifCond .eq 17, 3) := by decide +kernel
theorem dX3_rests_55 : decode cX3_rests 55 = .ok (.aload_n 0, 1) := by decide +kernel
theorem dX3_rests_56 : decode cX3_rests 56 = .ok (.getfield 19, 3) := by decide +kernel
theorem dX3_rests_59 : decode cX3_rests 59 = .ok (.getfield 72, 3) := by decide +kernel
theorem dX3_rests_62 : decode cX3_rests 62 = .ok (.iload_n 2, 1) := by decide +kernel
theorem dX3_rests_63 : decode cX3_rests 63 = .ok (.invokestatic 107, 3) := by decide +kernel
theorem dX3_rests_66 : decode cX3_rests 66 = .ok (.ifCond .ne 6, 3) := by decide +kernel
theorem dX3_rests_69 : decode cX3_rests 69 = .ok (.bipush (-3), 2) := by decide +kernel
theorem dX3_rests_71 : decode cX3_rests 71 = .ok (.ireturn, 1) := by decide +kernel
theorem dX3_rests_72 : decode cX3_rests 72 = .ok (.aload_n 0, 1) := by decide +kernel
theorem dX3_rests_73 : decode cX3_rests 73 = .ok (.iload_n 1, 1) := by decide +kernel
theorem dX3_rests_74 : decode cX3_rests 74 = .ok (.iload_n 2, 1) := by decide +kernel
theorem dX3_rests_75 : decode cX3_rests 75 = .ok (.invokevirtual 187, 3) := by decide +kernel
theorem dX3_rests_78 : decode cX3_rests 78 = .ok (.iconst 0, 1) := by decide +kernel
theorem dX3_rests_79 : decode cX3_rests 79 = .ok (.istore 4, 2) := by decide +kernel
theorem dX3_rests_81 : decode cX3_rests 81 = .ok (.bipush (-9), 2) := by decide +kernel
theorem dX3_rests_83 : decode cX3_rests 83 = .ok (.istore 5, 2) := by decide +kernel
theorem dX3_rests_85 : decode cX3_rests 85 = .ok (.iconst 0, 1) := by decide +kernel
theorem dX3_rests_86 : decode cX3_rests 86 = .ok (.istore 6, 2) := by decide +kernel
theorem dX3_rests_88 : decode cX3_rests 88 = .ok (.iload 6, 2) := by decide +kernel
theorem dX3_rests_90 : decode cX3_rests 90 = .ok (.aload_n 0, 1) := by decide +kernel
theorem dX3_rests_91 : decode cX3_rests 91 = .ok (.getfield 19, 3) := by decide +kernel
theorem dX3_rests_94 : decode cX3_rests 94 = .ok (.getfield 69, 3) := by decide +kernel
theorem dX3_rests_97 : decode cX3_rests 97 = .ok (.if_icmp .gt 64, 3) := by decide +kernel
theorem dX3_rests_100 : decode cX3_rests 100 = .ok (.iconst 0, 1) := by decide +kernel
theorem dX3_rests_101 : decode cX3_rests 101 = .ok (.istore 7, 2) := by decide +kernel
theorem dX3_rests_103 : decode cX3_rests 103 = .ok (.iload 7, 2) := by decide +kernel
theorem dX3_rests_105 : decode cX3_rests 105 = .ok (.aload_n 0, 1) := by decide +kernel
theorem dX3_rests_106 : decode cX3_rests 106 = .ok (.getfield 19, 3) := by decide +kernel
theorem dX3_rests_109 : decode cX3_rests 109 = .ok (.getfield 69, 3) := by decide +kernel
theorem dX3_rests_112 : decode cX3_rests 112 = .ok (.if_icmp .gt 43, 3) := by decide +kernel
theorem dX3_rests_115 : decode cX3_rests 115 = .ok (.aload_n 0, 1) := by decide +kernel
theorem dX3_rests_116 : decode cX3_rests 116 = .ok (.iload 6, 2) := by decide +kernel
theorem dX3_rests_118 : decode cX3_rests 118 = .ok (.iload 7, 2) := by decide +kernel
theorem dX3_rests_120 : decode cX3_rests 120 = .ok (.invokevirtual 190, 3) := by decide +kernel
theorem dX3_rests_123 : decode cX3_rests 123 = .ok (.ifCond .eq 26, 3) := by decide +kernel
theorem dX3_rests_126 : decode cX3_rests 126 = .ok (.iload 4, 2) := by decide +kernel
theorem dX3_rests_128 : decode cX3_rests 128 = .ok (.ifCond .ne 14, 3) := by decide +kernel
theorem dX3_rests_131 : decode cX3_rests 131 = .ok (.bipush 10, 2) := by decide +kernel
theorem dX3_rests_133 : decode cX3_rests 133 = .ok (.iload 6, 2) := by decide +kernel
theorem dX3_rests_135 : decode cX3_rests 135 = .ok (.imul, 1) := by decide +kernel
theorem dX3_rests_136 : decode cX3_rests 136 = .ok (.iload 7, 2) := by decide +kernel
theorem dX3_rests_138 : decode cX3_rests 138 = .ok (.iadd, 1) := by decide +kernel
theorem dX3_rests_139 : decode cX3_rests 139 = .ok (.goto 5, 3) := by decide +kernel
theorem dX3_rests_142 : decode cX3_rests 142 = .ok (.iload 5, 2) := by decide +kernel
theorem dX3_rests_144 : decode cX3_rests 144 = .ok (.istore 5, 2) := by decide +kernel
theorem dX3_rests_146 : decode cX3_rests 146 = .ok (.iinc 4 1, 3) := by decide +kernel
theorem dX3_rests_149 : decode cX3_rests 149 = .ok (.iinc 7 1, 3) := by decide +kernel
theorem dX3_rests_152 : decode cX3_rests 152 = .ok (.goto (-49), 3) := by decide +kernel
theorem dX3_rests_155 : decode cX3_rests 155 = .ok (.iinc 6 1, 3) := by decide +kernel
theorem dX3_rests_158 : decode cX3_rests 158 = .ok (.goto (-70), 3) := by decide +kernel
theorem dX3_rests_161 : decode cX3_rests 161 = .ok (.iload_n 3, 1) := by decide +kernel
theorem dX3_rests_162 : decode cX3_rests 162 = .ok (.ifCond .ne 8, 3) := by decide +kernel
theorem dX3_rests_165 : decode cX3_rests 165 = .ok (.iload 4, 2) := by decide +kernel
theorem dX3_rests_167 : decode cX3_rests 167 = .ok (.goto 5, 3) := by decide +kernel
theorem dX3_rests_170 : decode cX3_rests 170 = .ok (.iload 5, 2) := by decide +kernel
theorem dX3_rests_172 : decode cX3_rests 172 = .ok (.ireturn, 1) := by decide +kernel
set_option maxRecDepth 20000 in
theorem ggX3_toss_X1_has : GoodIn wsX3_toss wsX1_has := goodIn_r _ [5, 6, 63, 64, 65, 66, 67, 68, 69] (by decide +kernel) (by decide +kernel)
set_option maxRecDepth 20000 in
theorem gX3_toss_X1_has_n92 : GoodIn wsX3_toss (wsX1_has) := ggX3_toss_X1_has
set_option maxRecDepth 20000 in
theorem ggX3_toss_X1_isTaken : GoodIn wsX3_toss wsX1_isTaken := goodIn_r _ [9, 10, 11, 12, 3, 13, 6, 14, 15, 16, 17, 18, 19, 20, 21, 22, 23, 24, 25, 26, 27, 28, 29, 30, 31, 32, 33, 34, 35, 36, 37, 38, 39, 40, 41, 63, 64, 65, 66, 67, 68, 69] (by decide +kernel) (by decide +kernel)
set_option maxRecDepth 20000 in
theorem gX3_toss_X1_isTaken_n161 : GoodIn wsX3_toss (wsX1_isTaken) := ggX3_toss_X1_isTaken
set_option maxRecDepth 20000 in
theorem ggX3_toss_X3_inLeastTerms : GoodIn wsX3_toss wsX3_inLeastTerms := goodIn_r _ [44, 45, 46, 47, 48, 49, 50, 19, 51] (by decide +kernel) (by decide +kernel)
set_option maxRecDepth 20000 in
theorem gX3_toss_X3_inLeastTerms : GoodIn wsX3_toss (va_wsS RX3 173 yX3_inLeastTerms wsX3_inLeastTerms) := goodIn_app (goodIn_of _ (by decide +kernel)) ggX3_toss_X3_inLeastTerms
theorem dX3_toss_0 : decode cX3_toss 0 = .ok (.aload_n 0, 1) := by decide +kernel
theorem dX3_toss_1 : decode cX3_toss 1 = .ok (.getfield 19, 3) := by decide +kernel
theorem dX3_toss_4 : decode cX3_toss 4 = .ok (.iload_n 1, 1) := by decide +kernel
theorem dX3_toss_5 : decode cX3_toss 5 = .ok (.invokevirtual 92, 3) := by decide +kernel
theorem dX3_toss_8 : decode cX3_toss 8 = .ok (.ifCond .ne 5, 3) := by decide +kernel
theorem dX3_toss_11 : decode cX3_toss 11 = .ok (.iconst (-1), 1) := by decide +kernel
theorem dX3_toss_12 : decode cX3_toss 12 = .ok (.ireturn, 1) := by decide +kernel
theorem dX3_toss_13 : decode cX3_toss 13 = .ok (.aload_n 0, 1) := by decide +kernel
theorem dX3_toss_14 : decode cX3_toss 14 = .ok (.getfield 19, 3) := by decide +kernel
theorem dX3_toss_17 : decode cX3_toss 17 = .ok (.iload_n 1, 1) := by decide +kernel
theorem dX3_toss_18 : decode cX3_toss 18 = .ok (.aload_n 0, 1) := by decide +kernel
theorem dX3_toss_19 : decode cX3_toss 19 = .ok (.getfield 19, 3) := by decide +kernel
theorem dX3_toss_22 : decode cX3_toss 22 = .ok (.getfield 72, 3) := by decide +kernel
theorem dX3_toss_25 : decode cX3_toss 25 = .ok (.invokevirtual 161, 3) := by decide +kernel
theorem dX3_toss_28 : decode cX3_toss 28 = .ok (.ifCond .eq 7, 3) := by decide +kernel
theorem dX3_toss_31 : decode cX3_toss 31 = .ok (.iconst 1, 1) := by decide +kernel
theorem dX3_toss_32 : decode cX3_toss 32 = .ok (.goto 4, 3) := by decide +kernel
theorem dX3_toss_35 : decode cX3_toss 35 = .ok (.iconst 0, 1) := by decide +kernel
theorem dX3_toss_36 : decode cX3_toss 36 = .ok (.iconst 1, 1) := by decide +kernel
theorem dX3_toss_37 : decode cX3_toss 37 = .ok (.iload_n 2, 1) := by decide +kernel
theorem dX3_toss_38 : decode cX3_toss 38 = .ok (.invokestatic 173, 3) := by decide +kernel
theorem dX3_toss_41 : decode cX3_toss 41 = .ok (.ireturn, 1) := by decide +kernel
theorem dX3_seed_0 : decode cX3_seed 0 = .ok (.aload_n 0, 1) := by decide +kernel
theorem dX3_seed_1 : decode cX3_seed 1 = .ok (.getfield 193, 3) := by decide +kernel
theorem dX3_seed_4 : decode cX3_seed 4 = .ok (.lstore_n 3, 1) := by decide +kernel
theorem dX3_seed_5 : decode cX3_seed 5 = .ok (.aload_n 0, 1) := by decide +kernel
theorem dX3_seed_6 : decode cX3_seed 6 = .ok (.lload_n 1, 1) := by decide +kernel
theorem dX3_seed_7 : decode cX3_seed 7 = .ok (.putfield 193, 3) := by decide +kernel
theorem dX3_seed_10 : decode cX3_seed 10 = .ok (.lload_n 3, 1) := by decide +kernel
theorem dX3_seed_11 : decode cX3_seed 11 = .ok (.lreturn, 1) := by decide +kernel
set_option maxRecDepth 20000 in
theorem ggX3_days_X1_copy : GoodIn wsX3_days wsX1_copy := goodIn_r _ [9, 10, 11, 12, 13, 14, 15, 16, 67, 68, 69, 70, 71, 72, 73] (by decide +kernel) (by decide +kernel)
set_option maxRecDepth 20000 in
theorem gX3_days_X1_copy_n59 : GoodIn wsX3_days (wsX1_copy) := ggX3_days_X1_copy
set_option maxRecDepth 20000 in
theorem ggX3_days_X1_passDay : GoodIn wsX3_days wsX1_passDay := goodIn_r _ [19, 14, 16, 20, 21, 22, 7, 23, 10, 24, 25, 26, 27, 28, 29, 30, 31, 32, 33, 34, 11, 35, 36, 37, 38, 12, 39, 40, 41, 42, 13, 43, 44, 45, 46, 47, 48, 49, 67, 68, 69, 70, 71, 72, 73] (by decide +kernel) (by decide +kernel)
set_option maxRecDepth 20000 in
theorem gX3_days_X1_passDay_n145 : GoodIn wsX3_days (wsX1_passDay) := ggX3_days_X1_passDay
set_option maxRecDepth 20000 in
theorem ggX3_days_X1_has : GoodIn wsX3_days wsX1_has := goodIn_r _ [52, 10, 67, 68, 69, 70, 71, 72, 73] (by decide +kernel) (by decide +kernel)
set_option maxRecDepth 20000 in
theorem gX3_days_X1_has_n92 : GoodIn wsX3_days (wsX1_has) := ggX3_days_X1_has
set_option maxRecDepth 20000 in
theorem ggX3_days_X1_bury : GoodIn wsX3_days wsX1_bury := goodIn_r _ [55, 14, 15, 48, 25, 49, 43, 44, 67, 68, 69, 70, 71, 72, 73] (by decide +kernel) (by decide +kernel)
set_option maxRecDepth 20000 in
theorem gX3_days_X1_bury_n126 : GoodIn wsX3_days (wsX1_bury) := ggX3_days_X1_bury
theorem dX3_days_0 : decode cX3_days 0 = .ok (.iload_n 1, 1) := by decide +kernel
theorem dX3_days_1 : decode cX3_days 1 = .ok (.iconst 1, 1) := by decide +kernel
theorem dX3_days_2 : decode cX3_days 2 = .ok (.if_icmp .lt 9, 3) := by decide +kernel
theorem dX3_days_5 : decode cX3_days 5 = .ok (.iload_n 1, 1) := by decide +kernel
theorem dX3_days_6 : decode cX3_days 6 = .ok (.bipush 30, 2) := by decide +kernel
theorem dX3_days_8 : decode cX3_days 8 = .ok (.if_icmp .le 6, 3) := by decide +kernel
theorem dX3_days_11 : decode cX3_days 11 = .ok (.bipush (-2), 2) := by decide +kernel
theorem dX3_days_13 : decode cX3_days 13 = .ok (.ireturn, 1) := by decide +kernel
theorem dX3_days_14 : decode cX3_days 14 = .ok (.aload_n 0, 1) := by decide +kernel
theorem dX3_days_15 : decode cX3_days 15 = .ok (.getfield 23, 3) := by decide +kernel
theorem dX3_days_18 : decode cX3_days 18 = .ok (.aload_n 0, 1) := by decide +kernel
theorem dX3_days_19 : decode cX3_days 19 = .ok (.getfield 19, 3) := by decide +kernel
theorem dX3_days_22 : decode cX3_days 22 = .ok (.invokevirtual 59, 3) := by decide +kernel
theorem dX3_days_25 : decode cX3_days 25 = .ok (.iconst 0, 1) := by decide +kernel
theorem dX3_days_26 : decode cX3_days 26 = .ok (.istore_n 2, 1) := by decide +kernel
theorem dX3_days_27 : decode cX3_days 27 = .ok (.iconst 0, 1) := by decide +kernel
theorem dX3_days_28 : decode cX3_days 28 = .ok (.istore_n 3, 1) := by decide +kernel
theorem dX3_days_29 : decode cX3_days 29 = .ok (.iload_n 3, 1) := by decide +kernel
theorem dX3_days_30 : decode cX3_days 30 = .ok (.iload_n 1, 1) := by decide +kernel
theorem dX3_days_31 : decode cX3_days 31 = .ok (.if_icmp .ge 89, 3) := by decide +kernel
theorem dX3_days_34 : decode cX3_days 34 = .ok (.aload_n 0, 1) := by decide +kernel
theorem dX3_days_35 : decode cX3_days 35 = .ok (.aload_n 0, 1) := by decide +kernel
theorem dX3_days_36 : decode cX3_days 36 = .ok (.getfield 193, 3) := by decide +kernel
theorem dX3_days_39 : decode cX3_days 39 = .ok (.ldc2_w 196, 3) := by decide +kernel
theorem dX3_days_42 : decode cX3_days 42 = .ok (.lmul, 1) := by decide +kernel
theorem dX3_days_43 : decode cX3_days 43 = .ok (.ldc2_w 198, 3) := by decide +kernel
theorem dX3_days_46 : decode cX3_days 46 = .ok (.ladd, 1) := by decide +kernel
theorem dX3_days_47 : decode cX3_days 47 = .ok (.putfield 193, 3) := by decide +kernel
theorem dX3_days_50 : decode cX3_days 50 = .ok (.aload_n 0, 1) := by decide +kernel
theorem dX3_days_51 : decode cX3_days 51 = .ok (.getfield 193, 3) := by decide +kernel
theorem dX3_days_54 : decode cX3_days 54 = .ok (.bipush 33, 2) := by decide +kernel
theorem dX3_days_56 : decode cX3_days 56 = .ok (.lushr, 1) := by decide +kernel
theorem dX3_days_57 : decode cX3_days 57 = .ok (.l2i, 1) := by decide +kernel
theorem dX3_days_58 : decode cX3_days 58 = .ok (.bipush 12, 2) := by decide +kernel
theorem dX3_days_60 : decode cX3_days 60 = .ok (.irem, 1) := by decide +kernel
theorem dX3_days_61 : decode cX3_days 61 = .ok (.istore 4, 2) := by decide +kernel
theorem dX3_days_63 : decode cX3_days 63 = .ok (.iload 4, 2) := by decide +kernel
theorem dX3_days_65 : decode cX3_days 65 = .ok (.bipush 7, 2) := by decide +kernel
theorem dX3_days_67 : decode cX3_days 67 = .ok (.if_icmp .lt 26, 3) := by decide +kernel
theorem dX3_days_70 : decode cX3_days 70 = .ok (.iload_n 2, 1) := by decide +kernel
theorem dX3_days_71 : decode cX3_days 71 = .ok (.aload_n 0, 1) := by decide +kernel
theorem dX3_days_72 : decode cX3_days 72 = .ok (.getfield 23, 3) := by decide +kernel
theorem dX3_days_75 : decode cX3_days 75 = .ok (.invokevirtual 145, 3) := by decide +kernel
theorem dX3_days_78 : decode cX3_days 78 = .ok (.bipush (-9), 2) := by decide +kernel
theorem dX3_days_80 : decode cX3_days 80 = .ok (.if_icmp .ne 7, 3) := by decide +kernel
theorem dX3_days_83 : decode cX3_days 83 = .ok (.iconst 0, 1) := by decide +kernel
theorem dX3_days_84 : decode cX3_days 84 = .ok (.goto 4, 3) := by decide +kernel
theorem dX3_days_87 : decode cX3_days 87 = .ok (.iconst 1, 1) := by decide +kernel
theorem dX3_days_88 : decode cX3_days 88 = .ok (.iadd, 1) := by decide +kernel
theorem dX3_days_89 : decode cX3_days 89 = .ok (.istore_n 2, 1) := by decide +kernel
theorem dX3_days_90 : decode cX3_days 90 = .ok (.goto 24, 3) := by decide +kernel
theorem dX3_days_93 : decode cX3_days 93 = .ok (.aload_n 0, 1) := by decide +kernel
theorem dX3_days_94 : decode cX3_days 94 = .ok (.getfield 23, 3) := by decide +kernel
theorem dX3_days_97 : decode cX3_days 97 = .ok (.iload 4, 2) := by decide +kernel
theorem dX3_days_99 : decode cX3_days 99 = .ok (.invokevirtual 92, 3) := by decide +kernel
theorem dX3_days_102 : decode cX3_days 102 = .ok (.ifCond .eq 12, 3) := by decide +kernel
theorem dX3_days_105 : decode cX3_days 105 = .ok (.aload_n 0, 1) := by decide +kernel
theorem dX3_days_106 : decode cX3_days 106 = .ok (.getfield 23, 3) := by decide +kernel
theorem dX3_days_109 : decode cX3_days 109 = .ok (.iload 4, 2) := by decide +kernel
theorem dX3_days_111 : decode cX3_days 111 = .ok (.invokevirtual 126, 3) := by decide +kernel
theorem dX3_days_114 : decode cX3_days 114 = .ok (.iinc 3 1, 3) := by decide +kernel
theorem dX3_days_117 : decode cX3_days 117 = .ok (.goto (-88), 3) := by decide +kernel
theorem dX3_days_120 : decode cX3_days 120 = .ok (.iload_n 2, 1) := by decide +kernel
theorem dX3_days_121 : decode cX3_days 121 = .ok (.ireturn, 1) := by decide +kernel
set_option maxRecDepth 20000 in
theorem ggX3_keep_X1_copy : GoodIn wsX3_keep wsX1_copy := goodIn_r _ [7, 8, 9, 10, 11, 12, 13, 14, 30, 31, 32, 33, 34, 35, 36] (by decide +kernel) (by decide +kernel)
set_option maxRecDepth 20000 in
theorem gX3_keep_X1_copy_n59 : GoodIn wsX3_keep (wsX1_copy) := ggX3_keep_X1_copy
set_option maxRecDepth 20000 in
theorem ggX3_keep_X3_bit : GoodIn wsX3_keep wsX3_bit := goodIn_r _ [18] (by decide +kernel) (by decide +kernel)
set_option maxRecDepth 20000 in
theorem gX3_keep_X3_bit : GoodIn wsX3_keep (va_wsS RX3 123 yX3_bit wsX3_bit) := goodIn_app (goodIn_of _ (by decide +kernel)) ggX3_keep_X3_bit
theorem dX3_keep_0 : decode cX3_keep 0 = .ok (.iload_n 1, 1) := by decide +kernel
theorem dX3_keep_1 : decode cX3_keep 1 = .ok (.ifCond .lt 8, 3) := by decide +kernel
theorem dX3_keep_4 : decode cX3_keep 4 = .ok (.iload_n 1, 1) := by decide +kernel
theorem dX3_keep_5 : decode cX3_keep 5 = .ok (.iconst 2, 1) := by decide +kernel
theorem dX3_keep_6 : decode cX3_keep 6 = .ok (.if_icmp .lt 5, 3) := by decide +kernel
theorem dX3_keep_9 : decode cX3_keep 9 = .ok (.iconst (-1), 1) := by decide +kernel
theorem dX3_keep_10 : decode cX3_keep 10 = .ok (.ireturn, 1) := by decide +kernel
theorem dX3_keep_11 : decode cX3_keep 11 = .ok (.aload_n 0, 1) := by decide +kernel
theorem dX3_keep_12 : decode cX3_keep 12 = .ok (.getfield 33, 3) := by decide +kernel
theorem dX3_keep_15 : decode cX3_keep 15 = .ok (.iload_n 1, 1) := by decide +kernel
theorem dX3_keep_16 : decode cX3_keep 16 = .ok (.aaload, 1) := by decide +kernel
theorem dX3_keep_17 : decode cX3_keep 17 = .ok (.aload_n 0, 1) := by decide +kernel
theorem dX3_keep_18 : decode cX3_keep 18 = .ok (.getfield 19, 3) := by decide +kernel
theorem dX3_keep_21 : decode cX3_keep 21 = .ok (.invokevirtual 59, 3) := by decide +kernel
theorem dX3_keep_24 : decode cX3_keep 24 = .ok (.aload_n 0, 1) := by decide +kernel
theorem dX3_keep_25 : decode cX3_keep 25 = .ok (.dup, 1) := by decide +kernel
theorem dX3_keep_26 : decode cX3_keep 26 = .ok (.getfield 66, 3) := by decide +kernel
theorem dX3_keep_29 : decode cX3_keep 29 = .ok (.iload_n 1, 1) := by decide +kernel
theorem dX3_keep_30 : decode cX3_keep 30 = .ok (.invokestatic 123, 3) := by decide +kernel
theorem dX3_keep_33 : decode cX3_keep 33 = .ok (.ior, 1) := by decide +kernel
theorem dX3_keep_34 : decode cX3_keep 34 = .ok (.putfield 66, 3) := by decide +kernel
theorem dX3_keep_37 : decode cX3_keep 37 = .ok (.aload_n 0, 1) := by decide +kernel
theorem dX3_keep_38 : decode cX3_keep 38 = .ok (.getfield 19, 3) := by decide +kernel
theorem dX3_keep_41 : decode cX3_keep 41 = .ok (.getfield 86, 3) := by decide +kernel
theorem dX3_keep_44 : decode cX3_keep 44 = .ok (.ireturn, 1) := by decide +kernel
set_option maxRecDepth 20000 in
theorem ggX3_again_X3_isIn : GoodIn wsX3_again wsX3_isIn := goodIn_r _ [8] (by decide +kernel) (by decide +kernel)
set_option maxRecDepth 20000 in
theorem gX3_again_X3_isIn : GoodIn wsX3_again (va_wsS RX3 107 yX3_isIn wsX3_isIn) := goodIn_app (goodIn_of _ (by decide +kernel)) ggX3_again_X3_isIn
set_option maxRecDepth 20000 in
theorem ggX3_again_X1_copy : GoodIn wsX3_again wsX1_copy := goodIn_r _ [12, 13, 14, 15, 16, 17, 18, 19, 34, 35, 36, 37, 38, 39, 40] (by decide +kernel) (by decide +kernel)
set_option maxRecDepth 20000 in
theorem gX3_again_X1_copy_n59 : GoodIn wsX3_again (wsX1_copy) := ggX3_again_X1_copy
theorem dX3_again_0 : decode cX3_again 0 = .ok (.iload_n 1, 1) := by decide +kernel
theorem dX3_again_1 : decode cX3_again 1 = .ok (.ifCond .lt 8, 3) := by decide +kernel
theorem dX3_again_4 : decode cX3_again 4 = .ok (.iload_n 1, 1) := by decide +kernel
theorem dX3_again_5 : decode cX3_again 5 = .ok (.iconst 2, 1) := by decide +kernel
theorem dX3_again_6 : decode cX3_again 6 = .ok (.if_icmp .lt 5, 3) := by decide +kernel
theorem dX3_again_9 : decode cX3_again 9 = .ok (.iconst (-1), 1) := by decide +kernel
theorem dX3_again_10 : decode cX3_again 10 = .ok (.ireturn, 1) := by decide +kernel
theorem dX3_again_11 : decode cX3_again 11 = .ok (.aload_n 0, 1) := by decide +kernel
theorem dX3_again_12 : decode cX3_again 12 = .ok (.getfield 66, 3) := by decide +kernel
theorem dX3_again_15 : decode cX3_again 15 = .ok (.iload_n 1, 1) := by decide +kernel
theorem dX3_again_16 : decode cX3_again 16 = .ok (.invokestatic 107, 3) := by decide +kernel
theorem dX3_again_19 : decode cX3_again 19 = .ok (.ifCond .ne 6, 3) := by decide +kernel
theorem dX3_again_22 : decode cX3_again 22 = .ok (.bipush (-3), 2) := by decide +kernel
theorem dX3_again_24 : decode cX3_again 24 = .ok (.ireturn, 1) := by decide +kernel
theorem dX3_again_25 : decode cX3_again 25 = .ok (.aload_n 0, 1) := by decide +kernel
theorem dX3_again_26 : decode cX3_again 26 = .ok (.getfield 19, 3) := by decide +kernel
theorem dX3_again_29 : decode cX3_again 29 = .ok (.aload_n 0, 1) := by decide +kernel
theorem dX3_again_30 : decode cX3_again 30 = .ok (.getfield 33, 3) := by decide +kernel
theorem dX3_again_33 : decode cX3_again 33 = .ok (.iload_n 1, 1) := by decide +kernel
theorem dX3_again_34 : decode cX3_again 34 = .ok (.aaload, 1) := by decide +kernel
theorem dX3_again_35 : decode cX3_again 35 = .ok (.invokevirtual 59, 3) := by decide +kernel
theorem dX3_again_38 : decode cX3_again 38 = .ok (.aload_n 0, 1) := by decide +kernel
theorem dX3_again_39 : decode cX3_again 39 = .ok (.getfield 29, 3) := by decide +kernel
theorem dX3_again_42 : decode cX3_again 42 = .ok (.iconst 0, 1) := by decide +kernel
theorem dX3_again_43 : decode cX3_again 43 = .ok (.putfield 63, 3) := by decide +kernel
theorem dX3_again_46 : decode cX3_again 46 = .ok (.aload_n 0, 1) := by decide +kernel
theorem dX3_again_47 : decode cX3_again 47 = .ok (.getfield 19, 3) := by decide +kernel
theorem dX3_again_50 : decode cX3_again 50 = .ok (.getfield 86, 3) := by decide +kernel
theorem dX3_again_53 : decode cX3_again 53 = .ok (.ireturn, 1) := by decide +kernel
set_option maxRecDepth 20000 in
theorem ggX3_onePair_X3_newPair : GoodIn wsX3_onePair wsX3_newPair := goodIn_r _ [6, 1, 7, 8, 9, 10, 11, 12, 13, 14, 15, 16, 5, 17, 18, 54, 55, 56, 57, 58, 59, 60, 61, 62, 63, 64, 65, 66, 67, 68, 69, 70, 71] (by decide +kernel) (by decide +kernel)
set_option maxRecDepth 20000 in
theorem gX3_onePair_X3_newPair : GoodIn wsX3_onePair (wsV RX3 200 RX3 yX3_newPair wsX3_newPair) := goodIn_app (goodIn_of _ (by decide +kernel)) ggX3_onePair_X3_newPair
set_option maxRecDepth 20000 in
theorem ggX3_onePair_X3_savesByFeeding : GoodIn wsX3_onePair wsX3_savesByFeeding := goodIn_r _ [22, 23, 1, 24, 8, 25, 26, 11, 27, 28, 29, 30, 31, 5, 32, 33, 34, 35, 36, 37, 38, 39, 40, 41, 42, 43, 44, 45, 46, 47, 48, 49, 50, 15, 51, 52, 53, 54, 55, 56, 57, 58, 59, 60, 61, 62, 63, 64, 65, 66, 67, 68, 69, 70, 71] (by decide +kernel) (by decide +kernel)
set_option maxRecDepth 20000 in
theorem gX3_onePair_X3_savesByFeeding : GoodIn wsX3_onePair (wsV RX3 204 RX3 yX3_savesByFeeding wsX3_savesByFeeding) := goodIn_app (goodIn_of _ (by decide +kernel)) ggX3_onePair_X3_savesByFeeding
theorem dX3_onePair_0 : decode cX3_onePair 0 = .ok (.iconst 0, 1) := by decide +kernel
theorem dX3_onePair_1 : decode cX3_onePair 1 = .ok (.istore_n 2, 1) := by decide +kernel
theorem dX3_onePair_2 : decode cX3_onePair 2 = .ok (.iload_n 2, 1) := by decide +kernel
theorem dX3_onePair_3 : decode cX3_onePair 3 = .ok (.bipush 10, 2) := by decide +kernel
theorem dX3_onePair_5 : decode cX3_onePair 5 = .ok (.aload_n 0, 1) := by decide +kernel
theorem dX3_onePair_6 : decode cX3_onePair 6 = .ok (.getfield 19, 3) := by decide +kernel
theorem dX3_onePair_9 : decode cX3_onePair 9 = .ok (.getfield 69, 3) := by decide +kernel
theorem dX3_onePair_12 : decode cX3_onePair 12 = .ok (.imul, 1) := by decide +kernel
theorem dX3_onePair_13 : decode cX3_onePair 13 = .ok (.if_icmp .ge 32, 3) := by decide +kernel
theorem dX3_onePair_16 : decode cX3_onePair 16 = .ok (.aload_n 0, 1) := by decide +kernel
theorem dX3_onePair_17 : decode cX3_onePair 17 = .ok (.iload_n 2, 1) := by decide +kernel
theorem dX3_onePair_18 : decode cX3_onePair 18 = .ok (.invokevirtual 200, 3) := by decide +kernel
theorem dX3_onePair_21 : decode cX3_onePair 21 = .ok (.lstore_n 3, 1) := by decide +kernel
theorem dX3_onePair_22 : decode cX3_onePair 22 = .ok (.lload_n 3, 1) := by decide +kernel
theorem dX3_onePair_23 : decode cX3_onePair 23 = .ok (.lconst 0, 1) := by decide +kernel
theorem dX3_onePair_24 : decode cX3_onePair 24 = .ok (.lcmp, 1) := by decide +kernel
theorem dX3_onePair_25 : decode cX3_onePair 25 = .ok (.ifCond .eq 14, 3) := by decide +kernel
theorem dX3_onePair_28 : decode cX3_onePair 28 = .ok (.aload_n 0, 1) := by decide +kernel
theorem dX3_onePair_29 : decode cX3_onePair 29 = .ok (.iload_n 1, 1) := by decide +kernel
theorem dX3_onePair_30 : decode cX3_onePair 30 = .ok (.lload_n 3, 1) := by decide +kernel
theorem dX3_onePair_31 : decode cX3_onePair 31 = .ok (.invokevirtual 204, 3) := by decide +kernel
theorem dX3_onePair_34 : decode cX3_onePair 34 = .ok (.ifCond .eq 5, 3) := by decide +kernel
theorem dX3_onePair_37 : decode cX3_onePair 37 = .ok (.iload_n 2, 1) := by decide +kernel
theorem dX3_onePair_38 : decode cX3_onePair 38 = .ok (.ireturn, 1) := by decide +kernel
theorem dX3_onePair_39 : decode cX3_onePair 39 = .ok (.iinc 2 1, 3) := by decide +kernel
theorem dX3_onePair_42 : decode cX3_onePair 42 = .ok (.goto (-40), 3) := by decide +kernel
theorem dX3_onePair_45 : decode cX3_onePair 45 = .ok (.bipush (-9), 2) := by decide +kernel
theorem dX3_onePair_47 : decode cX3_onePair 47 = .ok (.ireturn, 1) := by decide +kernel
set_option maxRecDepth 20000 in
theorem ggX3_twoPairs_X3_newPair : GoodIn wsX3_twoPairs wsX3_newPair := goodIn_r _ [6, 1, 7, 8, 9, 10, 11, 12, 13, 14, 15, 16, 5, 17, 18, 54, 55, 56, 57, 58, 59, 60, 61, 62, 63, 64, 65, 66, 67, 68, 69, 70, 71] (by decide +kernel) (by decide +kernel)
set_option maxRecDepth 20000 in
theorem gX3_twoPairs_X3_newPair : GoodIn wsX3_twoPairs (wsV RX3 200 RX3 yX3_newPair wsX3_newPair) := goodIn_app (goodIn_of _ (by decide +kernel)) ggX3_twoPairs_X3_newPair
set_option maxRecDepth 20000 in
theorem ggX3_twoPairs_X3_savesByFeeding : GoodIn wsX3_twoPairs wsX3_savesByFeeding := goodIn_r _ [22, 23, 1, 24, 8, 25, 26, 11, 27, 28, 29, 30, 31, 5, 32, 33, 34, 35, 36, 37, 38, 39, 40, 41, 42, 43, 44, 45, 46, 47, 48, 49, 50, 15, 51, 52, 53, 54, 55, 56, 57, 58, 59, 60, 61, 62, 63, 64, 65, 66, 67, 68, 69, 70, 71] (by decide +kernel) (by decide +kernel)
set_option maxRecDepth 20000 in
theorem gX3_twoPairs_X3_savesByFeeding : GoodIn wsX3_twoPairs (wsV RX3 204 RX3 yX3_savesByFeeding wsX3_savesByFeeding) := goodIn_app (goodIn_of _ (by decide +kernel)) ggX3_twoPairs_X3_savesByFeeding
theorem dX3_twoPairs_0 : decode cX3_twoPairs 0 = .ok (.bipush 10, 2) := by decide +kernel
theorem dX3_twoPairs_2 : decode cX3_twoPairs 2 = .ok (.aload_n 0, 1) := by decide +kernel
theorem dX3_twoPairs_3 : decode cX3_twoPairs 3 = .ok (.getfield 19, 3) := by decide +kernel
theorem dX3_twoPairs_6 : decode cX3_twoPairs 6 = .ok (.getfield 69, 3) := by decide +kernel
theorem dX3_twoPairs_9 : decode cX3_twoPairs 9 = .ok (.imul, 1) := by decide +kernel
theorem dX3_twoPairs_10 : decode cX3_twoPairs 10 = .ok (.istore_n 2, 1) := by decide +kernel
theorem dX3_twoPairs_11 : decode cX3_twoPairs 11 = .ok (.iconst 0, 1) := by decide +kernel
theorem dX3_twoPairs_12 : decode cX3_twoPairs 12 = .ok (.istore_n 3, 1) := by decide +kernel
theorem dX3_twoPairs_13 : decode cX3_twoPairs 13 = .ok (.iload_n 3, 1) := by decide +kernel
theorem dX3_twoPairs_14 : decode cX3_twoPairs 14 = .ok (.iload_n 2, 1) := by decide +kernel
theorem dX3_twoPairs_15 : decode cX3_twoPairs 15 = .ok (.if_icmp .ge 76, 3) := by decide +kernel
theorem dX3_twoPairs_18 : decode cX3_twoPairs 18 = .ok (.aload_n 0, 1) := by decide +kernel
theorem dX3_twoPairs_19 : decode cX3_twoPairs 19 = .ok (.iload_n 3, 1) := by decide +kernel
theorem dX3_twoPairs_20 : decode cX3_twoPairs 20 = .ok (.invokevirtual 200, 3) := by decide +kernel
theorem dX3_twoPairs_23 : decode cX3_twoPairs 23 = .ok (.lstore 4, 2) := by decide +kernel
theorem dX3_twoPairs_25 : decode cX3_twoPairs 25 = .ok (.iload_n 3, 1) := by decide +kernel
theorem dX3_twoPairs_26 : decode cX3_twoPairs 26 = .ok (.iconst 1, 1) := by decide +kernel
theorem dX3_twoPairs_27 : decode cX3_twoPairs 27 = .ok (.iadd, 1) := by decide +kernel
theorem dX3_twoPairs_28 : decode cX3_twoPairs 28 = .ok (.istore 6, 2) := by decide +kernel
theorem dX3_twoPairs_30 : decode cX3_twoPairs 30 = .ok (.lload 4, 2) := by decide +kernel
theorem dX3_twoPairs_32 : decode cX3_twoPairs 32 = .ok (.lconst 0, 1) := by decide +kernel
theorem dX3_twoPairs_33 : decode cX3_twoPairs 33 = .ok (.lcmp, 1) := by decide +kernel
theorem dX3_twoPairs_34 : decode cX3_twoPairs 34 = .ok (.ifCond .eq 51, 3) := by decide +kernel
theorem dX3_twoPairs_37 : decode cX3_twoPairs 37 = .ok (.iload 6, 2) := by decide +kernel
theorem dX3_twoPairs_39 : decode cX3_twoPairs 39 = .ok (.iload_n 2, 1) := by decide +kernel
theorem dX3_twoPairs_40 : decode cX3_twoPairs 40 = .ok (.if_icmp .ge 45, 3) := by decide +kernel
theorem dX3_twoPairs_43 : decode cX3_twoPairs 43 = .ok (.aload_n 0, 1) := by decide +kernel
theorem dX3_twoPairs_44 : decode cX3_twoPairs 44 = .ok (.iload 6, 2) := by decide +kernel
theorem dX3_twoPairs_46 : decode cX3_twoPairs 46 = .ok (.invokevirtual 200, 3) := by decide +kernel
theorem dX3_twoPairs_49 : decode cX3_twoPairs 49 = .ok (.lstore 7, 2) := by decide +kernel
theorem dX3_twoPairs_51 : decode cX3_twoPairs 51 = .ok (.lload 7, 2) := by decide +kernel
theorem dX3_twoPairs_53 : decode cX3_twoPairs 53 = .ok (.lconst 0, 1) := by decide +kernel
theorem dX3_twoPairs_54 : decode cX3_twoPairs 54 = .ok (.lcmp, 1) := by decide +kernel
theorem dX3_twoPairs_55 : decode cX3_twoPairs 55 = .ok (.ifCond .eq 24, 3) := by decide +kernel
theorem dX3_twoPairs_58 : decode cX3_twoPairs 58 = .ok (.aload_n 0, 1) := by decide +kernel
theorem dX3_twoPairs_59 : decode cX3_twoPairs 59 = .ok (.iload_n 1, 1) := by decide +kernel
theorem dX3_twoPairs_60 : decode cX3_twoPairs 60 = .ok (.lload 4, 2) := by decide +kernel
theorem dX3_twoPairs_62 : decode cX3_twoPairs 62 = .ok (.lload 7, 2) := by decide +kernel
theorem dX3_twoPairs_64 : decode cX3_twoPairs 64 = .ok (.lor, 1) := by decide +kernel
theorem dX3_twoPairs_65 : decode cX3_twoPairs 65 = .ok (.invokevirtual 204, 3) := by decide +kernel
theorem dX3_twoPairs_68 : decode cX3_twoPairs 68 = .ok (.ifCond .eq 11, 3) := by decide +kernel
theorem dX3_twoPairs_71 : decode cX3_twoPairs 71 = .ok (.bipush 100, 2) := by decide +kernel
theorem dX3_twoPairs_73 : decode cX3_twoPairs 73 = .ok (.iload_n 3, 1) := by decide +kernel
theorem dX3_twoPairs_74 : decode cX3_twoPairs 74 = .ok (.imul, 1) := by decide +kernel
theorem dX3_twoPairs_75 : decode cX3_twoPairs 75 = .ok (.iload 6, 2) := by decide +kernel
theorem dX3_twoPairs_77 : decode cX3_twoPairs 77 = .ok (.iadd, 1) := by decide +kernel
theorem dX3_twoPairs_78 : decode cX3_twoPairs 78 = .ok (.ireturn, 1) := by decide +kernel
theorem dX3_twoPairs_79 : decode cX3_twoPairs 79 = .ok (.iinc 6 1, 3) := by decide +kernel
theorem dX3_twoPairs_82 : decode cX3_twoPairs 82 = .ok (.goto (-52), 3) := by decide +kernel
theorem dX3_twoPairs_85 : decode cX3_twoPairs 85 = .ok (.iinc 3 1, 3) := by decide +kernel
theorem dX3_twoPairs_88 : decode cX3_twoPairs 88 = .ok (.goto (-75), 3) := by decide +kernel
theorem dX3_twoPairs_91 : decode cX3_twoPairs 91 = .ok (.bipush (-9), 2) := by decide +kernel
theorem dX3_twoPairs_93 : decode cX3_twoPairs 93 = .ok (.ireturn, 1) := by decide +kernel
set_option maxRecDepth 20000 in
theorem ggX3_newPair_X1_has : GoodIn wsX3_newPair wsX1_has := goodIn_r _ [5, 6, 26, 27, 28, 29, 30, 31, 32] (by decide +kernel) (by decide +kernel)
set_option maxRecDepth 20000 in
theorem gX3_newPair_X1_has_n92 : GoodIn wsX3_newPair (wsX1_has) := ggX3_newPair_X1_has
set_option maxRecDepth 20000 in
theorem ggX3_newPair_X1_feeds : GoodIn wsX3_newPair wsX1_feeds := goodIn_r _ [9, 10, 11, 12, 13, 26, 27, 28, 29, 30, 31, 32] (by decide +kernel) (by decide +kernel)
set_option maxRecDepth 20000 in
theorem gX3_newPair_X1_feeds_n138 : GoodIn wsX3_newPair (wsX1_feeds) := ggX3_newPair_X1_feeds
set_option maxRecDepth 20000 in
theorem ggX3_newPair_X3_pair : GoodIn wsX3_newPair wsX3_pair := goodIn_r _ [13] (by decide +kernel) (by decide +kernel)
set_option maxRecDepth 20000 in
theorem gX3_newPair_X3_pair : GoodIn wsX3_newPair (va_wsS RX3 134 yX3_pair wsX3_pair) := goodIn_app (goodIn_of _ (by decide +kernel)) ggX3_newPair_X3_pair
theorem dX3_newPair_0 : decode cX3_newPair 0 = .ok (.iload_n 1, 1) := by decide +kernel
theorem dX3_newPair_1 : decode cX3_newPair 1 = .ok (.bipush 10, 2) := by decide +kernel
theorem dX3_newPair_3 : decode cX3_newPair 3 = .ok (.idiv, 1) := by decide +kernel
theorem dX3_newPair_4 : decode cX3_newPair 4 = .ok (.istore_n 2, 1) := by decide +kernel
theorem dX3_newPair_5 : decode cX3_newPair 5 = .ok (.iload_n 1, 1) := by decide +kernel
theorem dX3_newPair_6 : decode cX3_newPair 6 = .ok (.bipush 10, 2) := by decide +kernel
theorem dX3_newPair_8 : decode cX3_newPair 8 = .ok (.irem, 1) := by decide +kernel
theorem dX3_newPair_9 : decode cX3_newPair 9 = .ok (.istore_n 3, 1) := by decide +kernel
theorem dX3_newPair_10 : decode cX3_newPair 10 = .ok (.aload_n 0, 1) := by decide +kernel
theorem dX3_newPair_11 : decode cX3_newPair 11 = .ok (.getfield 19, 3) := by decide +kernel
theorem dX3_newPair_14 : decode cX3_newPair 14 = .ok (.iload_n 2, 1) := by decide +kernel
theorem dX3_newPair_15 : decode cX3_newPair 15 = .ok (.invokevirtual 92, 3) := by decide +kernel
theorem dX3_newPair_18 : decode cX3_newPair 18 = .ok (.ifCond .eq 35, 3) := by decide +kernel
theorem dX3_newPair_21 : decode cX3_newPair 21 = .ok (.aload_n 0, 1) := by decide +kernel
theorem dX3_newPair_22 : decode cX3_newPair 22 = .ok (.getfield 19, 3) := by decide +kernel
