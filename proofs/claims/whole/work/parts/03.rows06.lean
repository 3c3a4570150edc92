theorem dX4_lateness_5 : decode cX4_lateness 5 = .ok (.iload_n 1, 1) := by decide +kernel
theorem dX4_lateness_6 : decode cX4_lateness 6 = .ok (.invokevirtual 159, 3) := by decide +kernel
theorem dX4_lateness_9 : decode cX4_lateness 9 = .ok (.bipush (-9), 2) := by decide +kernel
theorem dX4_lateness_11 : decode cX4_lateness 11 = .ok (.if_icmp .ne 8, 3) := by decide +kernel
theorem dX4_lateness_14 : decode cX4_lateness 14 = .ok (.bipush 9, 2) := by decide +kernel
theorem dX4_lateness_16 : decode cX4_lateness 16 = .ok (.goto 8, 3) := by decide +kernel
theorem dX4_lateness_19 : decode cX4_lateness 19 = .ok (.aload_n 0, 1) := by decide +kernel
theorem dX4_lateness_20 : decode cX4_lateness 20 = .ok (.iload_n 1, 1) := by decide +kernel
theorem dX4_lateness_21 : decode cX4_lateness 21 = .ok (.invokevirtual 159, 3) := by decide +kernel
theorem dX4_lateness_24 : decode cX4_lateness 24 = .ok (.ireturn, 1) := by decide +kernel
set_option maxRecDepth 20000 in
theorem ggX4_claim_X4_noPerson : GoodIn wsX4_claim wsX4_noPerson := goodIn_r _ [8, 9, 10, 11, 7, 12, 50, 51, 52, 53, 54, 55, 56, 57, 58, 59, 60, 61, 62, 63, 64, 65, 66, 67, 68, 69, 70, 71, 72, 73, 74, 75, 76, 77, 78] (by decide +kernel) (by decide +kernel)
set_option maxRecDepth 20000 in
theorem gX4_claim_X4_noPerson : GoodIn wsX4_claim (wsV RX4 134 RX4 yX4_noPerson wsX4_noPerson) := goodIn_app (goodIn_of _ (by decide +kernel)) ggX4_claim_X4_noPerson
set_option maxRecDepth 20000 in
theorem ggX4_claim_X4_has : GoodIn wsX4_claim wsX4_has := goodIn_r _ [15] (by decide +kernel) (by decide +kernel)
set_option maxRecDepth 20000 in
theorem gX4_claim_X4_has : GoodIn wsX4_claim (va_wsS RX4 89 yX4_has wsX4_has) := goodIn_app (goodIn_of _ (by decide +kernel)) ggX4_claim_X4_has
set_option maxRecDepth 20000 in
theorem ggX4_claim_X4_begin : GoodIn wsX4_claim wsX4_begin := goodIn_r _ [19, 3, 2, 50, 51, 52, 53, 54, 55, 56, 57, 58, 59, 60, 61, 62, 63, 64, 65, 66, 67, 68, 69, 70, 71, 72, 73, 74, 75, 76, 77, 78] (by decide +kernel) (by decide +kernel)
set_option maxRecDepth 20000 in
theorem gX4_claim_X4_begin : GoodIn wsX4_claim (wsV RX4 153 RX4 yX4_begin wsX4_begin) := goodIn_app (goodIn_of _ (by decide +kernel)) ggX4_claim_X4_begin
set_option maxRecDepth 20000 in
theorem ggX4_claim_X4_lateness : GoodIn wsX4_claim wsX4_lateness := goodIn_r _ [23, 24, 25, 26, 7, 27, 28, 3, 29, 30, 31, 32, 33, 9, 13, 14, 15, 34, 35, 36, 37, 38, 39, 40, 41, 42, 43, 44, 45, 46, 47, 48, 49, 50, 51, 52, 53, 54, 55, 56, 57, 58, 59, 60, 61, 62, 63, 64, 65, 66, 67, 68, 69, 70, 71, 72, 73, 74, 75, 76, 77, 78] (by decide +kernel) (by decide +kernel)
set_option maxRecDepth 20000 in
theorem gX4_claim_X4_lateness : GoodIn wsX4_claim (wsV RX4 179 RX4 yX4_lateness wsX4_lateness) := goodIn_app (goodIn_of _ (by decide +kernel)) ggX4_claim_X4_lateness
theorem dX4_claim_0 : decode cX4_claim 0 = .ok (.aload_n 0, 1) := by decide +kernel
theorem dX4_claim_1 : decode cX4_claim 1 = .ok (.iconst 0, 1) := by decide +kernel
theorem dX4_claim_2 : decode cX4_claim 2 = .ok (.putfield 60, 3) := by decide +kernel
theorem dX4_claim_5 : decode cX4_claim 5 = .ok (.aload_n 0, 1) := by decide +kernel
theorem dX4_claim_6 : decode cX4_claim 6 = .ok (.iload_n 1, 1) := by decide +kernel
theorem dX4_claim_7 : decode cX4_claim 7 = .ok (.invokevirtual 134, 3) := by decide +kernel
theorem dX4_claim_10 : decode cX4_claim 10 = .ok (.ifCond .eq 5, 3) := by decide +kernel
theorem dX4_claim_13 : decode cX4_claim 13 = .ok (.iconst (-1), 1) := by decide +kernel
theorem dX4_claim_14 : decode cX4_claim 14 = .ok (.ireturn, 1) := by decide +kernel
theorem dX4_claim_15 : decode cX4_claim 15 = .ok (.aload_n 0, 1) := by decide +kernel
theorem dX4_claim_16 : decode cX4_claim 16 = .ok (.getfield 25, 3) := by decide +kernel
theorem dX4_claim_19 : decode cX4_claim 19 = .ok (.bipush 14, 2) := by decide +kernel
theorem dX4_claim_21 : decode cX4_claim 21 = .ok (.iaload, 1) := by decide +kernel
theorem dX4_claim_22 : decode cX4_claim 22 = .ok (.iload_n 1, 1) := by decide +kernel
theorem dX4_claim_23 : decode cX4_claim 23 = .ok (.invokestatic 89, 3) := by decide +kernel
theorem dX4_claim_26 : decode cX4_claim 26 = .ok (.ifCond .ne 6, 3) := by decide +kernel
theorem dX4_claim_29 : decode cX4_claim 29 = .ok (.bipush (-3), 2) := by decide +kernel
theorem dX4_claim_31 : decode cX4_claim 31 = .ok (.ireturn, 1) := by decide +kernel
theorem dX4_claim_32 : decode cX4_claim 32 = .ok (.bipush (-9), 2) := by decide +kernel
theorem dX4_claim_34 : decode cX4_claim 34 = .ok (.istore_n 2, 1) := by decide +kernel
theorem dX4_claim_35 : decode cX4_claim 35 = .ok (.bipush (-9), 2) := by decide +kernel
theorem dX4_claim_37 : decode cX4_claim 37 = .ok (.istore_n 3, 1) := by decide +kernel
theorem dX4_claim_38 : decode cX4_claim 38 = .ok (.iconst 0, 1) := by decide +kernel
theorem dX4_claim_39 : decode cX4_claim 39 = .ok (.istore 4, 2) := by decide +kernel
theorem dX4_claim_41 : decode cX4_claim 41 = .ok (.iload 4, 2) := by decide +kernel
theorem dX4_claim_43 : decode cX4_claim 43 = .ok (.bipush 10, 2) := by decide +kernel
theorem dX4_claim_45 : decode cX4_claim 45 = .ok (.if_icmp .ge 56, 3) := by decide +kernel
theorem dX4_claim_48 : decode cX4_claim 48 = .ok (.aload_n 0, 1) := by decide +kernel
theorem dX4_claim_49 : decode cX4_claim 49 = .ok (.invokevirtual 153, 3) := by decide +kernel
theorem dX4_claim_52 : decode cX4_claim 52 = .ok (.aload_n 0, 1) := by decide +kernel
theorem dX4_claim_53 : decode cX4_claim 53 = .ok (.getfield 28, 3) := by decide +kernel
theorem dX4_claim_56 : decode cX4_claim 56 = .ok (.iconst 0, 1) := by decide +kernel
theorem dX4_claim_57 : decode cX4_claim 57 = .ok (.iload_n 1, 1) := by decide +kernel
theorem dX4_claim_58 : decode cX4_claim 58 = .ok (.iadd, 1) := by decide +kernel
theorem dX4_claim_59 : decode cX4_claim 59 = .ok (.iload 4, 2) := by decide +kernel
theorem dX4_claim_61 : decode cX4_claim 61 = .ok (.iastore, 1) := by decide +kernel
theorem dX4_claim_62 : decode cX4_claim 62 = .ok (.aload_n 0, 1) := by decide +kernel
theorem dX4_claim_63 : decode cX4_claim 63 = .ok (.iload_n 1, 1) := by decide +kernel
theorem dX4_claim_64 : decode cX4_claim 64 = .ok (.invokevirtual 179, 3) := by decide +kernel
theorem dX4_claim_67 : decode cX4_claim 67 = .ok (.istore 5, 2) := by decide +kernel
theorem dX4_claim_69 : decode cX4_claim 69 = .ok (.iload 5, 2) := by decide +kernel
theorem dX4_claim_71 : decode cX4_claim 71 = .ok (.iload_n 3, 1) := by decide +kernel
theorem dX4_claim_72 : decode cX4_claim 72 = .ok (.if_icmp .le 8, 3) := by decide +kernel
theorem dX4_claim_75 : decode cX4_claim 75 = .ok (.iload 4, 2) := by decide +kernel
theorem dX4_claim_77 : decode cX4_claim 77 = .ok (.goto 4, 3) := by decide +kernel
theorem dX4_claim_80 : decode cX4_claim 80 = .ok (.iload_n 2, 1) := by decide +kernel
theorem dX4_claim_81 : decode cX4_claim 81 = .ok (.istore_n 2, 1) := by decide +kernel
theorem dX4_claim_82 : decode cX4_claim 82 = .ok (.iload 5, 2) := by decide +kernel
theorem dX4_claim_84 : decode cX4_claim 84 = .ok (.iload_n 3, 1) := by decide +kernel
theorem dX4_claim_85 : decode cX4_claim 85 = .ok (.if_icmp .le 8, 3) := by decide +kernel
theorem dX4_claim_88 : decode cX4_claim 88 = .ok (.iload 5, 2) := by decide +kernel
theorem dX4_claim_90 : decode cX4_claim 90 = .ok (.goto 4, 3) := by decide +kernel
theorem dX4_claim_93 : decode cX4_claim 93 = .ok (.iload_n 3, 1) := by decide +kernel
theorem dX4_claim_94 : decode cX4_claim 94 = .ok (.istore_n 3, 1) := by decide +kernel
theorem dX4_claim_95 : decode cX4_claim 95 = .ok (.iinc 4 1, 3) := by decide +kernel
theorem dX4_claim_98 : decode cX4_claim 98 = .ok (.goto (-57), 3) := by decide +kernel
theorem dX4_claim_101 : decode cX4_claim 101 = .ok (.iload_n 2, 1) := by decide +kernel
theorem dX4_claim_102 : decode cX4_claim 102 = .ok (.ireturn, 1) := by decide +kernel
theorem dX4_ways_0 : decode cX4_ways 0 = .ok (.iconst 1, 1) := by decide +kernel
theorem dX4_ways_1 : decode cX4_ways 1 = .ok (.istore_n 1, 1) := by decide +kernel
theorem dX4_ways_2 : decode cX4_ways 2 = .ok (.iconst 2, 1) := by decide +kernel
theorem dX4_ways_3 : decode cX4_ways 3 = .ok (.istore_n 2, 1) := by decide +kernel
theorem dX4_ways_4 : decode cX4_ways 4 = .ok (.iload_n 2, 1) := by decide +kernel
theorem dX4_ways_5 : decode cX4_ways 5 = .ok (.iload_n 0, 1) := by decide +kernel
theorem dX4_ways_6 : decode cX4_ways 6 = .ok (.if_icmp .gt 13, 3) := by decide +kernel
theorem dX4_ways_9 : decode cX4_ways 9 = .ok (.iload_n 1, 1) := by decide +kernel
theorem dX4_ways_10 : decode cX4_ways 10 = .ok (.iload_n 2, 1) := by decide +kernel
theorem dX4_ways_11 : decode cX4_ways 11 = .ok (.imul, 1) := by decide +kernel
theorem dX4_ways_12 : decode cX4_ways 12 = .ok (.istore_n 1, 1) := by decide +kernel
theorem dX4_ways_13 : decode cX4_ways 13 = .ok (.iinc 2 1, 3) := by decide +kernel
theorem dX4_ways_16 : decode cX4_ways 16 = .ok (.goto (-12), 3) := by decide +kernel
theorem dX4_ways_19 : decode cX4_ways 19 = .ok (.iload_n 1, 1) := by decide +kernel
theorem dX4_ways_20 : decode cX4_ways 20 = .ok (.ireturn, 1) := by decide +kernel
theorem dX4_divisor_0 : decode cX4_divisor 0 = .ok (.lload_n 0, 1) := by decide +kernel
theorem dX4_divisor_1 : decode cX4_divisor 1 = .ok (.lconst 0, 1) := by decide +kernel
theorem dX4_divisor_2 : decode cX4_divisor 2 = .ok (.lcmp, 1) := by decide +kernel
theorem dX4_divisor_3 : decode cX4_divisor 3 = .ok (.ifCond .ge 8, 3) := by decide +kernel
theorem dX4_divisor_6 : decode cX4_divisor 6 = .ok (.lload_n 0, 1) := by decide +kernel
theorem dX4_divisor_7 : decode cX4_divisor 7 = .ok (.lneg, 1) := by decide +kernel
theorem dX4_divisor_8 : decode cX4_divisor 8 = .ok (.goto 4, 3) := by decide +kernel
theorem dX4_divisor_11 : decode cX4_divisor 11 = .ok (.lload_n 0, 1) := by decide +kernel
theorem dX4_divisor_12 : decode cX4_divisor 12 = .ok (.lstore 4, 2) := by decide +kernel
theorem dX4_divisor_14 : decode cX4_divisor 14 = .ok (.lload_n 2, 1) := by decide +kernel
theorem dX4_divisor_15 : decode cX4_divisor 15 = .ok (.lstore 6, 2) := by decide +kernel
theorem dX4_divisor_17 : decode cX4_divisor 17 = .ok (.lload 6, 2) := by decide +kernel
theorem dX4_divisor_19 : decode cX4_divisor 19 = .ok (.lconst 0, 1) := by decide +kernel
theorem dX4_divisor_20 : decode cX4_divisor 20 = .ok (.lcmp, 1) := by decide +kernel
theorem dX4_divisor_21 : decode cX4_divisor 21 = .ok (.ifCond .eq 21, 3) := by decide +kernel
theorem dX4_divisor_24 : decode cX4_divisor 24 = .ok (.lload 4, 2) := by decide +kernel
theorem dX4_divisor_26 : decode cX4_divisor 26 = .ok (.lload 6, 2) := by decide +kernel
theorem dX4_divisor_28 : decode cX4_divisor 28 = .ok (.lrem, 1) := by decide +kernel
theorem dX4_divisor_29 : decode cX4_divisor 29 = .ok (.lstore 8, 2) := by decide +kernel
theorem dX4_divisor_31 : decode cX4_divisor 31 = .ok (.lload 6, 2) := by decide +kernel
theorem dX4_divisor_33 : decode cX4_divisor 33 = .ok (.lstore 4, 2) := by decide +kernel
theorem dX4_divisor_35 : decode cX4_divisor 35 = .ok (.lload 8, 2) := by decide +kernel
theorem dX4_divisor_37 : decode cX4_divisor 37 = .ok (.lstore 6, 2) := by decide +kernel
theorem dX4_divisor_39 : decode cX4_divisor 39 = .ok (.goto (-22), 3) := by decide +kernel
theorem dX4_divisor_42 : decode cX4_divisor 42 = .ok (.lload 4, 2) := by decide +kernel
theorem dX4_divisor_44 : decode cX4_divisor 44 = .ok (.lreturn, 1) := by decide +kernel
set_option maxRecDepth 20000 in
theorem ggX4_fraction_X4_divisor : GoodIn wsX4_fraction wsX4_divisor := goodIn_r _ [4] (by decide +kernel) (by decide +kernel)
set_option maxRecDepth 20000 in
theorem gX4_fraction_X4_divisor : GoodIn wsX4_fraction (va_wsS RX4 182 yX4_divisor wsX4_divisor) := goodIn_app (goodIn_of _ (by decide +kernel)) ggX4_fraction_X4_divisor
theorem dX4_fraction_0 : decode cX4_fraction 0 = .ok (.lload_n 0, 1) := by decide +kernel
theorem dX4_fraction_1 : decode cX4_fraction 1 = .ok (.lload_n 2, 1) := by decide +kernel
theorem dX4_fraction_2 : decode cX4_fraction 2 = .ok (.invokestatic 182, 3) := by decide +kernel
theorem dX4_fraction_5 : decode cX4_fraction 5 = .ok (.lstore 5, 2) := by decide +kernel
theorem dX4_fraction_7 : decode cX4_fraction 7 = .ok (.iload 4, 2) := by decide +kernel
theorem dX4_fraction_9 : decode cX4_fraction 9 = .ok (.ifCond .eq 10, 3) := by decide +kernel
theorem dX4_fraction_12 : decode cX4_fraction 12 = .ok (.lload_n 0, 1) := by decide +kernel
theorem dX4_fraction_13 : decode cX4_fraction 13 = .ok (.lload 5, 2) := by decide +kernel
theorem dX4_fraction_15 : decode cX4_fraction 15 = .ok (.ldiv, 1) := by decide +kernel
theorem dX4_fraction_16 : decode cX4_fraction 16 = .ok (.goto 7, 3) := by decide +kernel
theorem dX4_fraction_19 : decode cX4_fraction 19 = .ok (.lload_n 2, 1) := by decide +kernel
theorem dX4_fraction_20 : decode cX4_fraction 20 = .ok (.lload 5, 2) := by decide +kernel
theorem dX4_fraction_22 : decode cX4_fraction 22 = .ok (.ldiv, 1) := by decide +kernel
theorem dX4_fraction_23 : decode cX4_fraction 23 = .ok (.l2i, 1) := by decide +kernel
theorem dX4_fraction_24 : decode cX4_fraction 24 = .ok (.ireturn, 1) := by decide +kernel
set_option maxRecDepth 20000 in
theorem ggX4_share_X4_noPerson : GoodIn wsX4_share wsX4_noPerson := goodIn_r _ [10, 11, 12, 13, 9, 14, 55, 56, 57, 58, 59, 60, 61, 62, 63, 64, 65, 66, 67, 68, 69, 70, 71, 72, 73, 74, 75, 76, 77, 78, 79, 80, 81, 82, 83] (by decide +kernel) (by decide +kernel)
set_option maxRecDepth 20000 in
theorem gX4_share_X4_noPerson : GoodIn wsX4_share (wsV RX4 134 RX4 yX4_noPerson wsX4_noPerson) := goodIn_app (goodIn_of _ (by decide +kernel)) ggX4_share_X4_noPerson
set_option maxRecDepth 20000 in
theorem ggX4_share_X4_many : GoodIn wsX4_share wsX4_many := goodIn_r _ [17] (by decide +kernel) (by decide +kernel)
set_option maxRecDepth 20000 in
theorem gX4_share_X4_many : GoodIn wsX4_share (va_wsS RX4 141 yX4_many wsX4_many) := goodIn_app (goodIn_of _ (by decide +kernel)) ggX4_share_X4_many
set_option maxRecDepth 20000 in
theorem ggX4_share_X4_begin : GoodIn wsX4_share wsX4_begin := goodIn_r _ [21, 3, 2, 55, 56, 57, 58, 59, 60, 61, 62, 63, 64, 65, 66, 67, 68, 69, 70, 71, 72, 73, 74, 75, 76, 77, 78, 79, 80, 81, 82, 83] (by decide +kernel) (by decide +kernel)
set_option maxRecDepth 20000 in
theorem gX4_share_X4_begin : GoodIn wsX4_share (wsV RX4 153 RX4 yX4_begin wsX4_begin) := goodIn_app (goodIn_of _ (by decide +kernel)) ggX4_share_X4_begin
set_option maxRecDepth 20000 in
theorem ggX4_share_X4_layFall : GoodIn wsX4_share wsX4_layFall := goodIn_r _ [25, 5, 3, 26, 27, 28, 29, 9, 30, 11, 31, 32, 33, 34, 35, 36, 37, 38, 39, 40, 41, 42, 43, 44, 45, 55, 56, 57, 58, 59, 60, 61, 62, 63, 64, 65, 66, 67, 68, 69, 70, 71, 72, 73, 74, 75, 76, 77, 78, 79, 80, 81, 82, 83] (by decide +kernel) (by decide +kernel)
set_option maxRecDepth 20000 in
theorem gX4_share_X4_layFall : GoodIn wsX4_share (wsV RX4 156 RX4 yX4_layFall wsX4_layFall) := goodIn_app (goodIn_of _ (by decide +kernel)) ggX4_share_X4_layFall
set_option maxRecDepth 20000 in
theorem ggX4_share_X4_has : GoodIn wsX4_share wsX4_has := goodIn_r _ [33] (by decide +kernel) (by decide +kernel)
set_option maxRecDepth 20000 in
theorem gX4_share_X4_has : GoodIn wsX4_share (va_wsS RX4 89 yX4_has wsX4_has) := goodIn_app (goodIn_of _ (by decide +kernel)) ggX4_share_X4_has
set_option maxRecDepth 20000 in
theorem ggX4_share_X4_ways : GoodIn wsX4_share wsX4_ways := goodIn_r _ [48] (by decide +kernel) (by decide +kernel)
set_option maxRecDepth 20000 in
theorem gX4_share_X4_ways : GoodIn wsX4_share (va_wsS RX4 186 yX4_ways wsX4_ways) := goodIn_app (goodIn_of _ (by decide +kernel)) ggX4_share_X4_ways
set_option maxRecDepth 20000 in
theorem ggX4_share_X4_fraction : GoodIn wsX4_share wsX4_fraction := goodIn_r _ [51, 52, 53, 9, 54] (by decide +kernel) (by decide +kernel)
set_option maxRecDepth 20000 in
theorem gX4_share_X4_fraction : GoodIn wsX4_share (va_wsS RX4 189 yX4_fraction wsX4_fraction) := goodIn_app (goodIn_of _ (by decide +kernel)) ggX4_share_X4_fraction
theorem dX4_share_0 : decode cX4_share 0 = .ok (.aload_n 0, 1) := by decide +kernel
theorem dX4_share_1 : decode cX4_share 1 = .ok (.iconst 0, 1) := by decide +kernel
theorem dX4_share_2 : decode cX4_share 2 = .ok (.putfield 60, 3) := by decide +kernel
theorem dX4_share_5 : decode cX4_share 5 = .ok (.aload_n 0, 1) := by decide +kernel
theorem dX4_share_6 : decode cX4_share 6 = .ok (.iload_n 1, 1) := by decide +kernel
theorem dX4_share_7 : decode cX4_share 7 = .ok (.invokevirtual 134, 3) := by decide +kernel
theorem dX4_share_10 : decode cX4_share 10 = .ok (.ifCond .eq 5, 3) := by decide +kernel
theorem dX4_share_13 : decode cX4_share 13 = .ok (.iconst (-1), 1) := by decide +kernel
theorem dX4_share_14 : decode cX4_share 14 = .ok (.ireturn, 1) := by decide +kernel
theorem dX4_share_15 : decode cX4_share 15 = .ok (.aload_n 0, 1) := by decide +kernel
theorem dX4_share_16 : decode cX4_share 16 = .ok (.getfield 25, 3) := by decide +kernel
theorem dX4_share_19 : decode cX4_share 19 = .ok (.bipush 14, 2) := by decide +kernel
theorem dX4_share_21 : decode cX4_share 21 = .ok (.iaload, 1) := by decide +kernel
theorem dX4_share_22 : decode cX4_share 22 = .ok (.istore_n 3, 1) := by decide +kernel
theorem dX4_share_23 : decode cX4_share 23 = .ok (.iload_n 3, 1) := by decide +kernel
theorem dX4_share_24 : decode cX4_share 24 = .ok (.invokestatic 141, 3) := by decide +kernel
theorem dX4_share_27 : decode cX4_share 27 = .ok (.istore 4, 2) := by decide +kernel
theorem dX4_share_29 : decode cX4_share 29 = .ok (.iconst 0, 1) := by decide +kernel
theorem dX4_share_30 : decode cX4_share 30 = .ok (.istore 5, 2) := by decide +kernel
theorem dX4_share_32 : decode cX4_share 32 = .ok (.iload 5, 2) := by decide +kernel
theorem dX4_share_34 : decode cX4_share 34 = .ok (.iload_n 3, 1) := by decide +kernel
theorem dX4_share_35 : decode cX4_share 35 = .ok (.if_icmp .gt 46, 3) := by decide +kernel
theorem dX4_share_38 : decode cX4_share 38 = .ok (.iload 5, 2) := by decide +kernel
theorem dX4_share_40 : decode cX4_share 40 = .ok (.iload_n 3, 1) := by decide +kernel
theorem dX4_share_41 : decode cX4_share 41 = .ok (.iconst (-1), 1) := by decide +kernel
theorem dX4_share_42 : decode cX4_share 42 = .ok (.ixor, 1) := by decide +kernel
theorem dX4_share_43 : decode cX4_share 43 = .ok (.iand, 1) := by decide +kernel
theorem dX4_share_44 : decode cX4_share 44 = .ok (.ifCond .ne 31, 3) := by decide +kernel
theorem dX4_share_47 : decode cX4_share 47 = .ok (.aload_n 0, 1) := by decide +kernel
theorem dX4_share_48 : decode cX4_share 48 = .ok (.invokevirtual 153, 3) := by decide +kernel
theorem dX4_share_51 : decode cX4_share 51 = .ok (.aload_n 0, 1) := by decide +kernel
theorem dX4_share_52 : decode cX4_share 52 = .ok (.getfield 28, 3) := by decide +kernel
theorem dX4_share_55 : decode cX4_share 55 = .ok (.bipush 14, 2) := by decide +kernel
theorem dX4_share_57 : decode cX4_share 57 = .ok (.iload 5, 2) := by decide +kernel
theorem dX4_share_59 : decode cX4_share 59 = .ok (.iastore, 1) := by decide +kernel
theorem dX4_share_60 : decode cX4_share 60 = .ok (.aload_n 0, 1) := by decide +kernel
theorem dX4_share_61 : decode cX4_share 61 = .ok (.invokevirtual 156, 3) := by decide +kernel
theorem dX4_share_64 : decode cX4_share 64 = .ok (.aload_n 0, 1) := by decide +kernel
theorem dX4_share_65 : decode cX4_share 65 = .ok (.getfield 50, 3) := by decide +kernel
theorem dX4_share_68 : decode cX4_share 68 = .ok (.iload 5, 2) := by decide +kernel
theorem dX4_share_70 : decode cX4_share 70 = .ok (.aload_n 0, 1) := by decide +kernel
theorem dX4_share_71 : decode cX4_share 71 = .ok (.getfield 121, 3) := by decide +kernel
theorem dX4_share_74 : decode cX4_share 74 = .ok (.iastore, 1) := by decide +kernel
theorem dX4_share_75 : decode cX4_share 75 = .ok (.iinc 5 1, 3) := by decide +kernel
theorem dX4_share_78 : decode cX4_share 78 = .ok (.goto (-46), 3) := by decide +kernel
theorem dX4_share_81 : decode cX4_share 81 = .ok (.iconst 0, 1) := by decide +kernel
theorem dX4_share_82 : decode cX4_share 82 = .ok (.istore 5, 2) := by decide +kernel
theorem dX4_share_84 : decode cX4_share 84 = .ok (.iconst 0, 1) := by decide +kernel
theorem dX4_share_85 : decode cX4_share 85 = .ok (.istore 6, 2) := by decide +kernel
theorem dX4_share_87 : decode cX4_share 87 = .ok (.iload 6, 2) := by decide +kernel
theorem dX4_share_89 : decode cX4_share 89 = .ok (.iload_n 3, 1) := by decide +kernel
theorem dX4_share_90 : decode cX4_share 90 = .ok (.if_icmp .gt 83, 3) := by decide +kernel
theorem dX4_share_93 : decode cX4_share 93 = .ok (.iload_n 3, 1) := by decide +kernel
theorem dX4_share_94 : decode cX4_share 94 = .ok (.iload_n 1, 1) := by decide +kernel
theorem dX4_share_95 : decode cX4_share 95 = .ok (.invokestatic 89, 3) := by decide +kernel
theorem dX4_share_98 : decode cX4_share 98 = .ok (.ifCond .eq 75, 3) := by decide +kernel
theorem dX4_share_101 : decode cX4_share 101 = .ok (.iload 6, 2) := by decide +kernel
theorem dX4_share_103 : decode cX4_share 103 = .ok (.iload_n 3, 1) := by decide +kernel
theorem dX4_share_104 : decode cX4_share 104 = .ok (.iconst (-1), 1) := by decide +kernel
theorem dX4_share_105 : decode cX4_share 105 = .ok (.ixor, 1) := by decide +kernel
theorem dX4_share_106 : decode cX4_share 106 = .ok (.iand, 1) := by decide +kernel
theorem dX4_share_107 : decode cX4_share 107 = .ok (.ifCond .ne 60, 3) := by decide +kernel
theorem dX4_share_110 : decode cX4_share 110 = .ok (.iload 6, 2) := by decide +kernel
theorem dX4_share_112 : decode cX4_share 112 = .ok (.iload_n 1, 1) := by decide +kernel
theorem dX4_share_113 : decode cX4_share 113 = .ok (.invokestatic 89, 3) := by decide +kernel
theorem dX4_share_116 : decode cX4_share 116 = .ok (.ifCond .ne 51, 3) := by decide +kernel
theorem dX4_share_119 : decode cX4_share 119 = .ok (.iload 6, 2) := by decide +kernel
theorem dX4_share_121 : decode cX4_share 121 = .ok (.invokestatic 141, 3) := by decide +kernel
theorem dX4_share_124 : decode cX4_share 124 = .ok (.istore 7, 2) := by decide +kernel
theorem dX4_share_126 : decode cX4_share 126 = .ok (.iload 5, 2) := by decide +kernel
theorem dX4_share_128 : decode cX4_share 128 = .ok (.iload 7, 2) := by decide +kernel
theorem dX4_share_130 : decode cX4_share 130 = .ok (.invokestatic 186, 3) := by decide +kernel
theorem dX4_share_133 : decode cX4_share 133 = .ok (.iload 4, 2) := by decide +kernel
theorem dX4_share_135 : decode cX4_share 135 = .ok (.iconst 1, 1) := by decide +kernel
theorem dX4_share_136 : decode cX4_share 136 = .ok (.isub, 1) := by decide +kernel
theorem dX4_share_137 : decode cX4_share 137 = .ok (.iload 7, 2) := by decide +kernel
theorem dX4_share_139 : decode cX4_share 139 = .ok (.isub, 1) := by decide +kernel
theorem dX4_share_140 : decode cX4_share 140 = .ok (.invokestatic 186, 3) := by decide +kernel
theorem dX4_share_143 : decode cX4_share 143 = .ok (.imul, 1) := by decide +kernel
theorem dX4_share_144 : decode cX4_share 144 = .ok (.aload_n 0, 1) := by decide +kernel
theorem dX4_share_145 : decode cX4_share 145 = .ok (.getfield 50, 3) := by decide +kernel
theorem dX4_share_148 : decode cX4_share 148 = .ok (.iload 6, 2) := by decide +kernel
theorem dX4_share_150 : decode cX4_share 150 = .ok (.iconst 1, 1) := by decide +kernel
theorem dX4_share_151 : decode cX4_share 151 = .ok (.iload_n 1, 1) := by decide +kernel
theorem dX4_share_152 : decode cX4_share 152 = .ok (.ishl, 1) := by decide +kernel
theorem dX4_share_153 : decode cX4_share 153 = .ok (.ior, 1) := by decide +kernel
theorem dX4_share_154 : decode cX4_share 154 = .ok (.iaload, 1) := by decide +kernel
theorem dX4_share_155 : decode cX4_share 155 = .ok (.aload_n 0, 1) := by decide +kernel
theorem dX4_share_156 : decode cX4_share 156 = .ok (.getfield 50, 3) := by decide +kernel
theorem dX4_share_159 : decode cX4_share 159 = .ok (.iload 6, 2) := by decide +kernel
theorem dX4_share_161 : decode cX4_share 161 = .ok (.iaload, 1) := by decide +kernel
theorem dX4_share_162 : decode cX4_share 162 = .ok (.isub, 1) := by decide +kernel
theorem dX4_share_163 : decode cX4_share 163 = .ok (.imul, 1) := by decide +kernel
theorem dX4_share_164 : decode cX4_share 164 = .ok (.iadd, 1) := by decide +kernel
theorem dX4_share_165 : decode cX4_share 165 = .ok (.istore 5, 2) := by decide +kernel
theorem dX4_share_167 : decode cX4_share 167 = .ok (.iinc 6 1, 3) := by decide +kernel
theorem dX4_share_170 : decode cX4_share 170 = .ok (.goto (-83), 3) := by decide +kernel
theorem dX4_share_173 : decode cX4_share 173 = .ok (.iload 5, 2) := by decide +kernel
theorem dX4_share_175 : decode cX4_share 175 = .ok (.i2l, 1) := by decide +kernel
theorem dX4_share_176 : decode cX4_share 176 = .ok (.iload 4, 2) := by decide +kernel
theorem dX4_share_178 : decode cX4_share 178 = .ok (.invokestatic 186, 3) := by decide +kernel
theorem dX4_share_181 : decode cX4_share 181 = .ok (.i2l, 1) := by decide +kernel
theorem dX4_share_182 : decode cX4_share 182 = .ok (.iload_n 2, 1) := by decide +kernel
theorem dX4_share_183 : decode cX4_share 183 = .ok (.invokestatic 189, 3) := by decide +kernel
theorem dX4_share_186 : decode cX4_share 186 = .ok (.ireturn, 1) := by decide +kernel
set_option maxRecDepth 20000 in
theorem ggX4_see_X4_noPerson : GoodIn wsX4_see wsX4_noPerson := goodIn_r _ [9, 10, 11, 12, 8, 13, 14, 15, 16, 17, 18, 19, 20, 21, 22, 23, 24, 25, 26, 27, 28, 29, 30, 31, 32, 33, 34, 35, 36, 37, 38, 39, 40, 41, 42] (by decide +kernel) (by decide +kernel)
set_option maxRecDepth 20000 in
theorem gX4_see_X4_noPerson : GoodIn wsX4_see (wsV RX4 134 RX4 yX4_noPerson wsX4_noPerson) := goodIn_app (goodIn_of _ (by decide +kernel)) ggX4_see_X4_noPerson
theorem dX4_see_0 : decode cX4_see 0 = .ok (.aload_n 0, 1) := by decide +kernel
theorem dX4_see_1 : decode cX4_see 1 = .ok (.iconst 0, 1) := by decide +kernel
theorem dX4_see_2 : decode cX4_see 2 = .ok (.putfield 60, 3) := by decide +kernel
theorem dX4_see_5 : decode cX4_see 5 = .ok (.aload_n 0, 1) := by decide +kernel
theorem dX4_see_6 : decode cX4_see 6 = .ok (.iload_n 1, 1) := by decide +kernel
theorem dX4_see_7 : decode cX4_see 7 = .ok (.invokevirtual 134, 3) := by decide +kernel
theorem dX4_see_10 : decode cX4_see 10 = .ok (.ifCond .ne 11, 3) := by decide +kernel
theorem dX4_see_13 : decode cX4_see 13 = .ok (.aload_n 0, 1) := by decide +kernel
theorem dX4_see_14 : decode cX4_see 14 = .ok (.iload_n 2, 1) := by decide +kernel
theorem dX4_see_15 : decode cX4_see 15 = .ok (.invokevirtual 134, 3) := by decide +kernel
theorem dX4_see_18 : decode cX4_see 18 = .ok (.ifCond .eq 5, 3) := by decide +kernel
theorem dX4_see_21 : decode cX4_see 21 = .ok (.iconst (-1), 1) := by decide +kernel
theorem dX4_see_22 : decode cX4_see 22 = .ok (.ireturn, 1) := by decide +kernel
theorem dX4_see_23 : decode cX4_see 23 = .ok (.iload_n 1, 1) := by decide +kernel
theorem dX4_see_24 : decode cX4_see 24 = .ok (.iload_n 2, 1) := by decide +kernel
theorem dX4_see_25 : decode cX4_see 25 = .ok (.if_icmp .ne 6, 3) := by decide +kernel
theorem dX4_see_28 : decode cX4_see 28 = .ok (.bipush (-2), 2) := by decide +kernel
theorem dX4_see_30 : decode cX4_see 30 = .ok (.ireturn, 1) := by decide +kernel
theorem dX4_see_31 : decode cX4_see 31 = .ok (.aload_n 0, 1) := by decide +kernel
theorem dX4_see_32 : decode cX4_see 32 = .ok (.getfield 131, 3) := by decide +kernel
theorem dX4_see_35 : decode cX4_see 35 = .ok (.bipush 6, 2) := by decide +kernel
theorem dX4_see_37 : decode cX4_see 37 = .ok (.if_icmp .ne 6, 3) := by decide +kernel
theorem dX4_see_40 : decode cX4_see 40 = .ok (.bipush (-4), 2) := by decide +kernel
theorem dX4_see_42 : decode cX4_see 42 = .ok (.ireturn, 1) := by decide +kernel
theorem dX4_see_43 : decode cX4_see 43 = .ok (.aload_n 0, 1) := by decide +kernel
theorem dX4_see_44 : decode cX4_see 44 = .ok (.getfield 41, 3) := by decide +kernel
theorem dX4_see_47 : decode cX4_see 47 = .ok (.aload_n 0, 1) := by decide +kernel
theorem dX4_see_48 : decode cX4_see 48 = .ok (.getfield 131, 3) := by decide +kernel
theorem dX4_see_51 : decode cX4_see 51 = .ok (.iload_n 1, 1) := by decide +kernel
theorem dX4_see_52 : decode cX4_see 52 = .ok (.iastore, 1) := by decide +kernel
theorem dX4_see_53 : decode cX4_see 53 = .ok (.aload_n 0, 1) := by decide +kernel
theorem dX4_see_54 : decode cX4_see 54 = .ok (.getfield 44, 3) := by decide +kernel
theorem dX4_see_57 : decode cX4_see 57 = .ok (.aload_n 0, 1) := by decide +kernel
theorem dX4_see_58 : decode cX4_see 58 = .ok (.getfield 131, 3) := by decide +kernel
theorem dX4_see_61 : decode cX4_see 61 = .ok (.iload_n 2, 1) := by decide +kernel
theorem dX4_see_62 : decode cX4_see 62 = .ok (.iastore, 1) := by decide +kernel
theorem dX4_see_63 : decode cX4_see 63 = .ok (.aload_n 0, 1) := by decide +kernel
theorem dX4_see_64 : decode cX4_see 64 = .ok (.dup, 1) := by decide +kernel
theorem dX4_see_65 : decode cX4_see 65 = .ok (.getfield 131, 3) := by decide +kernel
theorem dX4_see_68 : decode cX4_see 68 = .ok (.iconst 1, 1) := by decide +kernel
theorem dX4_see_69 : decode cX4_see 69 = .ok (.iadd, 1) := by decide +kernel
theorem dX4_see_70 : decode cX4_see 70 = .ok (.putfield 131, 3) := by decide +kernel
theorem dX4_see_73 : decode cX4_see 73 = .ok (.aload_n 0, 1) := by decide +kernel
theorem dX4_see_74 : decode cX4_see 74 = .ok (.getfield 131, 3) := by decide +kernel
theorem dX4_see_77 : decode cX4_see 77 = .ok (.ireturn, 1) := by decide +kernel
theorem dX4_unsee_0 : decode cX4_unsee 0 = .ok (.aload_n 0, 1) := by decide +kernel
theorem dX4_unsee_1 : decode cX4_unsee 1 = .ok (.iconst 0, 1) := by decide +kernel
theorem dX4_unsee_2 : decode cX4_unsee 2 = .ok (.putfield 60, 3) := by decide +kernel
theorem dX4_unsee_5 : decode cX4_unsee 5 = .ok (.aload_n 0, 1) := by decide +kernel
theorem dX4_unsee_6 : decode cX4_unsee 6 = .ok (.getfield 131, 3) := by decide +kernel
theorem dX4_unsee_9 : decode cX4_unsee 9 = .ok (.istore_n 1, 1) := by decide +kernel
theorem dX4_unsee_10 : decode cX4_unsee 10 = .ok (.aload_n 0, 1) := by decide +kernel
theorem dX4_unsee_11 : decode cX4_unsee 11 = .ok (.iconst 0, 1) := by decide +kernel
theorem dX4_unsee_12 : decode cX4_unsee 12 = .ok (.putfield 131, 3) := by decide +kernel
theorem dX4_unsee_15 : decode cX4_unsee 15 = .ok (.iload_n 1, 1) := by decide +kernel
theorem dX4_unsee_16 : decode cX4_unsee 16 = .ok (.ireturn, 1) := by decide +kernel
set_option maxRecDepth 20000 in
theorem ggX4_isSeen_X4_placeOf : GoodIn wsX4_isSeen wsX4_placeOf := goodIn_r _ [8, 9, 10, 19, 20, 21, 22, 23, 24, 25, 26, 27, 28, 29, 30, 31, 32, 33, 34, 35, 36, 37, 38, 39, 40, 41, 42, 43, 44, 45, 46, 47] (by decide +kernel) (by decide +kernel)
set_option maxRecDepth 20000 in
theorem gX4_isSeen_X4_placeOf : GoodIn wsX4_isSeen (wsV RX4 159 RX4 yX4_placeOf wsX4_placeOf) := goodIn_app (goodIn_of _ (by decide +kernel)) ggX4_isSeen_X4_placeOf
set_option maxRecDepth 20000 in
theorem ggX4_isSeen_X4_noPerson : GoodIn wsX4_isSeen wsX4_noPerson := goodIn_r _ [14, 15, 16, 17, 7, 18, 19, 20, 21, 22, 23, 24, 25, 26, 27, 28, 29, 30, 31, 32, 33, 34, 35, 36, 37, 38, 39, 40, 41, 42, 43, 44, 45, 46, 47] (by decide +kernel) (by decide +kernel)
set_option maxRecDepth 20000 in
theorem gX4_isSeen_X4_noPerson : GoodIn wsX4_isSeen (wsV RX4 134 RX4 yX4_noPerson wsX4_noPerson) := goodIn_app (goodIn_of _ (by decide +kernel)) ggX4_isSeen_X4_noPerson
theorem dX4_isSeen_0 : decode cX4_isSeen 0 = .ok (.iconst 1, 1) := by decide +kernel
theorem dX4_isSeen_1 : decode cX4_isSeen 1 = .ok (.istore_n 1, 1) := by decide +kernel
theorem dX4_isSeen_2 : decode cX4_isSeen 2 = .ok (.iconst 0, 1) := by decide +kernel
theorem dX4_isSeen_3 : decode cX4_isSeen 3 = .ok (.istore_n 2, 1) := by decide +kernel
theorem dX4_isSeen_4 : decode cX4_isSeen 4 = .ok (.iload_n 2, 1) := by decide +kernel
theorem dX4_isSeen_5 : decode cX4_isSeen 5 = .ok (.aload_n 0, 1) := by decide +kernel
theorem dX4_isSeen_6 : decode cX4_isSeen 6 = .ok (.getfield 131, 3) := by decide +kernel
theorem dX4_isSeen_9 : decode cX4_isSeen 9 = .ok (.if_icmp .ge 99, 3) := by decide +kernel
theorem dX4_isSeen_12 : decode cX4_isSeen 12 = .ok (.iload_n 1, 1) := by decide +kernel
theorem dX4_isSeen_13 : decode cX4_isSeen 13 = .ok (.ifCond .eq 95, 3) := by decide +kernel
theorem dX4_isSeen_16 : decode cX4_isSeen 16 = .ok (.aload_n 0, 1) := by decide +kernel
theorem dX4_isSeen_17 : decode cX4_isSeen 17 = .ok (.aload_n 0, 1) := by decide +kernel
theorem dX4_isSeen_18 : decode cX4_isSeen 18 = .ok (.getfield 41, 3) := by decide +kernel
theorem dX4_isSeen_21 : decode cX4_isSeen 21 = .ok (.iload_n 2, 1) := by decide +kernel
theorem dX4_isSeen_22 : decode cX4_isSeen 22 = .ok (.iaload, 1) := by decide +kernel
theorem dX4_isSeen_23 : decode cX4_isSeen 23 = .ok (.invokevirtual 159, 3) := by decide +kernel
theorem dX4_isSeen_26 : decode cX4_isSeen 26 = .ok (.istore_n 3, 1) := by decide +kernel
theorem dX4_isSeen_27 : decode cX4_isSeen 27 = .ok (.aload_n 0, 1) := by decide +kernel
theorem dX4_isSeen_28 : decode cX4_isSeen 28 = .ok (.aload_n 0, 1) := by decide +kernel
theorem dX4_isSeen_29 : decode cX4_isSeen 29 = .ok (.getfield 44, 3) := by decide +kernel
theorem dX4_isSeen_32 : decode cX4_isSeen 32 = .ok (.iload_n 2, 1) := by decide +kernel
theorem dX4_isSeen_33 : decode cX4_isSeen 33 = .ok (.iaload, 1) := by decide +kernel
theorem dX4_isSeen_34 : decode cX4_isSeen 34 = .ok (.invokevirtual 159, 3) := by decide +kernel
theorem dX4_isSeen_37 : decode cX4_isSeen 37 = .ok (.istore 4, 2) := by decide +kernel
theorem dX4_isSeen_39 : decode cX4_isSeen 39 = .ok (.aload_n 0, 1) := by decide +kernel
theorem dX4_isSeen_40 : decode cX4_isSeen 40 = .ok (.aload_n 0, 1) := by decide +kernel
theorem dX4_isSeen_41 : decode cX4_isSeen 41 = .ok (.getfield 41, 3) := by decide +kernel
theorem dX4_isSeen_44 : decode cX4_isSeen 44 = .ok (.iload_n 2, 1) := by decide +kernel
theorem dX4_isSeen_45 : decode cX4_isSeen 45 = .ok (.iaload, 1) := by decide +kernel
theorem dX4_isSeen_46 : decode cX4_isSeen 46 = .ok (.invokevirtual 134, 3) := by decide +kernel
theorem dX4_isSeen_49 : decode cX4_isSeen 49 = .ok (.ifCond .ne 20, 3) := by decide +kernel
theorem dX4_isSeen_52 : decode cX4_isSeen 52 = .ok (.aload_n 0, 1) := by decide +kernel
theorem dX4_isSeen_53 : decode cX4_isSeen 53 = .ok (.aload_n 0, 1) := by decide +kernel
theorem dX4_isSeen_54 : decode cX4_isSeen 54 = .ok (.getfield 44, 3) := by decide +kernel
theorem dX4_isSeen_57 : decode cX4_isSeen 57 = .ok (.iload_n 2, 1) := by decide +kernel
theorem dX4_isSeen_58 : decode cX4_isSeen 58 = .ok (.iaload, 1) := by decide +kernel
theorem dX4_isSeen_59 : decode cX4_isSeen 59 = .ok (.invokevirtual 134, 3) := by decide +kernel
theorem dX4_isSeen_62 : decode cX4_isSeen 62 = .ok (.ifCond .ne 7, 3) := by decide +kernel
theorem dX4_isSeen_65 : decode cX4_isSeen 65 = .ok (.iconst 1, 1) := by decide +kernel
theorem dX4_isSeen_66 : decode cX4_isSeen 66 = .ok (.goto 4, 3) := by decide +kernel
theorem dX4_isSeen_69 : decode cX4_isSeen 69 = .ok (.iconst 0, 1) := by decide +kernel
theorem dX4_isSeen_70 : decode cX4_isSeen 70 = .ok (.istore 5, 2) := by decide +kernel
theorem dX4_isSeen_72 : decode cX4_isSeen 72 = .ok (.iload 5, 2) := by decide +kernel
theorem dX4_isSeen_74 : decode cX4_isSeen 74 = .ok (.ifCond .eq 22, 3) := by decide +kernel
theorem dX4_isSeen_77 : decode cX4_isSeen 77 = .ok (.iload_n 3, 1) := by decide +kernel
theorem dX4_isSeen_78 : decode cX4_isSeen 78 = .ok (.bipush (-9), 2) := by decide +kernel
theorem dX4_isSeen_80 : decode cX4_isSeen 80 = .ok (.if_icmp .eq 20, 3) := by decide +kernel
theorem dX4_isSeen_83 : decode cX4_isSeen 83 = .ok (.iload 4, 2) := by decide +kernel
theorem dX4_isSeen_85 : decode cX4_isSeen 85 = .ok (.bipush (-9), 2) := by decide +kernel
theorem dX4_isSeen_87 : decode cX4_isSeen 87 = .ok (.if_icmp .eq 9, 3) := by decide +kernel
theorem dX4_isSeen_90 : decode cX4_isSeen 90 = .ok (.iload 4, 2) := by decide +kernel
theorem dX4_isSeen_92 : decode cX4_isSeen 92 = .ok (.iload_n 3, 1) := by decide +kernel
theorem dX4_isSeen_93 : decode cX4_isSeen 93 = .ok (.if_icmp .le 7, 3) := by decide +kernel
theorem dX4_isSeen_96 : decode cX4_isSeen 96 = .ok (.iconst 1, 1) := by decide +kernel
theorem dX4_isSeen_97 : decode cX4_isSeen 97 = .ok (.goto 4, 3) := by decide +kernel
theorem dX4_isSeen_100 : decode cX4_isSeen 100 = .ok (.iconst 0, 1) := by decide +kernel
theorem dX4_isSeen_101 : decode cX4_isSeen 101 = .ok (.istore_n 1, 1) := by decide +kernel
theorem dX4_isSeen_102 : decode cX4_isSeen 102 = .ok (.iinc 2 1, 3) := by decide +kernel
theorem dX4_isSeen_105 : decode cX4_isSeen 105 = .ok (.goto (-101), 3) := by decide +kernel
theorem dX4_isSeen_108 : decode cX4_isSeen 108 = .ok (.iload_n 1, 1) := by decide +kernel
theorem dX4_isSeen_109 : decode cX4_isSeen 109 = .ok (.ireturn, 1) := by decide +kernel
set_option maxRecDepth 20000 in
theorem ggX4_did_X4_noPerson : GoodIn wsX4_did wsX4_noPerson := goodIn_r _ [7, 8, 9, 10, 6, 11, 53, 54, 55, 56, 57, 58, 59, 60, 61, 62, 63, 64, 65, 66, 67, 68, 69, 70, 71, 72, 73, 74, 75, 76, 77, 78, 79, 80, 81] (by decide +kernel) (by decide +kernel)
set_option maxRecDepth 20000 in
theorem gX4_did_X4_noPerson : GoodIn wsX4_did (wsV RX4 134 RX4 yX4_noPerson wsX4_noPerson) := goodIn_app (goodIn_of _ (by decide +kernel)) ggX4_did_X4_noPerson
set_option maxRecDepth 20000 in
theorem ggX4_did_X4_begin : GoodIn wsX4_did wsX4_begin := goodIn_r _ [15, 2, 16, 53, 54, 55, 56, 57, 58, 59, 60, 61, 62, 63, 64, 65, 66, 67, 68, 69, 70, 71, 72, 73, 74, 75, 76, 77, 78, 79, 80, 81] (by decide +kernel) (by decide +kernel)
set_option maxRecDepth 20000 in
theorem gX4_did_X4_begin : GoodIn wsX4_did (wsV RX4 153 RX4 yX4_begin wsX4_begin) := goodIn_app (goodIn_of _ (by decide +kernel)) ggX4_did_X4_begin
set_option maxRecDepth 20000 in
theorem ggX4_did_X4_layFall : GoodIn wsX4_did wsX4_layFall := goodIn_r _ [20, 21, 2, 22, 23, 24, 25, 6, 26, 8, 27, 28, 29, 30, 31, 32, 33, 34, 35, 36, 37, 38, 39, 40, 41, 53, 54, 55, 56, 57, 58, 59, 60, 61, 62, 63, 64, 65, 66, 67, 68, 69, 70, 71, 72, 73, 74, 75, 76, 77, 78, 79, 80, 81] (by decide +kernel) (by decide +kernel)
set_option maxRecDepth 20000 in
theorem gX4_did_X4_layFall : GoodIn wsX4_did (wsV RX4 156 RX4 yX4_layFall wsX4_layFall) := goodIn_app (goodIn_of _ (by decide +kernel)) ggX4_did_X4_layFall
set_option maxRecDepth 20000 in
theorem ggX4_did_X4_isSeen : GoodIn wsX4_did wsX4_isSeen := goodIn_r _ [45, 46, 47, 48, 49, 50, 51, 6, 52, 21, 22, 3, 4, 5, 7, 8, 9, 10, 11, 53, 54, 55, 56, 57, 58, 59, 60, 61, 62, 63, 64, 65, 66, 67, 68, 69, 70, 71, 72, 73, 74, 75, 76, 77, 78, 79, 80, 81] (by decide +kernel) (by decide +kernel)
set_option maxRecDepth 20000 in
theorem gX4_did_X4_isSeen : GoodIn wsX4_did (wsV RX4 193 RX4 yX4_isSeen wsX4_isSeen) := goodIn_app (goodIn_of _ (by decide +kernel)) ggX4_did_X4_isSeen
theorem dX4_did_0 : decode cX4_did 0 = .ok (.aload_n 0, 1) := by decide +kernel
theorem dX4_did_1 : decode cX4_did 1 = .ok (.iconst 0, 1) := by decide +kernel
theorem dX4_did_2 : decode cX4_did 2 = .ok (.putfield 60, 3) := by decide +kernel
theorem dX4_did_5 : decode cX4_did 5 = .ok (.aload_n 0, 1) := by decide +kernel
theorem dX4_did_6 : decode cX4_did 6 = .ok (.iload_n 1, 1) := by decide +kernel
theorem dX4_did_7 : decode cX4_did 7 = .ok (.invokevirtual 134, 3) := by decide +kernel
theorem dX4_did_10 : decode cX4_did 10 = .ok (.ifCond .eq 5, 3) := by decide +kernel
theorem dX4_did_13 : decode cX4_did 13 = .ok (.iconst (-1), 1) := by decide +kernel
theorem dX4_did_14 : decode cX4_did 14 = .ok (.ireturn, 1) := by decide +kernel
theorem dX4_did_15 : decode cX4_did 15 = .ok (.iconst 0, 1) := by decide +kernel
theorem dX4_did_16 : decode cX4_did 16 = .ok (.istore_n 2, 1) := by decide +kernel
theorem dX4_did_17 : decode cX4_did 17 = .ok (.iconst 0, 1) := by decide +kernel
theorem dX4_did_18 : decode cX4_did 18 = .ok (.istore_n 3, 1) := by decide +kernel
theorem dX4_did_19 : decode cX4_did 19 = .ok (.iload_n 3, 1) := by decide +kernel
theorem dX4_did_20 : decode cX4_did 20 = .ok (.bipush 10, 2) := by decide +kernel
theorem dX4_did_22 : decode cX4_did 22 = .ok (.if_icmp .ge 43, 3) := by decide +kernel
theorem dX4_did_25 : decode cX4_did 25 = .ok (.aload_n 0, 1) := by decide +kernel
theorem dX4_did_26 : decode cX4_did 26 = .ok (.invokevirtual 153, 3) := by decide +kernel
theorem dX4_did_29 : decode cX4_did 29 = .ok (.aload_n 0, 1) := by decide +kernel
theorem dX4_did_30 : decode cX4_did 30 = .ok (.getfield 28, 3) := by decide +kernel
theorem dX4_did_33 : decode cX4_did 33 = .ok (.iconst 0, 1) := by decide +kernel
theorem dX4_did_34 : decode cX4_did 34 = .ok (.iload_n 1, 1) := by decide +kernel
theorem dX4_did_35 : decode cX4_did 35 = .ok (.iadd, 1) := by decide +kernel
theorem dX4_did_36 : decode cX4_did 36 = .ok (.iload_n 3, 1) := by decide +kernel
theorem dX4_did_37 : decode cX4_did 37 = .ok (.iastore, 1) := by decide +kernel
theorem dX4_did_38 : decode cX4_did 38 = .ok (.aload_n 0, 1) := by decide +kernel
theorem dX4_did_39 : decode cX4_did 39 = .ok (.invokevirtual 156, 3) := by decide +kernel
theorem dX4_did_42 : decode cX4_did 42 = .ok (.iload_n 2, 1) := by decide +kernel
theorem dX4_did_43 : decode cX4_did 43 = .ok (.aload_n 0, 1) := by decide +kernel
theorem dX4_did_44 : decode cX4_did 44 = .ok (.invokevirtual 193, 3) := by decide +kernel
theorem dX4_did_47 : decode cX4_did 47 = .ok (.ifCond .eq 9, 3) := by decide +kernel
theorem dX4_did_50 : decode cX4_did 50 = .ok (.iconst 1, 1) := by decide +kernel
theorem dX4_did_51 : decode cX4_did 51 = .ok (.iload_n 3, 1) := by decide +kernel
theorem dX4_did_52 : decode cX4_did 52 = .ok (.ishl, 1) := by decide +kernel
theorem dX4_did_53 : decode cX4_did 53 = .ok (.goto 4, 3) := by decide +kernel
theorem dX4_did_56 : decode cX4_did 56 = .ok (.iconst 0, 1) := by decide +kernel
theorem dX4_did_57 : decode cX4_did 57 = .ok (.ior, 1) := by decide +kernel
theorem dX4_did_58 : decode cX4_did 58 = .ok (.istore_n 2, 1) := by decide +kernel
theorem dX4_did_59 : decode cX4_did 59 = .ok (.iinc 3 1, 3) := by decide +kernel
theorem dX4_did_62 : decode cX4_did 62 = .ok (.goto (-43), 3) := by decide +kernel
theorem dX4_did_65 : decode cX4_did 65 = .ok (.iload_n 2, 1) := by decide +kernel
theorem dX4_did_66 : decode cX4_did 66 = .ok (.ireturn, 1) := by decide +kernel
theorem dX4_cellOf_0 : decode cX4_cellOf 0 = .ok (.iconst 2, 1) := by decide +kernel
theorem dX4_cellOf_1 : decode cX4_cellOf 1 = .ok (.bipush 8, 2) := by decide +kernel
theorem dX4_cellOf_3 : decode cX4_cellOf 3 = .ok (.iload_n 0, 1) := by decide +kernel
theorem dX4_cellOf_4 : decode cX4_cellOf 4 = .ok (.imul, 1) := by decide +kernel
theorem dX4_cellOf_5 : decode cX4_cellOf 5 = .ok (.iload_n 1, 1) := by decide +kernel
theorem dX4_cellOf_6 : decode cX4_cellOf 6 = .ok (.iadd, 1) := by decide +kernel
theorem dX4_cellOf_7 : decode cX4_cellOf 7 = .ok (.imul, 1) := by decide +kernel
theorem dX4_cellOf_8 : decode cX4_cellOf 8 = .ok (.ireturn, 1) := by decide +kernel
set_option maxRecDepth 20000 in
theorem ggX4_layGains_X4_begin : GoodIn wsX4_layGains wsX4_begin := goodIn_r _ [8, 2, 9, 42, 43, 44, 45, 46, 47, 48, 49, 50, 51, 52, 53, 54, 55, 56, 57, 58, 59, 60, 61, 62, 63, 64, 65, 66, 67, 68, 69, 70] (by decide +kernel) (by decide +kernel)
set_option maxRecDepth 20000 in
theorem gX4_layGains_X4_begin : GoodIn wsX4_layGains (wsV RX4 153 RX4 yX4_begin wsX4_begin) := goodIn_app (goodIn_of _ (by decide +kernel)) ggX4_layGains_X4_begin
set_option maxRecDepth 20000 in
theorem ggX4_layGains_X4_layFall : GoodIn wsX4_layGains wsX4_layFall := goodIn_r _ [13, 14, 2, 15, 16, 17, 18, 7, 19, 1, 20, 21, 22, 23, 24, 25, 26, 27, 28, 29, 30, 31, 32, 33, 34, 42, 43, 44, 45, 46, 47, 48, 49, 50, 51, 52, 53, 54, 55, 56, 57, 58, 59, 60, 61, 62, 63, 64, 65, 66, 67, 68, 69, 70] (by decide +kernel) (by decide +kernel)
set_option maxRecDepth 20000 in
theorem gX4_layGains_X4_layFall : GoodIn wsX4_layGains (wsV RX4 156 RX4 yX4_layFall wsX4_layFall) := goodIn_app (goodIn_of _ (by decide +kernel)) ggX4_layGains_X4_layFall
set_option maxRecDepth 20000 in
theorem ggX4_layGains_X4_cellOf : GoodIn wsX4_layGains wsX4_cellOf := goodIn_r _ [37] (by decide +kernel) (by decide +kernel)
set_option maxRecDepth 20000 in
theorem gX4_layGains_X4_cellOf : GoodIn wsX4_layGains (va_wsS RX4 196 yX4_cellOf wsX4_cellOf) := goodIn_app (goodIn_of _ (by decide +kernel)) ggX4_layGains_X4_cellOf
set_option maxRecDepth 20000 in
theorem ggX4_layGains_X4_placeOf : GoodIn wsX4_layGains wsX4_placeOf := goodIn_r _ [41, 14, 15, 42, 43, 44, 45, 46, 47, 48, 49, 50, 51, 52, 53, 54, 55, 56, 57, 58, 59, 60, 61, 62, 63, 64, 65, 66, 67, 68, 69, 70] (by decide +kernel) (by decide +kernel)
set_option maxRecDepth 20000 in
theorem gX4_layGains_X4_placeOf : GoodIn wsX4_layGains (wsV RX4 159 RX4 yX4_placeOf wsX4_placeOf) := goodIn_app (goodIn_of _ (by decide +kernel)) ggX4_layGains_X4_placeOf
theorem dX4_layGains_0 : decode cX4_layGains 0 = .ok (.iconst 0, 1) := by decide +kernel
theorem dX4_layGains_1 : decode cX4_layGains 1 = .ok (.istore_n 3, 1) := by decide +kernel
theorem dX4_layGains_2 : decode cX4_layGains 2 = .ok (.iload_n 3, 1) := by decide +kernel
theorem dX4_layGains_3 : decode cX4_layGains 3 = .ok (.aload_n 0, 1) := by decide +kernel
theorem dX4_layGains_4 : decode cX4_layGains 4 = .ok (.getfield 64, 3) := by decide +kernel
theorem dX4_layGains_7 : decode cX4_layGains 7 = .ok (.if_icmp .gt 164, 3) := by decide +kernel
theorem dX4_layGains_10 : decode cX4_layGains 10 = .ok (.iconst 0, 1) := by decide +kernel
theorem dX4_layGains_11 : decode cX4_layGains 11 = .ok (.istore 4, 2) := by decide +kernel
theorem dX4_layGains_13 : decode cX4_layGains 13 = .ok (.iload 4, 2) := by decide +kernel
theorem dX4_layGains_15 : decode cX4_layGains 15 = .ok (.aload_n 0, 1) := by decide +kernel
theorem dX4_layGains_16 : decode cX4_layGains 16 = .ok (.getfield 64, 3) := by decide +kernel
theorem dX4_layGains_19 : decode cX4_layGains 19 = .ok (.if_icmp .gt 146, 3) := by decide +kernel
theorem dX4_layGains_22 : decode cX4_layGains 22 = .ok (.aload_n 0, 1) := by decide +kernel
theorem dX4_layGains_23 : decode cX4_layGains 23 = .ok (.invokevirtual 153, 3) := by decide +kernel
theorem dX4_layGains_26 : decode cX4_layGains 26 = .ok (.iload_n 3, 1) := by decide +kernel
theorem dX4_layGains_27 : decode cX4_layGains 27 = .ok (.ifCond .le 20, 3) := by decide +kernel
theorem dX4_layGains_30 : decode cX4_layGains 30 = .ok (.aload_n 0, 1) := by decide +kernel
theorem dX4_layGains_31 : decode cX4_layGains 31 = .ok (.getfield 28, 3) := by decide +kernel
theorem dX4_layGains_34 : decode cX4_layGains 34 = .ok (.bipush 7, 2) := by decide +kernel
theorem dX4_layGains_36 : decode cX4_layGains 36 = .ok (.iload_n 1, 1) := by decide +kernel
theorem dX4_layGains_37 : decode cX4_layGains 37 = .ok (.iadd, 1) := by decide +kernel
theorem dX4_layGains_38 : decode cX4_layGains 38 = .ok (.dup2, 1) := by decide +kernel
theorem dX4_layGains_39 : decode cX4_layGains 39 = .ok (.iaload, 1) := by decide +kernel
theorem dX4_layGains_40 : decode cX4_layGains 40 = .ok (.iconst 1, 1) := by decide +kernel
theorem dX4_layGains_41 : decode cX4_layGains 41 = .ok (.iload_n 3, 1) := by decide +kernel
theorem dX4_layGains_42 : decode cX4_layGains 42 = .ok (.iconst 1, 1) := by decide +kernel
theorem dX4_layGains_43 : decode cX4_layGains 43 = .ok (.isub, 1) := by decide +kernel
theorem dX4_layGains_44 : decode cX4_layGains 44 = .ok (.ishl, 1) := by decide +kernel
theorem dX4_layGains_45 : decode cX4_layGains 45 = .ok (.ior, 1) := by decide +kernel
theorem dX4_layGains_46 : decode cX4_layGains 46 = .ok (.iastore, 1) := by decide +kernel
theorem dX4_layGains_47 : decode cX4_layGains 47 = .ok (.iload 4, 2) := by decide +kernel
theorem dX4_layGains_49 : decode cX4_layGains 49 = .ok (.ifCond .le 21, 3) := by decide +kernel
theorem dX4_layGains_52 : decode cX4_layGains 52 = .ok (.aload_n 0, 1) := by decide +kernel
theorem dX4_layGains_53 : decode cX4_layGains 53 = .ok (.getfield 28, 3) := by decide +kernel
theorem dX4_layGains_56 : decode cX4_layGains 56 = .ok (.bipush 7, 2) := by decide +kernel
theorem dX4_layGains_58 : decode cX4_layGains 58 = .ok (.iload_n 2, 1) := by decide +kernel
theorem dX4_layGains_59 : decode cX4_layGains 59 = .ok (.iadd, 1) := by decide +kernel
theorem dX4_layGains_60 : decode cX4_layGains 60 = .ok (.dup2, 1) := by decide +kernel
theorem dX4_layGains_61 : decode cX4_layGains 61 = .ok (.iaload, 1) := by decide +kernel
theorem dX4_layGains_62 : decode cX4_layGains 62 = .ok (.iconst 1, 1) := by decide +kernel
theorem dX4_layGains_63 : decode cX4_layGains 63 = .ok (.iload 4, 2) := by decide +kernel
theorem dX4_layGains_65 : decode cX4_layGains 65 = .ok (.iconst 1, 1) := by decide +kernel
theorem dX4_layGains_66 : decode cX4_layGains 66 = .ok (.isub, 1) := by decide +kernel
theorem dX4_layGains_67 : decode cX4_layGains 67 = .ok (.ishl, 1) := by decide +kernel
theorem dX4_layGains_68 : decode cX4_layGains 68 = .ok (.ior, 1) := by decide +kernel
theorem dX4_layGains_69 : decode cX4_layGains 69 = .ok (.iastore, 1) := by decide +kernel
theorem dX4_layGains_70 : decode cX4_layGains 70 = .ok (.aload_n 0, 1) := by decide +kernel
theorem dX4_layGains_71 : decode cX4_layGains 71 = .ok (.invokevirtual 156, 3) := by decide +kernel
theorem dX4_layGains_74 : decode cX4_layGains 74 = .ok (.aload_n 0, 1) := by decide +kernel
theorem dX4_layGains_75 : decode cX4_layGains 75 = .ok (.getfield 53, 3) := by decide +kernel
theorem dX4_layGains_78 : decode cX4_layGains 78 = .ok (.iload_n 3, 1) := by decide +kernel
theorem dX4_layGains_79 : decode cX4_layGains 79 = .ok (.iload 4, 2) := by decide +kernel
theorem dX4_layGains_81 : decode cX4_layGains 81 = .ok (.invokestatic 196, 3) := by decide +kernel
theorem dX4_layGains_84 : decode cX4_layGains 84 = .ok (.aload_n 0, 1) := by decide +kernel
theorem dX4_layGains_85 : decode cX4_layGains 85 = .ok (.iload_n 1, 1) := by decide +kernel
theorem dX4_layGains_86 : decode cX4_layGains 86 = .ok (.invokevirtual 159, 3) := by decide +kernel
theorem dX4_layGains_89 : decode cX4_layGains 89 = .ok (.bipush (-9), 2) := by decide +kernel
theorem dX4_layGains_91 : decode cX4_layGains 91 = .ok (.if_icmp .ne 8, 3) := by decide +kernel
theorem dX4_layGains_94 : decode cX4_layGains 94 = .ok (.bipush 9, 2) := by decide +kernel
theorem dX4_layGains_96 : decode cX4_layGains 96 = .ok (.goto 8, 3) := by decide +kernel
theorem dX4_layGains_99 : decode cX4_layGains 99 = .ok (.aload_n 0, 1) := by decide +kernel
theorem dX4_layGains_100 : decode cX4_layGains 100 = .ok (.iload_n 1, 1) := by decide +kernel
theorem dX4_layGains_101 : decode cX4_layGains 101 = .ok (.invokevirtual 159, 3) := by decide +kernel
theorem dX4_layGains_104 : decode cX4_layGains 104 = .ok (.iload_n 3, 1) := by decide +kernel
theorem dX4_layGains_105 : decode cX4_layGains 105 = .ok (.ifCond .le 7, 3) := by decide +kernel
theorem dX4_layGains_108 : decode cX4_layGains 108 = .ok (.iconst 1, 1) := by decide +kernel
theorem dX4_layGains_109 : decode cX4_layGains 109 = .ok (.goto 4, 3) := by decide +kernel
theorem dX4_layGains_112 : decode cX4_layGains 112 = .ok (.iconst 0, 1) := by decide +kernel
theorem dX4_layGains_113 : decode cX4_layGains 113 = .ok (.isub, 1) := by decide +kernel
theorem dX4_layGains_114 : decode cX4_layGains 114 = .ok (.iastore, 1) := by decide +kernel
theorem dX4_layGains_115 : decode cX4_layGains 115 = .ok (.aload_n 0, 1) := by decide +kernel
theorem dX4_layGains_116 : decode cX4_layGains 116 = .ok (.getfield 53, 3) := by decide +kernel
theorem dX4_layGains_119 : decode cX4_layGains 119 = .ok (.iload_n 3, 1) := by decide +kernel
theorem dX4_layGains_120 : decode cX4_layGains 120 = .ok (.iload 4, 2) := by decide +kernel
theorem dX4_layGains_122 : decode cX4_layGains 122 = .ok (.invokestatic 196, 3) := by decide +kernel
theorem dX4_layGains_125 : decode cX4_layGains 125 = .ok (.iconst 1, 1) := by decide +kernel
theorem dX4_layGains_126 : decode cX4_layGains 126 = .ok (.iadd, 1) := by decide +kernel
theorem dX4_layGains_127 : decode cX4_layGains 127 = .ok (.aload_n 0, 1) := by decide +kernel
theorem dX4_layGains_128 : decode cX4_layGains 128 = .ok (.iload_n 2, 1) := by decide +kernel
theorem dX4_layGains_129 : decode cX4_layGains 129 = .ok (.invokevirtual 159, 3) := by decide +kernel
theorem dX4_layGains_132 : decode cX4_layGains 132 = .ok (.bipush (-9), 2) := by decide +kernel
theorem dX4_layGains_134 : decode cX4_layGains 134 = .ok (.if_icmp .ne 8, 3) := by decide +kernel
theorem dX4_layGains_137 : decode cX4_layGains 137 = .ok (.bipush 9, 2) := by decide +kernel
theorem dX4_layGains_139 : decode cX4_layGains 139 = .ok (.goto 8, 3) := by decide +kernel
theorem dX4_layGains_142 : decode cX4_layGains 142 = .ok (.aload_n 0, 1) := by decide +kernel
theorem dX4_layGains_143 : decode cX4_layGains 143 = .ok (.iload_n 2, 1) := by decide +kernel
theorem dX4_layGains_144 : decode cX4_layGains 144 = .ok (.invokevirtual 159, 3) := by decide +kernel
theorem dX4_layGains_147 : decode cX4_layGains 147 = .ok (.iload 4, 2) := by decide +kernel
theorem dX4_layGains_149 : decode cX4_layGains 149 = .ok (.ifCond .le 7, 3) := by decide +kernel
theorem dX4_layGains_152 : decode cX4_layGains 152 = .ok (.iconst 1, 1) := by decide +kernel
theorem dX4_layGains_153 : decode cX4_layGains 153 = .ok (.goto 4, 3) := by decide +kernel
theorem dX4_layGains_156 : decode cX4_layGains 156 = .ok (.iconst 0, 1) := by decide +kernel
theorem dX4_layGains_157 : decode cX4_layGains 157 = .ok (.isub, 1) := by decide +kernel
theorem dX4_layGains_158 : decode cX4_layGains 158 = .ok (.iastore, 1) := by decide +kernel
theorem dX4_layGains_159 : decode cX4_layGains 159 = .ok (.iinc 4 1, 3) := by decide +kernel
theorem dX4_layGains_162 : decode cX4_layGains 162 = .ok (.goto (-149), 3) := by decide +kernel
theorem dX4_layGains_165 : decode cX4_layGains 165 = .ok (.iinc 3 1, 3) := by decide +kernel
theorem dX4_layGains_168 : decode cX4_layGains 168 = .ok (.goto (-166), 3) := by decide +kernel
theorem dX4_layGains_171 : decode cX4_layGains 171 = .ok (.return_, 1) := by decide +kernel
set_option maxRecDepth 20000 in
theorem ggX4_doRest_X4_cellOf : GoodIn wsX4_doRest wsX4_cellOf := goodIn_r _ [6] (by decide +kernel) (by decide +kernel)
set_option maxRecDepth 20000 in
theorem gX4_doRest_X4_cellOf : GoodIn wsX4_doRest (va_wsS RX4 196 yX4_cellOf wsX4_cellOf) := goodIn_app (goodIn_of _ (by decide +kernel)) ggX4_doRest_X4_cellOf
theorem dX4_doRest_0 : decode cX4_doRest 0 = .ok (.iload_n 3, 1) := by decide +kernel
theorem dX4_doRest_1 : decode cX4_doRest 1 = .ok (.iload_n 1, 1) := by decide +kernel
theorem dX4_doRest_2 : decode cX4_doRest 2 = .ok (.iconst 1, 1) := by decide +kernel
theorem dX4_doRest_3 : decode cX4_doRest 3 = .ok (.iadd, 1) := by decide +kernel
theorem dX4_doRest_4 : decode cX4_doRest 4 = .ok (.if_icmp .eq 15, 3) := by decide +kernel
theorem dX4_doRest_7 : decode cX4_doRest 7 = .ok (.iload 4, 2) := by decide +kernel
theorem dX4_doRest_9 : decode cX4_doRest 9 = .ok (.iload_n 2, 1) := by decide +kernel
theorem dX4_doRest_10 : decode cX4_doRest 10 = .ok (.iconst 1, 1) := by decide +kernel
theorem dX4_doRest_11 : decode cX4_doRest 11 = .ok (.iadd, 1) := by decide +kernel
theorem dX4_doRest_12 : decode cX4_doRest 12 = .ok (.if_icmp .eq 7, 3) := by decide +kernel
theorem dX4_doRest_15 : decode cX4_doRest 15 = .ok (.iconst 1, 1) := by decide +kernel
theorem dX4_doRest_16 : decode cX4_doRest 16 = .ok (.goto 4, 3) := by decide +kernel
theorem dX4_doRest_19 : decode cX4_doRest 19 = .ok (.iconst 0, 1) := by decide +kernel
theorem dX4_doRest_20 : decode cX4_doRest 20 = .ok (.istore 5, 2) := by decide +kernel
theorem dX4_doRest_22 : decode cX4_doRest 22 = .ok (.iconst 0, 1) := by decide +kernel
theorem dX4_doRest_23 : decode cX4_doRest 23 = .ok (.istore 6, 2) := by decide +kernel
theorem dX4_doRest_25 : decode cX4_doRest 25 = .ok (.iload 6, 2) := by decide +kernel
theorem dX4_doRest_27 : decode cX4_doRest 27 = .ok (.aload_n 0, 1) := by decide +kernel
theorem dX4_doRest_28 : decode cX4_doRest 28 = .ok (.getfield 64, 3) := by decide +kernel
theorem dX4_doRest_31 : decode cX4_doRest 31 = .ok (.if_icmp .gt 104, 3) := by decide +kernel
theorem dX4_doRest_34 : decode cX4_doRest 34 = .ok (.iload 5, 2) := by decide +kernel
theorem dX4_doRest_36 : decode cX4_doRest 36 = .ok (.ifCond .eq 41, 3) := by decide +kernel
theorem dX4_doRest_39 : decode cX4_doRest 39 = .ok (.iload 6, 2) := by decide +kernel
theorem dX4_doRest_41 : decode cX4_doRest 41 = .ok (.iload_n 1, 1) := by decide +kernel
theorem dX4_doRest_42 : decode cX4_doRest 42 = .ok (.iconst 1, 1) := by decide +kernel
theorem dX4_doRest_43 : decode cX4_doRest 43 = .ok (.iadd, 1) := by decide +kernel
theorem dX4_doRest_44 : decode cX4_doRest 44 = .ok (.if_icmp .eq 29, 3) := by decide +kernel
theorem dX4_doRest_47 : decode cX4_doRest 47 = .ok (.aload_n 0, 1) := by decide +kernel
theorem dX4_doRest_48 : decode cX4_doRest 48 = .ok (.getfield 53, 3) := by decide +kernel
theorem dX4_doRest_51 : decode cX4_doRest 51 = .ok (.iload 6, 2) := by decide +kernel
theorem dX4_doRest_53 : decode cX4_doRest 53 = .ok (.iload 4, 2) := by decide +kernel
theorem dX4_doRest_55 : decode cX4_doRest 55 = .ok (.invokestatic 196, 3) := by decide +kernel
theorem dX4_doRest_58 : decode cX4_doRest 58 = .ok (.iaload, 1) := by decide +kernel
theorem dX4_doRest_59 : decode cX4_doRest 59 = .ok (.aload_n 0, 1) := by decide +kernel
theorem dX4_doRest_60 : decode cX4_doRest 60 = .ok (.getfield 53, 3) := by decide +kernel
theorem dX4_doRest_63 : decode cX4_doRest 63 = .ok (.iload_n 3, 1) := by decide +kernel
theorem dX4_doRest_64 : decode cX4_doRest 64 = .ok (.iload 4, 2) := by decide +kernel
theorem dX4_doRest_66 : decode cX4_doRest 66 = .ok (.invokestatic 196, 3) := by decide +kernel
theorem dX4_doRest_69 : decode cX4_doRest 69 = .ok (.iaload, 1) := by decide +kernel
theorem dX4_doRest_70 : decode cX4_doRest 70 = .ok (.if_icmp .gt 7, 3) := by decide +kernel
theorem dX4_doRest_73 : decode cX4_doRest 73 = .ok (.iconst 1, 1) := by decide +kernel
theorem dX4_doRest_74 : decode cX4_doRest 74 = .ok (.goto 4, 3) := by decide +kernel
theorem dX4_doRest_77 : decode cX4_doRest 77 = .ok (.iconst 0, 1) := by decide +kernel
theorem dX4_doRest_78 : decode cX4_doRest 78 = .ok (.istore 5, 2) := by decide +kernel
theorem dX4_doRest_80 : decode cX4_doRest 80 = .ok (.iload 5, 2) := by decide +kernel
theorem dX4_doRest_82 : decode cX4_doRest 82 = .ok (.ifCond .eq 44, 3) := by decide +kernel
theorem dX4_doRest_85 : decode cX4_doRest 85 = .ok (.iload 6, 2) := by decide +kernel
theorem dX4_doRest_87 : decode cX4_doRest 87 = .ok (.iload_n 2, 1) := by decide +kernel
theorem dX4_doRest_88 : decode cX4_doRest 88 = .ok (.iconst 1, 1) := by decide +kernel
theorem dX4_doRest_89 : decode cX4_doRest 89 = .ok (.iadd, 1) := by decide +kernel
theorem dX4_doRest_90 : decode cX4_doRest 90 = .ok (.if_icmp .eq 32, 3) := by decide +kernel
theorem dX4_doRest_93 : decode cX4_doRest 93 = .ok (.aload_n 0, 1) := by decide +kernel
theorem dX4_doRest_94 : decode cX4_doRest 94 = .ok (.getfield 53, 3) := by decide +kernel
theorem dX4_doRest_97 : decode cX4_doRest 97 = .ok (.iload_n 3, 1) := by decide +kernel
theorem dX4_doRest_98 : decode cX4_doRest 98 = .ok (.iload 6, 2) := by decide +kernel
theorem dX4_doRest_100 : decode cX4_doRest 100 = .ok (.invokestatic 196, 3) := by decide +kernel
theorem dX4_doRest_103 : decode cX4_doRest 103 = .ok (.iconst 1, 1) := by decide +kernel
theorem dX4_doRest_104 : decode cX4_doRest 104 = .ok (.iadd, 1) := by decide +kernel
theorem dX4_doRest_105 : decode cX4_doRest 105 = .ok (.iaload, 1) := by decide +kernel
theorem dX4_doRest_106 : decode cX4_doRest 106 = .ok (.aload_n 0, 1) := by decide +kernel
theorem dX4_doRest_107 : decode cX4_doRest 107 = .ok (.getfield 53, 3) := by decide +kernel
theorem dX4_doRest_110 : decode cX4_doRest 110 = .ok (.iload_n 3, 1) := by decide +kernel
theorem dX4_doRest_111 : decode cX4_doRest 111 = .ok (.iload 4, 2) := by decide +kernel
theorem dX4_doRest_113 : decode cX4_doRest 113 = .ok (.invokestatic 196, 3) := by decide +kernel
theorem dX4_doRest_116 : decode cX4_doRest 116 = .ok (.iconst 1, 1) := by decide +kernel
theorem dX4_doRest_117 : decode cX4_doRest 117 = .ok (.iadd, 1) := by decide +kernel
theorem dX4_doRest_118 : decode cX4_doRest 118 = .ok (.iaload, 1) := by decide +kernel
theorem dX4_doRest_119 : decode cX4_doRest 119 = .ok (.if_icmp .gt 7, 3) := by decide +kernel
theorem dX4_doRest_122 : decode cX4_doRest 122 = .ok (.iconst 1, 1) := by decide +kernel
theorem dX4_doRest_123 : decode cX4_doRest 123 = .ok (.goto 4, 3) := by decide +kernel
theorem dX4_doRest_126 : decode cX4_doRest 126 = .ok (.iconst 0, 1) := by decide +kernel
theorem dX4_doRest_127 : decode cX4_doRest 127 = .ok (.istore 5, 2) := by decide +kernel
theorem dX4_doRest_129 : decode cX4_doRest 129 = .ok (.iinc 6 1, 3) := by decide +kernel
theorem dX4_doRest_132 : decode cX4_doRest 132 = .ok (.goto (-107), 3) := by decide +kernel
theorem dX4_doRest_135 : decode cX4_doRest 135 = .ok (.iload 5, 2) := by decide +kernel
theorem dX4_doRest_137 : decode cX4_doRest 137 = .ok (.ireturn, 1) := by decide +kernel
set_option maxRecDepth 20000 in
theorem ggX4_findRests_X4_layGains : GoodIn wsX4_findRests wsX4_layGains := goodIn_r _ [8, 3, 9, 10, 11, 12, 13, 7, 14, 15, 16, 17, 18, 19, 20, 21, 22, 23, 24, 25, 26, 27, 28, 29, 30, 31, 32, 33, 34, 35, 36, 37, 38, 39, 40, 41, 42, 43, 44, 45, 46, 47, 52, 53, 54, 55, 56, 57, 58, 59, 60, 61, 62, 63, 64, 65, 66, 67, 68, 69, 70, 71, 72, 73, 74, 75, 76, 77, 78, 79, 80] (by decide +kernel) (by decide +kernel)
set_option maxRecDepth 20000 in
theorem gX4_findRests_X4_layGains : GoodIn wsX4_findRests (wsV RX4 200 RX4 yX4_layGains wsX4_layGains) := goodIn_app (goodIn_of _ (by decide +kernel)) ggX4_findRests_X4_layGains
set_option maxRecDepth 20000 in
theorem ggX4_findRests_X4_doRest : GoodIn wsX4_findRests wsX4_doRest := goodIn_r _ [51, 3, 10, 41, 42, 7, 43, 52, 53, 54, 55, 56, 57, 58, 59, 60, 61, 62, 63, 64, 65, 66, 67, 68, 69, 70, 71, 72, 73, 74, 75, 76, 77, 78, 79, 80] (by decide +kernel) (by decide +kernel)
set_option maxRecDepth 20000 in
theorem gX4_findRests_X4_doRest : GoodIn wsX4_findRests (wsV RX4 210 RX4 yX4_doRest wsX4_doRest) := goodIn_app (goodIn_of _ (by decide +kernel)) ggX4_findRests_X4_doRest
theorem dX4_findRests_0 : decode cX4_findRests 0 = .ok (.aload_n 0, 1) := by decide +kernel
theorem dX4_findRests_1 : decode cX4_findRests 1 = .ok (.iload_n 1, 1) := by decide +kernel
theorem dX4_findRests_2 : decode cX4_findRests 2 = .ok (.iload_n 2, 1) := by decide +kernel
theorem dX4_findRests_3 : decode cX4_findRests 3 = .ok (.invokevirtual 200, 3) := by decide +kernel
theorem dX4_findRests_6 : decode cX4_findRests 6 = .ok (.aload_n 0, 1) := by decide +kernel
theorem dX4_findRests_7 : decode cX4_findRests 7 = .ok (.iconst 0, 1) := by decide +kernel
theorem dX4_findRests_8 : decode cX4_findRests 8 = .ok (.putfield 204, 3) := by decide +kernel
theorem dX4_findRests_11 : decode cX4_findRests 11 = .ok (.aload_n 0, 1) := by decide +kernel
theorem dX4_findRests_12 : decode cX4_findRests 12 = .ok (.bipush (-9), 2) := by decide +kernel
theorem dX4_findRests_14 : decode cX4_findRests 14 = .ok (.putfield 207, 3) := by decide +kernel
theorem dX4_findRests_17 : decode cX4_findRests 17 = .ok (.iconst 0, 1) := by decide +kernel
theorem dX4_findRests_18 : decode cX4_findRests 18 = .ok (.istore_n 3, 1) := by decide +kernel
theorem dX4_findRests_19 : decode cX4_findRests 19 = .ok (.iload_n 3, 1) := by decide +kernel
theorem dX4_findRests_20 : decode cX4_findRests 20 = .ok (.aload_n 0, 1) := by decide +kernel
theorem dX4_findRests_21 : decode cX4_findRests 21 = .ok (.getfield 64, 3) := by decide +kernel
theorem dX4_findRests_24 : decode cX4_findRests 24 = .ok (.if_icmp .gt 74, 3) := by decide +kernel
theorem dX4_findRests_27 : decode cX4_findRests 27 = .ok (.iconst 0, 1) := by decide +kernel
theorem dX4_findRests_28 : decode cX4_findRests 28 = .ok (.istore 4, 2) := by decide +kernel
theorem dX4_findRests_30 : decode cX4_findRests 30 = .ok (.iload 4, 2) := by decide +kernel
theorem dX4_findRests_32 : decode cX4_findRests 32 = .ok (.aload_n 0, 1) := by decide +kernel
theorem dX4_findRests_33 : decode cX4_findRests 33 = .ok (.getfield 64, 3) := by decide +kernel
theorem dX4_findRests_36 : decode cX4_findRests 36 = .ok (.if_icmp .gt 56, 3) := by decide +kernel
theorem dX4_findRests_39 : decode cX4_findRests 39 = .ok (.aload_n 0, 1) := by decide +kernel
theorem dX4_findRests_40 : decode cX4_findRests 40 = .ok (.iload_n 1, 1) := by decide +kernel
theorem dX4_findRests_41 : decode cX4_findRests 41 = .ok (.iload_n 2, 1) := by decide +kernel
theorem dX4_findRests_42 : decode cX4_findRests 42 = .ok (.iload_n 3, 1) := by decide +kernel
theorem dX4_findRests_43 : decode cX4_findRests 43 = .ok (.iload 4, 2) := by decide +kernel
theorem dX4_findRests_45 : decode cX4_findRests 45 = .ok (.invokevirtual 210, 3) := by decide +kernel
theorem dX4_findRests_48 : decode cX4_findRests 48 = .ok (.ifCond .eq 38, 3) := by decide +kernel
theorem dX4_findRests_51 : decode cX4_findRests 51 = .ok (.aload_n 0, 1) := by decide +kernel
theorem dX4_findRests_52 : decode cX4_findRests 52 = .ok (.aload_n 0, 1) := by decide +kernel
theorem dX4_findRests_53 : decode cX4_findRests 53 = .ok (.getfield 204, 3) := by decide +kernel
theorem dX4_findRests_56 : decode cX4_findRests 56 = .ok (.ifCond .ne 13, 3) := by decide +kernel
theorem dX4_findRests_59 : decode cX4_findRests 59 = .ok (.bipush 10, 2) := by decide +kernel
theorem dX4_findRests_61 : decode cX4_findRests 61 = .ok (.iload_n 3, 1) := by decide +kernel
theorem dX4_findRests_62 : decode cX4_findRests 62 = .ok (.imul, 1) := by decide +kernel
theorem dX4_findRests_63 : decode cX4_findRests 63 = .ok (.iload 4, 2) := by decide +kernel
theorem dX4_findRests_65 : decode cX4_findRests 65 = .ok (.iadd, 1) := by decide +kernel
theorem dX4_findRests_66 : decode cX4_findRests 66 = .ok (.goto 7, 3) := by decide +kernel
theorem dX4_findRests_69 : decode cX4_findRests 69 = .ok (.aload_n 0, 1) := by decide +kernel
theorem dX4_findRests_70 : decode cX4_findRests 70 = .ok (.getfield 207, 3) := by decide +kernel
theorem dX4_findRests_73 : decode cX4_findRests 73 = .ok (.putfield 207, 3) := by decide +kernel
theorem dX4_findRests_76 : decode cX4_findRests 76 = .ok (.aload_n 0, 1) := by decide +kernel
theorem dX4_findRests_77 : decode cX4_findRests 77 = .ok (.dup, 1) := by decide +kernel
theorem dX4_findRests_78 : decode cX4_findRests 78 = .ok (.getfield 204, 3) := by decide +kernel
theorem dX4_findRests_81 : decode cX4_findRests 81 = .ok (.iconst 1, 1) := by decide +kernel
theorem dX4_findRests_82 : decode cX4_findRests 82 = .ok (.iadd, 1) := by decide +kernel
theorem dX4_findRests_83 : decode cX4_findRests 83 = .ok (.putfield 204, 3) := by decide +kernel
theorem dX4_findRests_86 : decode cX4_findRests 86 = .ok (.iinc 4 1, 3) := by decide +kernel
theorem dX4_findRests_89 : decode cX4_findRests 89 = .ok (.goto (-59), 3) := by decide +kernel
theorem dX4_findRests_92 : decode cX4_findRests 92 = .ok (.iinc 3 1, 3) := by decide +kernel
theorem dX4_findRests_95 : decode cX4_findRests 95 = .ok (.goto (-76), 3) := by decide +kernel
theorem dX4_findRests_98 : decode cX4_findRests 98 = .ok (.return_, 1) := by decide +kernel
set_option maxRecDepth 20000 in
theorem ggX4_rests_X4_noPerson : GoodIn wsX4_rests wsX4_noPerson := goodIn_r _ [9, 10, 11, 12, 8, 13, 64, 65, 66, 67, 68, 69, 70, 71, 72, 73, 74, 75, 76, 77, 78, 79, 80, 81, 82, 83, 84, 85, 86, 87, 88, 89, 90, 91, 92] (by decide +kernel) (by decide +kernel)
set_option maxRecDepth 20000 in
theorem gX4_rests_X4_noPerson : GoodIn wsX4_rests (wsV RX4 134 RX4 yX4_noPerson wsX4_noPerson) := goodIn_app (goodIn_of _ (by decide +kernel)) ggX4_rests_X4_noPerson
set_option maxRecDepth 20000 in
theorem ggX4_rests_X4_in : GoodIn wsX4_rests wsX4_in := goodIn_r _ [13] (by decide +kernel) (by decide +kernel)
set_option maxRecDepth 20000 in
theorem gX4_rests_X4_in : GoodIn wsX4_rests (va_wsS RX4 67 yX4_in wsX4_in) := goodIn_app (goodIn_of _ (by decide +kernel)) ggX4_rests_X4_in
set_option maxRecDepth 20000 in
theorem ggX4_rests_X4_has : GoodIn wsX4_rests wsX4_has := goodIn_r _ [16] (by decide +kernel) (by decide +kernel)
set_option maxRecDepth 20000 in
theorem gX4_rests_X4_has : GoodIn wsX4_rests (va_wsS RX4 89 yX4_has wsX4_has) := goodIn_app (goodIn_of _ (by decide +kernel)) ggX4_rests_X4_has
set_option maxRecDepth 20000 in
theorem ggX4_rests_X4_findRests : GoodIn wsX4_rests wsX4_findRests := goodIn_r _ [20, 3, 4, 10, 21, 22, 23, 8, 24, 25, 26, 27, 28, 29, 30, 2, 31, 32, 33, 34, 35, 36, 37, 38, 39, 40, 14, 15, 16, 41, 42, 43, 44, 45, 46, 47, 48, 49, 50, 51, 52, 53, 54, 55, 56, 57, 58, 59, 60, 61, 62, 63, 64, 65, 66, 67, 68, 69, 70, 71, 72, 73, 74, 75, 76, 77, 78, 79, 80, 81, 82, 83, 84, 85, 86, 87, 88, 89, 90, 91, 92] (by decide +kernel) (by decide +kernel)
set_option maxRecDepth 20000 in
theorem gX4_rests_X4_findRests : GoodIn wsX4_rests (wsV RX4 214 RX4 yX4_findRests wsX4_findRests) := goodIn_app (goodIn_of _ (by decide +kernel)) ggX4_rests_X4_findRests
theorem dX4_rests_0 : decode cX4_rests 0 = .ok (.aload_n 0, 1) := by decide +kernel
theorem dX4_rests_1 : decode cX4_rests 1 = .ok (.iconst 0, 1) := by decide +kernel
theorem dX4_rests_2 : decode cX4_rests 2 = .ok (.putfield 60, 3) := by decide +kernel
theorem dX4_rests_5 : decode cX4_rests 5 = .ok (.aload_n 0, 1) := by decide +kernel
theorem dX4_rests_6 : decode cX4_rests 6 = .ok (.iload_n 1, 1) := by decide +kernel
theorem dX4_rests_7 : decode cX4_rests 7 = .ok (.invokevirtual 134, 3) := by decide +kernel
theorem dX4_rests_10 : decode cX4_rests 10 = .ok (.ifCond .ne 11, 3) := by decide +kernel
theorem dX4_rests_13 : decode cX4_rests 13 = .ok (.aload_n 0, 1) := by decide +kernel
theorem dX4_rests_14 : decode cX4_rests 14 = .ok (.iload_n 2, 1) := by decide +kernel
theorem dX4_rests_15 : decode cX4_rests 15 = .ok (.invokevirtual 134, 3) := by decide +kernel
theorem dX4_rests_18 : decode cX4_rests 18 = .ok (.ifCond .eq 5, 3) := by decide +kernel
theorem dX4_rests_21 : decode cX4_rests 21 = .ok (.iconst (-1), 1) := by decide +kernel
theorem dX4_rests_22 : decode cX4_rests 22 = .ok (.ireturn, 1) := by decide +kernel
theorem dX4_rests_23 : decode cX4_rests 23 = .ok (.iload_n 1, 1) := by decide +kernel
theorem dX4_rests_24 : decode cX4_rests 24 = .ok (.iload_n 2, 1) := by decide +kernel
theorem dX4_rests_25 : decode cX4_rests 25 = .ok (.if_icmp .eq 13, 3) := by decide +kernel
