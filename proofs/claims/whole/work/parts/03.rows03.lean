theorem dX3_newPair_25 : decode cX3_newPair 25 = .ok (.iload_n 3, 1) := by decide +kernel
theorem dX3_newPair_26 : decode cX3_newPair 26 = .ok (.invokevirtual 92, 3) := by decide +kernel
theorem dX3_newPair_29 : decode cX3_newPair 29 = .ok (.ifCond .eq 24, 3) := by decide +kernel
theorem dX3_newPair_32 : decode cX3_newPair 32 = .ok (.iload_n 2, 1) := by decide +kernel
theorem dX3_newPair_33 : decode cX3_newPair 33 = .ok (.iload_n 3, 1) := by decide +kernel
theorem dX3_newPair_34 : decode cX3_newPair 34 = .ok (.if_icmp .eq 19, 3) := by decide +kernel
theorem dX3_newPair_37 : decode cX3_newPair 37 = .ok (.aload_n 0, 1) := by decide +kernel
theorem dX3_newPair_38 : decode cX3_newPair 38 = .ok (.getfield 19, 3) := by decide +kernel
theorem dX3_newPair_41 : decode cX3_newPair 41 = .ok (.iload_n 2, 1) := by decide +kernel
theorem dX3_newPair_42 : decode cX3_newPair 42 = .ok (.iload_n 3, 1) := by decide +kernel
theorem dX3_newPair_43 : decode cX3_newPair 43 = .ok (.invokevirtual 138, 3) := by decide +kernel
theorem dX3_newPair_46 : decode cX3_newPair 46 = .ok (.ifCond .ne 7, 3) := by decide +kernel
theorem dX3_newPair_49 : decode cX3_newPair 49 = .ok (.iconst 1, 1) := by decide +kernel
theorem dX3_newPair_50 : decode cX3_newPair 50 = .ok (.goto 4, 3) := by decide +kernel
theorem dX3_newPair_53 : decode cX3_newPair 53 = .ok (.iconst 0, 1) := by decide +kernel
theorem dX3_newPair_54 : decode cX3_newPair 54 = .ok (.istore 4, 2) := by decide +kernel
theorem dX3_newPair_56 : decode cX3_newPair 56 = .ok (.iload 4, 2) := by decide +kernel
theorem dX3_newPair_58 : decode cX3_newPair 58 = .ok (.ifCond .eq 11, 3) := by decide +kernel
theorem dX3_newPair_61 : decode cX3_newPair 61 = .ok (.iload_n 2, 1) := by decide +kernel
theorem dX3_newPair_62 : decode cX3_newPair 62 = .ok (.iload_n 3, 1) := by decide +kernel
theorem dX3_newPair_63 : decode cX3_newPair 63 = .ok (.invokestatic 134, 3) := by decide +kernel
theorem dX3_newPair_66 : decode cX3_newPair 66 = .ok (.goto 4, 3) := by decide +kernel
theorem dX3_newPair_69 : decode cX3_newPair 69 = .ok (.lconst 0, 1) := by decide +kernel
theorem dX3_newPair_70 : decode cX3_newPair 70 = .ok (.lreturn, 1) := by decide +kernel
set_option maxRecDepth 20000 in
theorem ggX3_savesByFeeding_X1_leftBehind : GoodIn wsX3_savesByFeeding wsX1_leftBehind := goodIn_r _ [6, 7, 8, 9, 10, 4, 11, 12, 13, 14, 15, 16, 17, 18, 19, 20, 21, 22, 23, 24, 25, 26, 27, 28, 29, 30, 31, 32, 33, 34, 35, 48, 49, 50, 51, 52, 53, 54] (by decide +kernel) (by decide +kernel)
set_option maxRecDepth 20000 in
theorem gX3_savesByFeeding_X1_leftBehind_n158 : GoodIn wsX3_savesByFeeding (wsX1_leftBehind) := ggX3_savesByFeeding_X1_leftBehind
set_option maxRecDepth 20000 in
theorem ggX3_savesByFeeding_X3_isIn : GoodIn wsX3_savesByFeeding wsX3_isIn := goodIn_r _ [14] (by decide +kernel) (by decide +kernel)
set_option maxRecDepth 20000 in
theorem gX3_savesByFeeding_X3_isIn : GoodIn wsX3_savesByFeeding (va_wsS RX3 107 yX3_isIn wsX3_isIn) := goodIn_app (goodIn_of _ (by decide +kernel)) ggX3_savesByFeeding_X3_isIn
theorem dX3_savesByFeeding_0 : decode cX3_savesByFeeding 0 = .ok (.aload_n 0, 1) := by decide +kernel
theorem dX3_savesByFeeding_1 : decode cX3_savesByFeeding 1 = .ok (.getfield 23, 3) := by decide +kernel
theorem dX3_savesByFeeding_4 : decode cX3_savesByFeeding 4 = .ok (.aload_n 0, 1) := by decide +kernel
theorem dX3_savesByFeeding_5 : decode cX3_savesByFeeding 5 = .ok (.getfield 19, 3) := by decide +kernel
theorem dX3_savesByFeeding_8 : decode cX3_savesByFeeding 8 = .ok (.getfield 130, 3) := by decide +kernel
theorem dX3_savesByFeeding_11 : decode cX3_savesByFeeding 11 = .ok (.lload_n 2, 1) := by decide +kernel
theorem dX3_savesByFeeding_12 : decode cX3_savesByFeeding 12 = .ok (.lor, 1) := by decide +kernel
theorem dX3_savesByFeeding_13 : decode cX3_savesByFeeding 13 = .ok (.putfield 130, 3) := by decide +kernel
theorem dX3_savesByFeeding_16 : decode cX3_savesByFeeding 16 = .ok (.aload_n 0, 1) := by decide +kernel
theorem dX3_savesByFeeding_17 : decode cX3_savesByFeeding 17 = .ok (.getfield 23, 3) := by decide +kernel
theorem dX3_savesByFeeding_20 : decode cX3_savesByFeeding 20 = .ok (.aload_n 0, 1) := by decide +kernel
theorem dX3_savesByFeeding_21 : decode cX3_savesByFeeding 21 = .ok (.getfield 23, 3) := by decide +kernel
theorem dX3_savesByFeeding_24 : decode cX3_savesByFeeding 24 = .ok (.getfield 72, 3) := by decide +kernel
theorem dX3_savesByFeeding_27 : decode cX3_savesByFeeding 27 = .ok (.invokevirtual 158, 3) := by decide +kernel
theorem dX3_savesByFeeding_30 : decode cX3_savesByFeeding 30 = .ok (.iload_n 1, 1) := by decide +kernel
theorem dX3_savesByFeeding_31 : decode cX3_savesByFeeding 31 = .ok (.invokestatic 107, 3) := by decide +kernel
theorem dX3_savesByFeeding_34 : decode cX3_savesByFeeding 34 = .ok (.ireturn, 1) := by decide +kernel
set_option maxRecDepth 20000 in
theorem ggX3_allSeenIsSo_X3_isSo : GoodIn wsX3_allSeenIsSo wsX3_isSo := goodIn_r _ [7, 8, 9, 10, 11, 12, 13, 14, 15, 16, 17, 18, 19, 20, 21, 22, 6, 23, 24, 25, 26, 27, 28, 29, 30, 31, 32, 33, 34, 35, 36, 37, 38, 39, 40, 41, 42, 43, 44, 45, 46, 47, 48, 49, 50, 51, 52, 53, 54, 55, 56, 57, 58, 59, 60, 61, 62, 63, 64, 65, 66, 67] (by decide +kernel) (by decide +kernel)
set_option maxRecDepth 20000 in
theorem gX3_allSeenIsSo_X3_isSo : GoodIn wsX3_allSeenIsSo (wsV RX3 208 RX3 yX3_isSo wsX3_isSo) := goodIn_app (goodIn_of _ (by decide +kernel)) ggX3_allSeenIsSo_X3_isSo
theorem dX3_allSeenIsSo_0 : decode cX3_allSeenIsSo 0 = .ok (.iconst 0, 1) := by decide +kernel
theorem dX3_allSeenIsSo_1 : decode cX3_allSeenIsSo 1 = .ok (.istore_n 1, 1) := by decide +kernel
theorem dX3_allSeenIsSo_2 : decode cX3_allSeenIsSo 2 = .ok (.iload_n 1, 1) := by decide +kernel
theorem dX3_allSeenIsSo_3 : decode cX3_allSeenIsSo 3 = .ok (.aload_n 0, 1) := by decide +kernel
theorem dX3_allSeenIsSo_4 : decode cX3_allSeenIsSo 4 = .ok (.getfield 89, 3) := by decide +kernel
theorem dX3_allSeenIsSo_7 : decode cX3_allSeenIsSo 7 = .ok (.if_icmp .ge 36, 3) := by decide +kernel
theorem dX3_allSeenIsSo_10 : decode cX3_allSeenIsSo 10 = .ok (.aload_n 0, 1) := by decide +kernel
theorem dX3_allSeenIsSo_11 : decode cX3_allSeenIsSo 11 = .ok (.aload_n 0, 1) := by decide +kernel
theorem dX3_allSeenIsSo_12 : decode cX3_allSeenIsSo 12 = .ok (.getfield 37, 3) := by decide +kernel
theorem dX3_allSeenIsSo_15 : decode cX3_allSeenIsSo 15 = .ok (.iload_n 1, 1) := by decide +kernel
theorem dX3_allSeenIsSo_16 : decode cX3_allSeenIsSo 16 = .ok (.iaload, 1) := by decide +kernel
theorem dX3_allSeenIsSo_17 : decode cX3_allSeenIsSo 17 = .ok (.bipush 10, 2) := by decide +kernel
theorem dX3_allSeenIsSo_19 : decode cX3_allSeenIsSo 19 = .ok (.idiv, 1) := by decide +kernel
theorem dX3_allSeenIsSo_20 : decode cX3_allSeenIsSo 20 = .ok (.aload_n 0, 1) := by decide +kernel
theorem dX3_allSeenIsSo_21 : decode cX3_allSeenIsSo 21 = .ok (.getfield 37, 3) := by decide +kernel
theorem dX3_allSeenIsSo_24 : decode cX3_allSeenIsSo 24 = .ok (.iload_n 1, 1) := by decide +kernel
theorem dX3_allSeenIsSo_25 : decode cX3_allSeenIsSo 25 = .ok (.iaload, 1) := by decide +kernel
theorem dX3_allSeenIsSo_26 : decode cX3_allSeenIsSo 26 = .ok (.bipush 10, 2) := by decide +kernel
theorem dX3_allSeenIsSo_28 : decode cX3_allSeenIsSo 28 = .ok (.irem, 1) := by decide +kernel
theorem dX3_allSeenIsSo_29 : decode cX3_allSeenIsSo 29 = .ok (.invokevirtual 208, 3) := by decide +kernel
theorem dX3_allSeenIsSo_32 : decode cX3_allSeenIsSo 32 = .ok (.ifCond .ne 5, 3) := by decide +kernel
theorem dX3_allSeenIsSo_35 : decode cX3_allSeenIsSo 35 = .ok (.iconst 0, 1) := by decide +kernel
theorem dX3_allSeenIsSo_36 : decode cX3_allSeenIsSo 36 = .ok (.ireturn, 1) := by decide +kernel
theorem dX3_allSeenIsSo_37 : decode cX3_allSeenIsSo 37 = .ok (.iinc 1 1, 3) := by decide +kernel
theorem dX3_allSeenIsSo_40 : decode cX3_allSeenIsSo 40 = .ok (.goto (-38), 3) := by decide +kernel
theorem dX3_allSeenIsSo_43 : decode cX3_allSeenIsSo 43 = .ok (.iconst 1, 1) := by decide +kernel
theorem dX3_allSeenIsSo_44 : decode cX3_allSeenIsSo 44 = .ok (.ireturn, 1) := by decide +kernel
set_option maxRecDepth 20000 in
theorem ggX3_isSo_X1_has : GoodIn wsX3_isSo wsX1_has := goodIn_r _ [5, 6, 55, 56, 57, 58, 59, 60, 61] (by decide +kernel) (by decide +kernel)
set_option maxRecDepth 20000 in
theorem gX3_isSo_X1_has_n92 : GoodIn wsX3_isSo (wsX1_has) := ggX3_isSo_X1_has
set_option maxRecDepth 20000 in
theorem ggX3_isSo_X1_placeOf : GoodIn wsX3_isSo wsX1_placeOf := goodIn_r _ [9, 10, 6, 11, 12, 13, 3, 14, 15, 16, 17, 18, 19, 20, 21, 22, 23, 24, 25, 26, 27, 28, 29, 30, 31, 32, 33, 34, 35, 36, 37, 38, 39, 40, 41, 42, 43, 55, 56, 57, 58, 59, 60, 61] (by decide +kernel) (by decide +kernel)
set_option maxRecDepth 20000 in
theorem gX3_isSo_X1_placeOf_n155 : GoodIn wsX3_isSo (wsX1_placeOf) := ggX3_isSo_X1_placeOf
theorem dX3_isSo_0 : decode cX3_isSo 0 = .ok (.aload_n 0, 1) := by decide +kernel
theorem dX3_isSo_1 : decode cX3_isSo 1 = .ok (.getfield 23, 3) := by decide +kernel
theorem dX3_isSo_4 : decode cX3_isSo 4 = .ok (.iload_n 1, 1) := by decide +kernel
theorem dX3_isSo_5 : decode cX3_isSo 5 = .ok (.invokevirtual 92, 3) := by decide +kernel
theorem dX3_isSo_8 : decode cX3_isSo 8 = .ok (.ifCond .eq 14, 3) := by decide +kernel
theorem dX3_isSo_11 : decode cX3_isSo 11 = .ok (.aload_n 0, 1) := by decide +kernel
theorem dX3_isSo_12 : decode cX3_isSo 12 = .ok (.getfield 23, 3) := by decide +kernel
theorem dX3_isSo_15 : decode cX3_isSo 15 = .ok (.iload_n 2, 1) := by decide +kernel
theorem dX3_isSo_16 : decode cX3_isSo 16 = .ok (.invokevirtual 92, 3) := by decide +kernel
theorem dX3_isSo_19 : decode cX3_isSo 19 = .ok (.ifCond .ne 5, 3) := by decide +kernel
theorem dX3_isSo_22 : decode cX3_isSo 22 = .ok (.iconst 1, 1) := by decide +kernel
theorem dX3_isSo_23 : decode cX3_isSo 23 = .ok (.ireturn, 1) := by decide +kernel
theorem dX3_isSo_24 : decode cX3_isSo 24 = .ok (.aload_n 0, 1) := by decide +kernel
theorem dX3_isSo_25 : decode cX3_isSo 25 = .ok (.getfield 23, 3) := by decide +kernel
theorem dX3_isSo_28 : decode cX3_isSo 28 = .ok (.iload_n 1, 1) := by decide +kernel
theorem dX3_isSo_29 : decode cX3_isSo 29 = .ok (.invokevirtual 155, 3) := by decide +kernel
theorem dX3_isSo_32 : decode cX3_isSo 32 = .ok (.istore_n 3, 1) := by decide +kernel
theorem dX3_isSo_33 : decode cX3_isSo 33 = .ok (.aload_n 0, 1) := by decide +kernel
theorem dX3_isSo_34 : decode cX3_isSo 34 = .ok (.getfield 23, 3) := by decide +kernel
theorem dX3_isSo_37 : decode cX3_isSo 37 = .ok (.iload_n 2, 1) := by decide +kernel
theorem dX3_isSo_38 : decode cX3_isSo 38 = .ok (.invokevirtual 155, 3) := by decide +kernel
theorem dX3_isSo_41 : decode cX3_isSo 41 = .ok (.istore 4, 2) := by decide +kernel
theorem dX3_isSo_43 : decode cX3_isSo 43 = .ok (.iload_n 3, 1) := by decide +kernel
theorem dX3_isSo_44 : decode cX3_isSo 44 = .ok (.bipush (-9), 2) := by decide +kernel
theorem dX3_isSo_46 : decode cX3_isSo 46 = .ok (.if_icmp .eq 20, 3) := by decide +kernel
theorem dX3_isSo_49 : decode cX3_isSo 49 = .ok (.iload 4, 2) := by decide +kernel
theorem dX3_isSo_51 : decode cX3_isSo 51 = .ok (.bipush (-9), 2) := by decide +kernel
theorem dX3_isSo_53 : decode cX3_isSo 53 = .ok (.if_icmp .eq 9, 3) := by decide +kernel
theorem dX3_isSo_56 : decode cX3_isSo 56 = .ok (.iload 4, 2) := by decide +kernel
theorem dX3_isSo_58 : decode cX3_isSo 58 = .ok (.iload_n 3, 1) := by decide +kernel
theorem dX3_isSo_59 : decode cX3_isSo 59 = .ok (.if_icmp .le 7, 3) := by decide +kernel
theorem dX3_isSo_62 : decode cX3_isSo 62 = .ok (.iconst 1, 1) := by decide +kernel
theorem dX3_isSo_63 : decode cX3_isSo 63 = .ok (.goto 4, 3) := by decide +kernel
theorem dX3_isSo_66 : decode cX3_isSo 66 = .ok (.iconst 0, 1) := by decide +kernel
theorem dX3_isSo_67 : decode cX3_isSo 67 = .ok (.ireturn, 1) := by decide +kernel
set_option maxRecDepth 20000 in
theorem ggX3_weighChoices_X1_copy : GoodIn wsX3_weighChoices wsX1_copy := goodIn_r _ [8, 9, 10, 11, 12, 13, 14, 15, 76, 77, 78, 79, 80, 81, 82] (by decide +kernel) (by decide +kernel)
set_option maxRecDepth 20000 in
theorem gX3_weighChoices_X1_copy_n59 : GoodIn wsX3_weighChoices (wsX1_copy) := ggX3_weighChoices_X1_copy
set_option maxRecDepth 20000 in
theorem ggX3_weighChoices_X3_chosen : GoodIn wsX3_weighChoices wsX3_chosen := goodIn_r _ [19, 20, 21, 18, 22, 23, 24, 25] (by decide +kernel) (by decide +kernel)
set_option maxRecDepth 20000 in
theorem gX3_weighChoices_X3_chosen : GoodIn wsX3_weighChoices (va_wsS RX3 211 yX3_chosen wsX3_chosen) := goodIn_app (goodIn_of _ (by decide +kernel)) ggX3_weighChoices_X3_chosen
set_option maxRecDepth 20000 in
theorem ggX3_weighChoices_X3_isOpen : GoodIn wsX3_weighChoices wsX3_isOpen := goodIn_r _ [22] (by decide +kernel) (by decide +kernel)
set_option maxRecDepth 20000 in
theorem gX3_weighChoices_X3_isOpen : GoodIn wsX3_weighChoices (va_wsS RX3 214 yX3_isOpen wsX3_isOpen) := goodIn_app (goodIn_of _ (by decide +kernel)) ggX3_weighChoices_X3_isOpen
set_option maxRecDepth 20000 in
theorem ggX3_weighChoices_X1_worthOf : GoodIn wsX3_weighChoices wsX1_worthOf := goodIn_r _ [28, 29, 30, 31, 6, 32, 13, 9, 33, 34, 35, 36, 37, 18, 38, 39, 40, 41, 42, 43, 44, 45, 46, 10, 47, 48, 49, 50, 11, 51, 52, 53, 54, 12, 55, 56, 57, 58, 59, 60, 61, 76, 77, 78, 79, 80, 81, 82] (by decide +kernel) (by decide +kernel)
set_option maxRecDepth 20000 in
theorem gX3_weighChoices_X1_worthOf_n170 : GoodIn wsX3_weighChoices (wsX1_worthOf) := ggX3_weighChoices_X1_worthOf
set_option maxRecDepth 20000 in
theorem ggX3_weighChoices_X3_cost : GoodIn wsX3_weighChoices wsX3_cost := goodIn_r _ [64] (by decide +kernel) (by decide +kernel)
set_option maxRecDepth 20000 in
theorem gX3_weighChoices_X3_cost : GoodIn wsX3_weighChoices (va_wsS RX3 217 yX3_cost wsX3_cost) := goodIn_app (goodIn_of _ (by decide +kernel)) ggX3_weighChoices_X3_cost
theorem dX3_weighChoices_0 : decode cX3_weighChoices 0 = .ok (.aload_n 0, 1) := by decide +kernel
theorem dX3_weighChoices_1 : decode cX3_weighChoices 1 = .ok (.getfield 23, 3) := by decide +kernel
theorem dX3_weighChoices_4 : decode cX3_weighChoices 4 = .ok (.aload_n 0, 1) := by decide +kernel
theorem dX3_weighChoices_5 : decode cX3_weighChoices 5 = .ok (.getfield 19, 3) := by decide +kernel
theorem dX3_weighChoices_8 : decode cX3_weighChoices 8 = .ok (.invokevirtual 59, 3) := by decide +kernel
theorem dX3_weighChoices_11 : decode cX3_weighChoices 11 = .ok (.iconst 0, 1) := by decide +kernel
theorem dX3_weighChoices_12 : decode cX3_weighChoices 12 = .ok (.istore_n 3, 1) := by decide +kernel
theorem dX3_weighChoices_13 : decode cX3_weighChoices 13 = .ok (.iload_n 3, 1) := by decide +kernel
theorem dX3_weighChoices_14 : decode cX3_weighChoices 14 = .ok (.aload_n 0, 1) := by decide +kernel
theorem dX3_weighChoices_15 : decode cX3_weighChoices 15 = .ok (.getfield 19, 3) := by decide +kernel
theorem dX3_weighChoices_18 : decode cX3_weighChoices 18 = .ok (.getfield 69, 3) := by decide +kernel
theorem dX3_weighChoices_21 : decode cX3_weighChoices 21 = .ok (.if_icmp .gt 134, 3) := by decide +kernel
theorem dX3_weighChoices_24 : decode cX3_weighChoices 24 = .ok (.iconst 0, 1) := by decide +kernel
theorem dX3_weighChoices_25 : decode cX3_weighChoices 25 = .ok (.istore 4, 2) := by decide +kernel
theorem dX3_weighChoices_27 : decode cX3_weighChoices 27 = .ok (.iload 4, 2) := by decide +kernel
theorem dX3_weighChoices_29 : decode cX3_weighChoices 29 = .ok (.aload_n 0, 1) := by decide +kernel
theorem dX3_weighChoices_30 : decode cX3_weighChoices 30 = .ok (.getfield 19, 3) := by decide +kernel
theorem dX3_weighChoices_33 : decode cX3_weighChoices 33 = .ok (.getfield 69, 3) := by decide +kernel
theorem dX3_weighChoices_36 : decode cX3_weighChoices 36 = .ok (.if_icmp .gt 113, 3) := by decide +kernel
theorem dX3_weighChoices_39 : decode cX3_weighChoices 39 = .ok (.bipush 8, 2) := by decide +kernel
theorem dX3_weighChoices_41 : decode cX3_weighChoices 41 = .ok (.iload_n 3, 1) := by decide +kernel
theorem dX3_weighChoices_42 : decode cX3_weighChoices 42 = .ok (.imul, 1) := by decide +kernel
theorem dX3_weighChoices_43 : decode cX3_weighChoices 43 = .ok (.iload 4, 2) := by decide +kernel
theorem dX3_weighChoices_45 : decode cX3_weighChoices 45 = .ok (.iadd, 1) := by decide +kernel
theorem dX3_weighChoices_46 : decode cX3_weighChoices 46 = .ok (.istore 5, 2) := by decide +kernel
theorem dX3_weighChoices_48 : decode cX3_weighChoices 48 = .ok (.aload_n 0, 1) := by decide +kernel
theorem dX3_weighChoices_49 : decode cX3_weighChoices 49 = .ok (.getfield 23, 3) := by decide +kernel
theorem dX3_weighChoices_52 : decode cX3_weighChoices 52 = .ok (.aload_n 0, 1) := by decide +kernel
theorem dX3_weighChoices_53 : decode cX3_weighChoices 53 = .ok (.getfield 19, 3) := by decide +kernel
theorem dX3_weighChoices_56 : decode cX3_weighChoices 56 = .ok (.getfield 130, 3) := by decide +kernel
theorem dX3_weighChoices_59 : decode cX3_weighChoices 59 = .ok (.iload_n 1, 1) := by decide +kernel
theorem dX3_weighChoices_60 : decode cX3_weighChoices 60 = .ok (.iload_n 3, 1) := by decide +kernel
theorem dX3_weighChoices_61 : decode cX3_weighChoices 61 = .ok (.invokestatic 211, 3) := by decide +kernel
theorem dX3_weighChoices_64 : decode cX3_weighChoices 64 = .ok (.lor, 1) := by decide +kernel
theorem dX3_weighChoices_65 : decode cX3_weighChoices 65 = .ok (.iload_n 2, 1) := by decide +kernel
theorem dX3_weighChoices_66 : decode cX3_weighChoices 66 = .ok (.iload 4, 2) := by decide +kernel
theorem dX3_weighChoices_68 : decode cX3_weighChoices 68 = .ok (.invokestatic 211, 3) := by decide +kernel
theorem dX3_weighChoices_71 : decode cX3_weighChoices 71 = .ok (.lor, 1) := by decide +kernel
theorem dX3_weighChoices_72 : decode cX3_weighChoices 72 = .ok (.putfield 130, 3) := by decide +kernel
theorem dX3_weighChoices_75 : decode cX3_weighChoices 75 = .ok (.aload_n 0, 1) := by decide +kernel
theorem dX3_weighChoices_76 : decode cX3_weighChoices 76 = .ok (.getfield 41, 3) := by decide +kernel
theorem dX3_weighChoices_79 : decode cX3_weighChoices 79 = .ok (.iload 5, 2) := by decide +kernel
theorem dX3_weighChoices_81 : decode cX3_weighChoices 81 = .ok (.iload_n 1, 1) := by decide +kernel
theorem dX3_weighChoices_82 : decode cX3_weighChoices 82 = .ok (.iload_n 3, 1) := by decide +kernel
theorem dX3_weighChoices_83 : decode cX3_weighChoices 83 = .ok (.invokestatic 214, 3) := by decide +kernel
theorem dX3_weighChoices_86 : decode cX3_weighChoices 86 = .ok (.ifCond .eq 19, 3) := by decide +kernel
theorem dX3_weighChoices_89 : decode cX3_weighChoices 89 = .ok (.aload_n 0, 1) := by decide +kernel
theorem dX3_weighChoices_90 : decode cX3_weighChoices 90 = .ok (.getfield 23, 3) := by decide +kernel
theorem dX3_weighChoices_93 : decode cX3_weighChoices 93 = .ok (.iload_n 1, 1) := by decide +kernel
theorem dX3_weighChoices_94 : decode cX3_weighChoices 94 = .ok (.invokevirtual 170, 3) := by decide +kernel
theorem dX3_weighChoices_97 : decode cX3_weighChoices 97 = .ok (.iload_n 3, 1) := by decide +kernel
theorem dX3_weighChoices_98 : decode cX3_weighChoices 98 = .ok (.invokestatic 217, 3) := by decide +kernel
theorem dX3_weighChoices_101 : decode cX3_weighChoices 101 = .ok (.isub, 1) := by decide +kernel
theorem dX3_weighChoices_102 : decode cX3_weighChoices 102 = .ok (.goto 5, 3) := by decide +kernel
theorem dX3_weighChoices_105 : decode cX3_weighChoices 105 = .ok (.bipush (-9), 2) := by decide +kernel
theorem dX3_weighChoices_107 : decode cX3_weighChoices 107 = .ok (.iastore, 1) := by decide +kernel
theorem dX3_weighChoices_108 : decode cX3_weighChoices 108 = .ok (.aload_n 0, 1) := by decide +kernel
theorem dX3_weighChoices_109 : decode cX3_weighChoices 109 = .ok (.getfield 44, 3) := by decide +kernel
theorem dX3_weighChoices_112 : decode cX3_weighChoices 112 = .ok (.iload 5, 2) := by decide +kernel
theorem dX3_weighChoices_114 : decode cX3_weighChoices 114 = .ok (.iload_n 2, 1) := by decide +kernel
theorem dX3_weighChoices_115 : decode cX3_weighChoices 115 = .ok (.iload 4, 2) := by decide +kernel
theorem dX3_weighChoices_117 : decode cX3_weighChoices 117 = .ok (.invokestatic 214, 3) := by decide +kernel
theorem dX3_weighChoices_120 : decode cX3_weighChoices 120 = .ok (.ifCond .eq 20, 3) := by decide +kernel
theorem dX3_weighChoices_123 : decode cX3_weighChoices 123 = .ok (.aload_n 0, 1) := by decide +kernel
theorem dX3_weighChoices_124 : decode cX3_weighChoices 124 = .ok (.getfield 23, 3) := by decide +kernel
theorem dX3_weighChoices_127 : decode cX3_weighChoices 127 = .ok (.iload_n 2, 1) := by decide +kernel
theorem dX3_weighChoices_128 : decode cX3_weighChoices 128 = .ok (.invokevirtual 170, 3) := by decide +kernel
theorem dX3_weighChoices_131 : decode cX3_weighChoices 131 = .ok (.iload 4, 2) := by decide +kernel
theorem dX3_weighChoices_133 : decode cX3_weighChoices 133 = .ok (.invokestatic 217, 3) := by decide +kernel
theorem dX3_weighChoices_136 : decode cX3_weighChoices 136 = .ok (.isub, 1) := by decide +kernel
theorem dX3_weighChoices_137 : decode cX3_weighChoices 137 = .ok (.goto 5, 3) := by decide +kernel
theorem dX3_weighChoices_140 : decode cX3_weighChoices 140 = .ok (.bipush (-9), 2) := by decide +kernel
theorem dX3_weighChoices_142 : decode cX3_weighChoices 142 = .ok (.iastore, 1) := by decide +kernel
theorem dX3_weighChoices_143 : decode cX3_weighChoices 143 = .ok (.iinc 4 1, 3) := by decide +kernel
theorem dX3_weighChoices_146 : decode cX3_weighChoices 146 = .ok (.goto (-119), 3) := by decide +kernel
theorem dX3_weighChoices_149 : decode cX3_weighChoices 149 = .ok (.iinc 3 1, 3) := by decide +kernel
theorem dX3_weighChoices_152 : decode cX3_weighChoices 152 = .ok (.goto (-139), 3) := by decide +kernel
theorem dX3_weighChoices_155 : decode cX3_weighChoices 155 = .ok (.return_, 1) := by decide +kernel
theorem dX3_isOpen_0 : decode cX3_isOpen 0 = .ok (.iload_n 1, 1) := by decide +kernel
theorem dX3_isOpen_1 : decode cX3_isOpen 1 = .ok (.iload_n 0, 1) := by decide +kernel
theorem dX3_isOpen_2 : decode cX3_isOpen 2 = .ok (.iconst 1, 1) := by decide +kernel
theorem dX3_isOpen_3 : decode cX3_isOpen 3 = .ok (.iadd, 1) := by decide +kernel
theorem dX3_isOpen_4 : decode cX3_isOpen 4 = .ok (.if_icmp .eq 7, 3) := by decide +kernel
theorem dX3_isOpen_7 : decode cX3_isOpen 7 = .ok (.iconst 1, 1) := by decide +kernel
theorem dX3_isOpen_8 : decode cX3_isOpen 8 = .ok (.goto 4, 3) := by decide +kernel
theorem dX3_isOpen_11 : decode cX3_isOpen 11 = .ok (.iconst 0, 1) := by decide +kernel
theorem dX3_isOpen_12 : decode cX3_isOpen 12 = .ok (.ireturn, 1) := by decide +kernel
set_option maxRecDepth 20000 in
theorem ggX3_chosen_X3_isOpen : GoodIn wsX3_chosen wsX3_isOpen := goodIn_r _ [4] (by decide +kernel) (by decide +kernel)
set_option maxRecDepth 20000 in
theorem gX3_chosen_X3_isOpen : GoodIn wsX3_chosen (va_wsS RX3 214 yX3_isOpen wsX3_isOpen) := goodIn_app (goodIn_of _ (by decide +kernel)) ggX3_chosen_X3_isOpen
set_option maxRecDepth 20000 in
theorem ggX3_chosen_X3_pair : GoodIn wsX3_chosen wsX3_pair := goodIn_r _ [7] (by decide +kernel) (by decide +kernel)
set_option maxRecDepth 20000 in
theorem gX3_chosen_X3_pair : GoodIn wsX3_chosen (va_wsS RX3 134 yX3_pair wsX3_pair) := goodIn_app (goodIn_of _ (by decide +kernel)) ggX3_chosen_X3_pair
theorem dX3_chosen_0 : decode cX3_chosen 0 = .ok (.iload_n 1, 1) := by decide +kernel
theorem dX3_chosen_1 : decode cX3_chosen 1 = .ok (.ifCond .le 21, 3) := by decide +kernel
theorem dX3_chosen_4 : decode cX3_chosen 4 = .ok (.iload_n 0, 1) := by decide +kernel
theorem dX3_chosen_5 : decode cX3_chosen 5 = .ok (.iload_n 1, 1) := by decide +kernel
theorem dX3_chosen_6 : decode cX3_chosen 6 = .ok (.invokestatic 214, 3) := by decide +kernel
theorem dX3_chosen_9 : decode cX3_chosen 9 = .ok (.ifCond .eq 13, 3) := by decide +kernel
theorem dX3_chosen_12 : decode cX3_chosen 12 = .ok (.iload_n 0, 1) := by decide +kernel
theorem dX3_chosen_13 : decode cX3_chosen 13 = .ok (.iload_n 1, 1) := by decide +kernel
theorem dX3_chosen_14 : decode cX3_chosen 14 = .ok (.iconst 1, 1) := by decide +kernel
theorem dX3_chosen_15 : decode cX3_chosen 15 = .ok (.isub, 1) := by decide +kernel
theorem dX3_chosen_16 : decode cX3_chosen 16 = .ok (.invokestatic 134, 3) := by decide +kernel
theorem dX3_chosen_19 : decode cX3_chosen 19 = .ok (.goto 4, 3) := by decide +kernel
theorem dX3_chosen_22 : decode cX3_chosen 22 = .ok (.lconst 0, 1) := by decide +kernel
theorem dX3_chosen_23 : decode cX3_chosen 23 = .ok (.lreturn, 1) := by decide +kernel
theorem dX3_cost_0 : decode cX3_cost 0 = .ok (.iload_n 0, 1) := by decide +kernel
theorem dX3_cost_1 : decode cX3_cost 1 = .ok (.ifCond .ne 7, 3) := by decide +kernel
theorem dX3_cost_4 : decode cX3_cost 4 = .ok (.iconst 0, 1) := by decide +kernel
theorem dX3_cost_5 : decode cX3_cost 5 = .ok (.goto 4, 3) := by decide +kernel
theorem dX3_cost_8 : decode cX3_cost 8 = .ok (.iconst 1, 1) := by decide +kernel
theorem dX3_cost_9 : decode cX3_cost 9 = .ok (.ireturn, 1) := by decide +kernel
theorem dX3_isRest_0 : decode cX3_isRest 0 = .ok (.bipush 8, 2) := by decide +kernel
theorem dX3_isRest_2 : decode cX3_isRest 2 = .ok (.iload_n 1, 1) := by decide +kernel
theorem dX3_isRest_3 : decode cX3_isRest 3 = .ok (.imul, 1) := by decide +kernel
theorem dX3_isRest_4 : decode cX3_isRest 4 = .ok (.iload_n 2, 1) := by decide +kernel
theorem dX3_isRest_5 : decode cX3_isRest 5 = .ok (.iadd, 1) := by decide +kernel
theorem dX3_isRest_6 : decode cX3_isRest 6 = .ok (.istore_n 3, 1) := by decide +kernel
theorem dX3_isRest_7 : decode cX3_isRest 7 = .ok (.iconst 0, 1) := by decide +kernel
theorem dX3_isRest_8 : decode cX3_isRest 8 = .ok (.istore 4, 2) := by decide +kernel
theorem dX3_isRest_10 : decode cX3_isRest 10 = .ok (.iload 4, 2) := by decide +kernel
theorem dX3_isRest_12 : decode cX3_isRest 12 = .ok (.aload_n 0, 1) := by decide +kernel
theorem dX3_isRest_13 : decode cX3_isRest 13 = .ok (.getfield 19, 3) := by decide +kernel
theorem dX3_isRest_16 : decode cX3_isRest 16 = .ok (.getfield 69, 3) := by decide +kernel
theorem dX3_isRest_19 : decode cX3_isRest 19 = .ok (.if_icmp .gt 55, 3) := by decide +kernel
theorem dX3_isRest_22 : decode cX3_isRest 22 = .ok (.aload_n 0, 1) := by decide +kernel
theorem dX3_isRest_23 : decode cX3_isRest 23 = .ok (.getfield 41, 3) := by decide +kernel
theorem dX3_isRest_26 : decode cX3_isRest 26 = .ok (.bipush 8, 2) := by decide +kernel
theorem dX3_isRest_28 : decode cX3_isRest 28 = .ok (.iload 4, 2) := by decide +kernel
theorem dX3_isRest_30 : decode cX3_isRest 30 = .ok (.imul, 1) := by decide +kernel
theorem dX3_isRest_31 : decode cX3_isRest 31 = .ok (.iload_n 2, 1) := by decide +kernel
theorem dX3_isRest_32 : decode cX3_isRest 32 = .ok (.iadd, 1) := by decide +kernel
theorem dX3_isRest_33 : decode cX3_isRest 33 = .ok (.iaload, 1) := by decide +kernel
theorem dX3_isRest_34 : decode cX3_isRest 34 = .ok (.aload_n 0, 1) := by decide +kernel
theorem dX3_isRest_35 : decode cX3_isRest 35 = .ok (.getfield 41, 3) := by decide +kernel
theorem dX3_isRest_38 : decode cX3_isRest 38 = .ok (.iload_n 3, 1) := by decide +kernel
theorem dX3_isRest_39 : decode cX3_isRest 39 = .ok (.iaload, 1) := by decide +kernel
theorem dX3_isRest_40 : decode cX3_isRest 40 = .ok (.if_icmp .le 5, 3) := by decide +kernel
theorem dX3_isRest_43 : decode cX3_isRest 43 = .ok (.iconst 0, 1) := by decide +kernel
theorem dX3_isRest_44 : decode cX3_isRest 44 = .ok (.ireturn, 1) := by decide +kernel
theorem dX3_isRest_45 : decode cX3_isRest 45 = .ok (.aload_n 0, 1) := by decide +kernel
theorem dX3_isRest_46 : decode cX3_isRest 46 = .ok (.getfield 44, 3) := by decide +kernel
theorem dX3_isRest_49 : decode cX3_isRest 49 = .ok (.bipush 8, 2) := by decide +kernel
theorem dX3_isRest_51 : decode cX3_isRest 51 = .ok (.iload_n 1, 1) := by decide +kernel
theorem dX3_isRest_52 : decode cX3_isRest 52 = .ok (.imul, 1) := by decide +kernel
theorem dX3_isRest_53 : decode cX3_isRest 53 = .ok (.iload 4, 2) := by decide +kernel
theorem dX3_isRest_55 : decode cX3_isRest 55 = .ok (.iadd, 1) := by decide +kernel
theorem dX3_isRest_56 : decode cX3_isRest 56 = .ok (.iaload, 1) := by decide +kernel
theorem dX3_isRest_57 : decode cX3_isRest 57 = .ok (.aload_n 0, 1) := by decide +kernel
theorem dX3_isRest_58 : decode cX3_isRest 58 = .ok (.getfield 44, 3) := by decide +kernel
theorem dX3_isRest_61 : decode cX3_isRest 61 = .ok (.iload_n 3, 1) := by decide +kernel
theorem dX3_isRest_62 : decode cX3_isRest 62 = .ok (.iaload, 1) := by decide +kernel
theorem dX3_isRest_63 : decode cX3_isRest 63 = .ok (.if_icmp .le 5, 3) := by decide +kernel
theorem dX3_isRest_66 : decode cX3_isRest 66 = .ok (.iconst 0, 1) := by decide +kernel
theorem dX3_isRest_67 : decode cX3_isRest 67 = .ok (.ireturn, 1) := by decide +kernel
theorem dX3_isRest_68 : decode cX3_isRest 68 = .ok (.iinc 4 1, 3) := by decide +kernel
theorem dX3_isRest_71 : decode cX3_isRest 71 = .ok (.goto (-61), 3) := by decide +kernel
theorem dX3_isRest_74 : decode cX3_isRest 74 = .ok (.iconst 1, 1) := by decide +kernel
theorem dX3_isRest_75 : decode cX3_isRest 75 = .ok (.ireturn, 1) := by decide +kernel
theorem dX3_bit_0 : decode cX3_bit 0 = .ok (.iconst 1, 1) := by decide +kernel
theorem dX3_bit_1 : decode cX3_bit 1 = .ok (.iload_n 0, 1) := by decide +kernel
theorem dX3_bit_2 : decode cX3_bit 2 = .ok (.ishl, 1) := by decide +kernel
theorem dX3_bit_3 : decode cX3_bit 3 = .ok (.ireturn, 1) := by decide +kernel
theorem dX3_isIn_0 : decode cX3_isIn 0 = .ok (.iload_n 0, 1) := by decide +kernel
theorem dX3_isIn_1 : decode cX3_isIn 1 = .ok (.iconst 1, 1) := by decide +kernel
theorem dX3_isIn_2 : decode cX3_isIn 2 = .ok (.iload_n 1, 1) := by decide +kernel
theorem dX3_isIn_3 : decode cX3_isIn 3 = .ok (.ishl, 1) := by decide +kernel
theorem dX3_isIn_4 : decode cX3_isIn 4 = .ok (.iand, 1) := by decide +kernel
theorem dX3_isIn_5 : decode cX3_isIn 5 = .ok (.ifCond .eq 7, 3) := by decide +kernel
theorem dX3_isIn_8 : decode cX3_isIn 8 = .ok (.iconst 1, 1) := by decide +kernel
theorem dX3_isIn_9 : decode cX3_isIn 9 = .ok (.goto 4, 3) := by decide +kernel
theorem dX3_isIn_12 : decode cX3_isIn 12 = .ok (.iconst 0, 1) := by decide +kernel
theorem dX3_isIn_13 : decode cX3_isIn 13 = .ok (.ireturn, 1) := by decide +kernel
theorem dX3_without_0 : decode cX3_without 0 = .ok (.iload_n 0, 1) := by decide +kernel
theorem dX3_without_1 : decode cX3_without 1 = .ok (.iconst 1, 1) := by decide +kernel
theorem dX3_without_2 : decode cX3_without 2 = .ok (.iload_n 1, 1) := by decide +kernel
theorem dX3_without_3 : decode cX3_without 3 = .ok (.ishl, 1) := by decide +kernel
theorem dX3_without_4 : decode cX3_without 4 = .ok (.iconst (-1), 1) := by decide +kernel
theorem dX3_without_5 : decode cX3_without 5 = .ok (.ixor, 1) := by decide +kernel
theorem dX3_without_6 : decode cX3_without 6 = .ok (.iand, 1) := by decide +kernel
theorem dX3_without_7 : decode cX3_without 7 = .ok (.ireturn, 1) := by decide +kernel
set_option maxRecDepth 20000 in
theorem ggX3_leastOf_X3_isIn : GoodIn wsX3_leastOf wsX3_isIn := goodIn_r _ [4] (by decide +kernel) (by decide +kernel)
set_option maxRecDepth 20000 in
theorem gX3_leastOf_X3_isIn : GoodIn wsX3_leastOf (va_wsS RX3 107 yX3_isIn wsX3_isIn) := goodIn_app (goodIn_of _ (by decide +kernel)) ggX3_leastOf_X3_isIn
theorem dX3_leastOf_0 : decode cX3_leastOf 0 = .ok (.iconst 0, 1) := by decide +kernel
theorem dX3_leastOf_1 : decode cX3_leastOf 1 = .ok (.istore_n 1, 1) := by decide +kernel
theorem dX3_leastOf_2 : decode cX3_leastOf 2 = .ok (.iload_n 1, 1) := by decide +kernel
theorem dX3_leastOf_3 : decode cX3_leastOf 3 = .ok (.bipush 7, 2) := by decide +kernel
theorem dX3_leastOf_5 : decode cX3_leastOf 5 = .ok (.if_icmp .ge 19, 3) := by decide +kernel
theorem dX3_leastOf_8 : decode cX3_leastOf 8 = .ok (.iload_n 0, 1) := by decide +kernel
theorem dX3_leastOf_9 : decode cX3_leastOf 9 = .ok (.iload_n 1, 1) := by decide +kernel
theorem dX3_leastOf_10 : decode cX3_leastOf 10 = .ok (.invokestatic 107, 3) := by decide +kernel
theorem dX3_leastOf_13 : decode cX3_leastOf 13 = .ok (.ifCond .eq 5, 3) := by decide +kernel
theorem dX3_leastOf_16 : decode cX3_leastOf 16 = .ok (.iload_n 1, 1) := by decide +kernel
theorem dX3_leastOf_17 : decode cX3_leastOf 17 = .ok (.ireturn, 1) := by decide +kernel
theorem dX3_leastOf_18 : decode cX3_leastOf 18 = .ok (.iinc 1 1, 3) := by decide +kernel
theorem dX3_leastOf_21 : decode cX3_leastOf 21 = .ok (.goto (-19), 3) := by decide +kernel
theorem dX3_leastOf_24 : decode cX3_leastOf 24 = .ok (.bipush (-9), 2) := by decide +kernel
theorem dX3_leastOf_26 : decode cX3_leastOf 26 = .ok (.ireturn, 1) := by decide +kernel
theorem dX3_pair_0 : decode cX3_pair 0 = .ok (.lconst 1, 1) := by decide +kernel
theorem dX3_pair_1 : decode cX3_pair 1 = .ok (.bipush 7, 2) := by decide +kernel
theorem dX3_pair_3 : decode cX3_pair 3 = .ok (.iload_n 1, 1) := by decide +kernel
theorem dX3_pair_4 : decode cX3_pair 4 = .ok (.imul, 1) := by decide +kernel
theorem dX3_pair_5 : decode cX3_pair 5 = .ok (.iload_n 0, 1) := by decide +kernel
theorem dX3_pair_6 : decode cX3_pair 6 = .ok (.iadd, 1) := by decide +kernel
theorem dX3_pair_7 : decode cX3_pair 7 = .ok (.lshl, 1) := by decide +kernel
theorem dX3_pair_8 : decode cX3_pair 8 = .ok (.lreturn, 1) := by decide +kernel
theorem dX3_factorial_0 : decode cX3_factorial 0 = .ok (.iconst 1, 1) := by decide +kernel
theorem dX3_factorial_1 : decode cX3_factorial 1 = .ok (.istore_n 1, 1) := by decide +kernel
theorem dX3_factorial_2 : decode cX3_factorial 2 = .ok (.iconst 2, 1) := by decide +kernel
theorem dX3_factorial_3 : decode cX3_factorial 3 = .ok (.istore_n 2, 1) := by decide +kernel
theorem dX3_factorial_4 : decode cX3_factorial 4 = .ok (.iload_n 2, 1) := by decide +kernel
theorem dX3_factorial_5 : decode cX3_factorial 5 = .ok (.iload_n 0, 1) := by decide +kernel
theorem dX3_factorial_6 : decode cX3_factorial 6 = .ok (.if_icmp .gt 13, 3) := by decide +kernel
theorem dX3_factorial_9 : decode cX3_factorial 9 = .ok (.iload_n 1, 1) := by decide +kernel
theorem dX3_factorial_10 : decode cX3_factorial 10 = .ok (.iload_n 2, 1) := by decide +kernel
theorem dX3_factorial_11 : decode cX3_factorial 11 = .ok (.imul, 1) := by decide +kernel
theorem dX3_factorial_12 : decode cX3_factorial 12 = .ok (.istore_n 1, 1) := by decide +kernel
theorem dX3_factorial_13 : decode cX3_factorial 13 = .ok (.iinc 2 1, 3) := by decide +kernel
theorem dX3_factorial_16 : decode cX3_factorial 16 = .ok (.goto (-12), 3) := by decide +kernel
theorem dX3_factorial_19 : decode cX3_factorial 19 = .ok (.iload_n 1, 1) := by decide +kernel
theorem dX3_factorial_20 : decode cX3_factorial 20 = .ok (.ireturn, 1) := by decide +kernel
set_option maxRecDepth 20000 in
theorem ggX3_inLeastTerms_X3_commonDivisor : GoodIn wsX3_inLeastTerms wsX3_commonDivisor := goodIn_r _ [8] (by decide +kernel) (by decide +kernel)
set_option maxRecDepth 20000 in
theorem gX3_inLeastTerms_X3_commonDivisor : GoodIn wsX3_inLeastTerms (va_wsS RX3 225 yX3_commonDivisor wsX3_commonDivisor) := goodIn_app (goodIn_of _ (by decide +kernel)) ggX3_inLeastTerms_X3_commonDivisor
theorem dX3_inLeastTerms_0 : decode cX3_inLeastTerms 0 = .ok (.iload_n 0, 1) := by decide +kernel
theorem dX3_inLeastTerms_1 : decode cX3_inLeastTerms 1 = .ok (.invokestatic 220, 3) := by decide +kernel
theorem dX3_inLeastTerms_4 : decode cX3_inLeastTerms 4 = .ok (.iload_n 1, 1) := by decide +kernel
theorem dX3_inLeastTerms_5 : decode cX3_inLeastTerms 5 = .ok (.invokestatic 225, 3) := by decide +kernel
theorem dX3_inLeastTerms_8 : decode cX3_inLeastTerms 8 = .ok (.istore_n 3, 1) := by decide +kernel
theorem dX3_inLeastTerms_9 : decode cX3_inLeastTerms 9 = .ok (.iload_n 2, 1) := by decide +kernel
theorem dX3_inLeastTerms_10 : decode cX3_inLeastTerms 10 = .ok (.ifCond .eq 7, 3) := by decide +kernel
theorem dX3_inLeastTerms_13 : decode cX3_inLeastTerms 13 = .ok (.iload_n 0, 1) := by decide +kernel
theorem dX3_inLeastTerms_14 : decode cX3_inLeastTerms 14 = .ok (.goto 4, 3) := by decide +kernel
theorem dX3_inLeastTerms_17 : decode cX3_inLeastTerms 17 = .ok (.iload_n 1, 1) := by decide +kernel
theorem dX3_inLeastTerms_18 : decode cX3_inLeastTerms 18 = .ok (.istore 4, 2) := by decide +kernel
theorem dX3_inLeastTerms_20 : decode cX3_inLeastTerms 20 = .ok (.iload_n 3, 1) := by decide +kernel
theorem dX3_inLeastTerms_21 : decode cX3_inLeastTerms 21 = .ok (.ifCond .le 10, 3) := by decide +kernel
theorem dX3_inLeastTerms_24 : decode cX3_inLeastTerms 24 = .ok (.iload 4, 2) := by decide +kernel
theorem dX3_inLeastTerms_26 : decode cX3_inLeastTerms 26 = .ok (.iload_n 3, 1) := by decide +kernel
theorem dX3_inLeastTerms_27 : decode cX3_inLeastTerms 27 = .ok (.idiv, 1) := by decide +kernel
theorem dX3_inLeastTerms_28 : decode cX3_inLeastTerms 28 = .ok (.goto 5, 3) := by decide +kernel
theorem dX3_inLeastTerms_31 : decode cX3_inLeastTerms 31 = .ok (.iload 4, 2) := by decide +kernel
theorem dX3_inLeastTerms_33 : decode cX3_inLeastTerms 33 = .ok (.ireturn, 1) := by decide +kernel
theorem dX3_commonDivisor_0 : decode cX3_commonDivisor 0 = .ok (.iload_n 0, 1) := by decide +kernel
theorem dX3_commonDivisor_1 : decode cX3_commonDivisor 1 = .ok (.istore_n 2, 1) := by decide +kernel
theorem dX3_commonDivisor_2 : decode cX3_commonDivisor 2 = .ok (.iload_n 1, 1) := by decide +kernel
theorem dX3_commonDivisor_3 : decode cX3_commonDivisor 3 = .ok (.istore_n 3, 1) := by decide +kernel
theorem dX3_commonDivisor_4 : decode cX3_commonDivisor 4 = .ok (.iconst 0, 1) := by decide +kernel
theorem dX3_commonDivisor_5 : decode cX3_commonDivisor 5 = .ok (.istore 4, 2) := by decide +kernel
theorem dX3_commonDivisor_7 : decode cX3_commonDivisor 7 = .ok (.iload 4, 2) := by decide +kernel
theorem dX3_commonDivisor_9 : decode cX3_commonDivisor 9 = .ok (.bipush 100, 2) := by decide +kernel
theorem dX3_commonDivisor_11 : decode cX3_commonDivisor 11 = .ok (.if_icmp .ge 23, 3) := by decide +kernel
theorem dX3_commonDivisor_14 : decode cX3_commonDivisor 14 = .ok (.iload_n 3, 1) := by decide +kernel
theorem dX3_commonDivisor_15 : decode cX3_commonDivisor 15 = .ok (.ifCond .eq 19, 3) := by decide +kernel
theorem dX3_commonDivisor_18 : decode cX3_commonDivisor 18 = .ok (.iload_n 2, 1) := by decide +kernel
theorem dX3_commonDivisor_19 : decode cX3_commonDivisor 19 = .ok (.iload_n 3, 1) := by decide +kernel
theorem dX3_commonDivisor_20 : decode cX3_commonDivisor 20 = .ok (.irem, 1) := by decide +kernel
theorem dX3_commonDivisor_21 : decode cX3_commonDivisor 21 = .ok (.istore 5, 2) := by decide +kernel
theorem dX3_commonDivisor_23 : decode cX3_commonDivisor 23 = .ok (.iload_n 3, 1) := by decide +kernel
theorem dX3_commonDivisor_24 : decode cX3_commonDivisor 24 = .ok (.istore_n 2, 1) := by decide +kernel
theorem dX3_commonDivisor_25 : decode cX3_commonDivisor 25 = .ok (.iload 5, 2) := by decide +kernel
theorem dX3_commonDivisor_27 : decode cX3_commonDivisor 27 = .ok (.istore_n 3, 1) := by decide +kernel
theorem dX3_commonDivisor_28 : decode cX3_commonDivisor 28 = .ok (.iinc 4 1, 3) := by decide +kernel
theorem dX3_commonDivisor_31 : decode cX3_commonDivisor 31 = .ok (.goto (-24), 3) := by decide +kernel
theorem dX3_commonDivisor_34 : decode cX3_commonDivisor 34 = .ok (.iload_n 2, 1) := by decide +kernel
theorem dX3_commonDivisor_35 : decode cX3_commonDivisor 35 = .ok (.ireturn, 1) := by decide +kernel
theorem dX4_init_0 : decode cX4_init 0 = .ok (.aload_n 0, 1) := by decide +kernel
theorem dX4_init_1 : decode cX4_init 1 = .ok (.invokespecial 1, 3) := by decide +kernel
theorem dX4_init_4 : decode cX4_init 4 = .ok (.aload_n 0, 1) := by decide +kernel
theorem dX4_init_5 : decode cX4_init 5 = .ok (.bipush 48, 2) := by decide +kernel
theorem dX4_init_7 : decode cX4_init 7 = .ok (.newarray .int, 2) := by decide +kernel
theorem dX4_init_9 : decode cX4_init 9 = .ok (.putfield 7, 3) := by decide +kernel
theorem dX4_init_12 : decode cX4_init 12 = .ok (.aload_n 0, 1) := by decide +kernel
theorem dX4_init_13 : decode cX4_init 13 = .ok (.bipush 7, 2) := by decide +kernel
theorem dX4_init_15 : decode cX4_init 15 = .ok (.newarray .int, 2) := by decide +kernel
theorem dX4_init_17 : decode cX4_init 17 = .ok (.putfield 13, 3) := by decide +kernel
theorem dX4_init_20 : decode cX4_init 20 = .ok (.aload_n 0, 1) := by decide +kernel
theorem dX4_init_21 : decode cX4_init 21 = .ok (.bipush 7, 2) := by decide +kernel
theorem dX4_init_23 : decode cX4_init 23 = .ok (.newarray .int, 2) := by decide +kernel
theorem dX4_init_25 : decode cX4_init 25 = .ok (.putfield 16, 3) := by decide +kernel
theorem dX4_init_28 : decode cX4_init 28 = .ok (.aload_n 0, 1) := by decide +kernel
theorem dX4_init_29 : decode cX4_init 29 = .ok (.bipush 7, 2) := by decide +kernel
theorem dX4_init_31 : decode cX4_init 31 = .ok (.newarray .int, 2) := by decide +kernel
theorem dX4_init_33 : decode cX4_init 33 = .ok (.putfield 19, 3) := by decide +kernel
theorem dX4_init_36 : decode cX4_init 36 = .ok (.aload_n 0, 1) := by decide +kernel
theorem dX4_init_37 : decode cX4_init 37 = .ok (.bipush 7, 2) := by decide +kernel
theorem dX4_init_39 : decode cX4_init 39 = .ok (.newarray .int, 2) := by decide +kernel
theorem dX4_init_41 : decode cX4_init 41 = .ok (.putfield 22, 3) := by decide +kernel
theorem dX4_init_44 : decode cX4_init 44 = .ok (.aload_n 0, 1) := by decide +kernel
theorem dX4_init_45 : decode cX4_init 45 = .ok (.bipush 17, 2) := by decide +kernel
theorem dX4_init_47 : decode cX4_init 47 = .ok (.newarray .int, 2) := by decide +kernel
theorem dX4_init_49 : decode cX4_init 49 = .ok (.putfield 25, 3) := by decide +kernel
theorem dX4_init_52 : decode cX4_init 52 = .ok (.aload_n 0, 1) := by decide +kernel
theorem dX4_init_53 : decode cX4_init 53 = .ok (.bipush 17, 2) := by decide +kernel
theorem dX4_init_55 : decode cX4_init 55 = .ok (.newarray .int, 2) := by decide +kernel
theorem dX4_init_57 : decode cX4_init 57 = .ok (.putfield 28, 3) := by decide +kernel
theorem dX4_init_60 : decode cX4_init 60 = .ok (.aload_n 0, 1) := by decide +kernel
theorem dX4_init_61 : decode cX4_init 61 = .ok (.sipush 238, 3) := by decide +kernel
theorem dX4_init_64 : decode cX4_init 64 = .ok (.newarray .int, 2) := by decide +kernel
theorem dX4_init_66 : decode cX4_init 66 = .ok (.putfield 31, 3) := by decide +kernel
theorem dX4_init_69 : decode cX4_init 69 = .ok (.aload_n 0, 1) := by decide +kernel
theorem dX4_init_70 : decode cX4_init 70 = .ok (.bipush 34, 2) := by decide +kernel
theorem dX4_init_72 : decode cX4_init 72 = .ok (.newarray .int, 2) := by decide +kernel
theorem dX4_init_74 : decode cX4_init 74 = .ok (.putfield 34, 3) := by decide +kernel
theorem dX4_init_77 : decode cX4_init 77 = .ok (.aload_n 0, 1) := by decide +kernel
theorem dX4_init_78 : decode cX4_init 78 = .ok (.iconst 2, 1) := by decide +kernel
theorem dX4_init_79 : decode cX4_init 79 = .ok (.newarray .boolean, 2) := by decide +kernel
theorem dX4_init_81 : decode cX4_init 81 = .ok (.putfield 37, 3) := by decide +kernel
theorem dX4_init_84 : decode cX4_init 84 = .ok (.aload_n 0, 1) := by decide +kernel
theorem dX4_init_85 : decode cX4_init 85 = .ok (.bipush 6, 2) := by decide +kernel
theorem dX4_init_87 : decode cX4_init 87 = .ok (.newarray .int, 2) := by decide +kernel
theorem dX4_init_89 : decode cX4_init 89 = .ok (.putfield 41, 3) := by decide +kernel
theorem dX4_init_92 : decode cX4_init 92 = .ok (.aload_n 0, 1) := by decide +kernel
theorem dX4_init_93 : decode cX4_init 93 = .ok (.bipush 6, 2) := by decide +kernel
theorem dX4_init_95 : decode cX4_init 95 = .ok (.newarray .int, 2) := by decide +kernel
theorem dX4_init_97 : decode cX4_init 97 = .ok (.putfield 44, 3) := by decide +kernel
theorem dX4_init_100 : decode cX4_init 100 = .ok (.aload_n 0, 1) := by decide +kernel
theorem dX4_init_101 : decode cX4_init 101 = .ok (.bipush 7, 2) := by decide +kernel
theorem dX4_init_103 : decode cX4_init 103 = .ok (.newarray .int, 2) := by decide +kernel
theorem dX4_init_105 : decode cX4_init 105 = .ok (.putfield 47, 3) := by decide +kernel
theorem dX4_init_108 : decode cX4_init 108 = .ok (.aload_n 0, 1) := by decide +kernel
theorem dX4_init_109 : decode cX4_init 109 = .ok (.sipush 128, 3) := by decide +kernel
theorem dX4_init_112 : decode cX4_init 112 = .ok (.newarray .int, 2) := by decide +kernel
theorem dX4_init_114 : decode cX4_init 114 = .ok (.putfield 50, 3) := by decide +kernel
theorem dX4_init_117 : decode cX4_init 117 = .ok (.aload_n 0, 1) := by decide +kernel
theorem dX4_init_118 : decode cX4_init 118 = .ok (.sipush 128, 3) := by decide +kernel
theorem dX4_init_121 : decode cX4_init 121 = .ok (.newarray .int, 2) := by decide +kernel
theorem dX4_init_123 : decode cX4_init 123 = .ok (.putfield 53, 3) := by decide +kernel
theorem dX4_init_126 : decode cX4_init 126 = .ok (.aload_n 0, 1) := by decide +kernel
theorem dX4_init_127 : decode cX4_init 127 = .ok (.sipush 128, 3) := by decide +kernel
theorem dX4_init_130 : decode cX4_init 130 = .ok (.newarray .long, 2) := by decide +kernel
theorem dX4_init_132 : decode cX4_init 132 = .ok (.putfield 56, 3) := by decide +kernel
theorem dX4_init_135 : decode cX4_init 135 = .ok (.return_, 1) := by decide +kernel
theorem dX4_in_0 : decode cX4_in 0 = .ok (.lload_n 0, 1) := by decide +kernel
theorem dX4_in_1 : decode cX4_in 1 = .ok (.lload_n 2, 1) := by decide +kernel
theorem dX4_in_2 : decode cX4_in 2 = .ok (.lcmp, 1) := by decide +kernel
theorem dX4_in_3 : decode cX4_in 3 = .ok (.ifCond .lt 14, 3) := by decide +kernel
theorem dX4_in_6 : decode cX4_in 6 = .ok (.lload_n 0, 1) := by decide +kernel
theorem dX4_in_7 : decode cX4_in 7 = .ok (.lload 4, 2) := by decide +kernel
theorem dX4_in_9 : decode cX4_in 9 = .ok (.lcmp, 1) := by decide +kernel
theorem dX4_in_10 : decode cX4_in 10 = .ok (.ifCond .gt 7, 3) := by decide +kernel
theorem dX4_in_13 : decode cX4_in 13 = .ok (.iconst 1, 1) := by decide +kernel
theorem dX4_in_14 : decode cX4_in 14 = .ok (.goto 4, 3) := by decide +kernel
theorem dX4_in_17 : decode cX4_in 17 = .ok (.iconst 0, 1) := by decide +kernel
theorem dX4_in_18 : decode cX4_in 18 = .ok (.ireturn, 1) := by decide +kernel
theorem dX4_has_0 : decode cX4_has 0 = .ok (.iload_n 0, 1) := by decide +kernel
theorem dX4_has_1 : decode cX4_has 1 = .ok (.iload_n 1, 1) := by decide +kernel
theorem dX4_has_2 : decode cX4_has 2 = .ok (.ishr, 1) := by decide +kernel
theorem dX4_has_3 : decode cX4_has 3 = .ok (.iconst 1, 1) := by decide +kernel
theorem dX4_has_4 : decode cX4_has 4 = .ok (.iand, 1) := by decide +kernel
theorem dX4_has_5 : decode cX4_has 5 = .ok (.iconst 1, 1) := by decide +kernel
theorem dX4_has_6 : decode cX4_has 6 = .ok (.if_icmp .ne 7, 3) := by decide +kernel
theorem dX4_has_9 : decode cX4_has 9 = .ok (.iconst 1, 1) := by decide +kernel
theorem dX4_has_10 : decode cX4_has 10 = .ok (.goto 4, 3) := by decide +kernel
theorem dX4_has_13 : decode cX4_has 13 = .ok (.iconst 0, 1) := by decide +kernel
theorem dX4_has_14 : decode cX4_has 14 = .ok (.ireturn, 1) := by decide +kernel
theorem dX4_many_0 : decode cX4_many 0 = .ok (.iconst 0, 1) := by decide +kernel
theorem dX4_many_1 : decode cX4_many 1 = .ok (.istore_n 1, 1) := by decide +kernel
theorem dX4_many_2 : decode cX4_many 2 = .ok (.iconst 0, 1) := by decide +kernel
theorem dX4_many_3 : decode cX4_many 3 = .ok (.istore_n 2, 1) := by decide +kernel
theorem dX4_many_4 : decode cX4_many 4 = .ok (.iload_n 2, 1) := by decide +kernel
theorem dX4_many_5 : decode cX4_many 5 = .ok (.bipush 7, 2) := by decide +kernel
theorem dX4_many_7 : decode cX4_many 7 = .ok (.if_icmp .ge 17, 3) := by decide +kernel
theorem dX4_many_10 : decode cX4_many 10 = .ok (.iload_n 1, 1) := by decide +kernel
theorem dX4_many_11 : decode cX4_many 11 = .ok (.iload_n 0, 1) := by decide +kernel
theorem dX4_many_12 : decode cX4_many 12 = .ok (.iload_n 2, 1) := by decide +kernel
theorem dX4_many_13 : decode cX4_many 13 = .ok (.ishr, 1) := by decide +kernel
theorem dX4_many_14 : decode cX4_many 14 = .ok (.iconst 1, 1) := by decide +kernel
theorem dX4_many_15 : decode cX4_many 15 = .ok (.iand, 1) := by decide +kernel
theorem dX4_many_16 : decode cX4_many 16 = .ok (.iadd, 1) := by decide +kernel
theorem dX4_many_17 : decode cX4_many 17 = .ok (.istore_n 1, 1) := by decide +kernel
theorem dX4_many_18 : decode cX4_many 18 = .ok (.iinc 2 1, 3) := by decide +kernel
theorem dX4_many_21 : decode cX4_many 21 = .ok (.goto (-17), 3) := by decide +kernel
theorem dX4_many_24 : decode cX4_many 24 = .ok (.iload_n 1, 1) := by decide +kernel
theorem dX4_many_25 : decode cX4_many 25 = .ok (.ireturn, 1) := by decide +kernel
set_option maxRecDepth 20000 in
theorem ggX4_noPerson_X4_in : GoodIn wsX4_noPerson wsX4_in := goodIn_r _ [5] (by decide +kernel) (by decide +kernel)
set_option maxRecDepth 20000 in
theorem gX4_noPerson_X4_in : GoodIn wsX4_noPerson (va_wsS RX4 67 yX4_in wsX4_in) := goodIn_app (goodIn_of _ (by decide +kernel)) ggX4_noPerson_X4_in
theorem dX4_noPerson_0 : decode cX4_noPerson 0 = .ok (.iload_n 1, 1) := by decide +kernel
theorem dX4_noPerson_1 : decode cX4_noPerson 1 = .ok (.i2l, 1) := by decide +kernel
theorem dX4_noPerson_2 : decode cX4_noPerson 2 = .ok (.lconst 0, 1) := by decide +kernel
theorem dX4_noPerson_3 : decode cX4_noPerson 3 = .ok (.aload_n 0, 1) := by decide +kernel
theorem dX4_noPerson_4 : decode cX4_noPerson 4 = .ok (.getfield 64, 3) := by decide +kernel
theorem dX4_noPerson_7 : decode cX4_noPerson 7 = .ok (.iconst 1, 1) := by decide +kernel
theorem dX4_noPerson_8 : decode cX4_noPerson 8 = .ok (.isub, 1) := by decide +kernel
theorem dX4_noPerson_9 : decode cX4_noPerson 9 = .ok (.i2l, 1) := by decide +kernel
theorem dX4_noPerson_10 : decode cX4_noPerson 10 = .ok (.invokestatic 67, 3) := by decide +kernel
theorem dX4_noPerson_13 : decode cX4_noPerson 13 = .ok (.ifCond .ne 7, 3) := by decide +kernel
theorem dX4_noPerson_16 : decode cX4_noPerson 16 = .ok (.iconst 1, 1) := by decide +kernel
theorem dX4_noPerson_17 : decode cX4_noPerson 17 = .ok (.goto 4, 3) := by decide +kernel
theorem dX4_noPerson_20 : decode cX4_noPerson 20 = .ok (.iconst 0, 1) := by decide +kernel
theorem dX4_noPerson_21 : decode cX4_noPerson 21 = .ok (.ireturn, 1) := by decide +kernel
set_option maxRecDepth 20000 in
theorem ggX4_write_X4_in : GoodIn wsX4_write wsX4_in := goodIn_r _ [8] (by decide +kernel) (by decide +kernel)
set_option maxRecDepth 20000 in
theorem gX4_write_X4_in : GoodIn wsX4_write (va_wsS RX4 67 yX4_in wsX4_in) := goodIn_app (goodIn_of _ (by decide +kernel)) ggX4_write_X4_in
theorem dX4_write_0 : decode cX4_write 0 = .ok (.aload_n 0, 1) := by decide +kernel
theorem dX4_write_1 : decode cX4_write 1 = .ok (.iconst 0, 1) := by decide +kernel
theorem dX4_write_2 : decode cX4_write 2 = .ok (.putfield 60, 3) := by decide +kernel
theorem dX4_write_5 : decode cX4_write 5 = .ok (.iload_n 1, 1) := by decide +kernel
theorem dX4_write_6 : decode cX4_write 6 = .ok (.i2l, 1) := by decide +kernel
theorem dX4_write_7 : decode cX4_write 7 = .ok (.lconst 0, 1) := by decide +kernel
theorem dX4_write_8 : decode cX4_write 8 = .ok (.ldc2_w 71, 3) := by decide +kernel
theorem dX4_write_11 : decode cX4_write 11 = .ok (.invokestatic 67, 3) := by decide +kernel
theorem dX4_write_14 : decode cX4_write 14 = .ok (.ifCond .ne 6, 3) := by decide +kernel
theorem dX4_write_17 : decode cX4_write 17 = .ok (.bipush (-2), 2) := by decide +kernel
theorem dX4_write_19 : decode cX4_write 19 = .ok (.ireturn, 1) := by decide +kernel
theorem dX4_write_20 : decode cX4_write 20 = .ok (.aload_n 0, 1) := by decide +kernel
theorem dX4_write_21 : decode cX4_write 21 = .ok (.getfield 73, 3) := by decide +kernel
theorem dX4_write_24 : decode cX4_write 24 = .ok (.bipush 48, 2) := by decide +kernel
theorem dX4_write_26 : decode cX4_write 26 = .ok (.if_icmp .ne 6, 3) := by decide +kernel
theorem dX4_write_29 : decode cX4_write 29 = .ok (.bipush (-4), 2) := by decide +kernel
theorem dX4_write_31 : decode cX4_write 31 = .ok (.ireturn, 1) := by decide +kernel
theorem dX4_write_32 : decode cX4_write 32 = .ok (.aload_n 0, 1) := by decide +kernel
theorem dX4_write_33 : decode cX4_write 33 = .ok (.getfield 7, 3) := by decide +kernel
theorem dX4_write_36 : decode cX4_write 36 = .ok (.aload_n 0, 1) := by decide +kernel
theorem dX4_write_37 : decode cX4_write 37 = .ok (.getfield 73, 3) := by decide +kernel
theorem dX4_write_40 : decode cX4_write 40 = .ok (.iload_n 1, 1) := by decide +kernel
theorem dX4_write_41 : decode cX4_write 41 = .ok (.iastore, 1) := by decide +kernel
theorem dX4_write_42 : decode cX4_write 42 = .ok (.aload_n 0, 1) := by decide +kernel
theorem dX4_write_43 : decode cX4_write 43 = .ok (.dup, 1) := by decide +kernel
theorem dX4_write_44 : decode cX4_write 44 = .ok (.getfield 73, 3) := by decide +kernel
theorem dX4_write_47 : decode cX4_write 47 = .ok (.iconst 1, 1) := by decide +kernel
theorem dX4_write_48 : decode cX4_write 48 = .ok (.iadd, 1) := by decide +kernel
theorem dX4_write_49 : decode cX4_write 49 = .ok (.putfield 73, 3) := by decide +kernel
theorem dX4_write_52 : decode cX4_write 52 = .ok (.aload_n 0, 1) := by decide +kernel
theorem dX4_write_53 : decode cX4_write 53 = .ok (.getfield 73, 3) := by decide +kernel
theorem dX4_write_56 : decode cX4_write 56 = .ok (.ireturn, 1) := by decide +kernel
theorem dX4_wipe_0 : decode cX4_wipe 0 = .ok (.aload_n 0, 1) := by decide +kernel
theorem dX4_wipe_1 : decode cX4_wipe 1 = .ok (.iconst 0, 1) := by decide +kernel
theorem dX4_wipe_2 : decode cX4_wipe 2 = .ok (.putfield 60, 3) := by decide +kernel
theorem dX4_wipe_5 : decode cX4_wipe 5 = .ok (.aload_n 0, 1) := by decide +kernel
theorem dX4_wipe_6 : decode cX4_wipe 6 = .ok (.getfield 73, 3) := by decide +kernel
theorem dX4_wipe_9 : decode cX4_wipe 9 = .ok (.istore_n 1, 1) := by decide +kernel
theorem dX4_wipe_10 : decode cX4_wipe 10 = .ok (.aload_n 0, 1) := by decide +kernel
theorem dX4_wipe_11 : decode cX4_wipe 11 = .ok (.iconst 0, 1) := by decide +kernel
theorem dX4_wipe_12 : decode cX4_wipe 12 = .ok (.putfield 73, 3) := by decide +kernel
theorem dX4_wipe_15 : decode cX4_wipe 15 = .ok (.iload_n 1, 1) := by decide +kernel
theorem dX4_wipe_16 : decode cX4_wipe 16 = .ok (.ireturn, 1) := by decide +kernel
set_option maxRecDepth 20000 in
theorem ggX4_figure_X4_in : GoodIn wsX4_figure wsX4_in := goodIn_r _ [7] (by decide +kernel) (by decide +kernel)
set_option maxRecDepth 20000 in
theorem gX4_figure_X4_in : GoodIn wsX4_figure (va_wsS RX4 67 yX4_in wsX4_in) := goodIn_app (goodIn_of _ (by decide +kernel)) ggX4_figure_X4_in
theorem dX4_figure_0 : decode cX4_figure 0 = .ok (.aload_n 0, 1) := by decide +kernel
theorem dX4_figure_1 : decode cX4_figure 1 = .ok (.getfield 76, 3) := by decide +kernel
theorem dX4_figure_4 : decode cX4_figure 4 = .ok (.aload_n 0, 1) := by decide +kernel
theorem dX4_figure_5 : decode cX4_figure 5 = .ok (.getfield 73, 3) := by decide +kernel
theorem dX4_figure_8 : decode cX4_figure 8 = .ok (.if_icmp .eq 25, 3) := by decide +kernel
theorem dX4_figure_11 : decode cX4_figure 11 = .ok (.aload_n 0, 1) := by decide +kernel
theorem dX4_figure_12 : decode cX4_figure 12 = .ok (.getfield 7, 3) := by decide +kernel
theorem dX4_figure_15 : decode cX4_figure 15 = .ok (.aload_n 0, 1) := by decide +kernel
theorem dX4_figure_16 : decode cX4_figure 16 = .ok (.getfield 76, 3) := by decide +kernel
theorem dX4_figure_19 : decode cX4_figure 19 = .ok (.iaload, 1) := by decide +kernel
theorem dX4_figure_20 : decode cX4_figure 20 = .ok (.bipush 48, 2) := by decide +kernel
theorem dX4_figure_22 : decode cX4_figure 22 = .ok (.isub, 1) := by decide +kernel
theorem dX4_figure_23 : decode cX4_figure 23 = .ok (.i2l, 1) := by decide +kernel
theorem dX4_figure_24 : decode cX4_figure 24 = .ok (.lconst 0, 1) := by decide +kernel
theorem dX4_figure_25 : decode cX4_figure 25 = .ok (.iload_n 1, 1) := by decide +kernel
theorem dX4_figure_26 : decode cX4_figure 26 = .ok (.i2l, 1) := by decide +kernel
theorem dX4_figure_27 : decode cX4_figure 27 = .ok (.invokestatic 67, 3) := by decide +kernel
theorem dX4_figure_30 : decode cX4_figure 30 = .ok (.ifCond .ne 6, 3) := by decide +kernel
theorem dX4_figure_33 : decode cX4_figure 33 = .ok (.bipush (-9), 2) := by decide +kernel
theorem dX4_figure_35 : decode cX4_figure 35 = .ok (.ireturn, 1) := by decide +kernel
theorem dX4_figure_36 : decode cX4_figure 36 = .ok (.aload_n 0, 1) := by decide +kernel
theorem dX4_figure_37 : decode cX4_figure 37 = .ok (.dup, 1) := by decide +kernel
theorem dX4_figure_38 : decode cX4_figure 38 = .ok (.getfield 76, 3) := by decide +kernel
theorem dX4_figure_41 : decode cX4_figure 41 = .ok (.iconst 1, 1) := by decide +kernel
theorem dX4_figure_42 : decode cX4_figure 42 = .ok (.iadd, 1) := by decide +kernel
theorem dX4_figure_43 : decode cX4_figure 43 = .ok (.putfield 76, 3) := by decide +kernel
theorem dX4_figure_46 : decode cX4_figure 46 = .ok (.aload_n 0, 1) := by decide +kernel
theorem dX4_figure_47 : decode cX4_figure 47 = .ok (.getfield 7, 3) := by decide +kernel
theorem dX4_figure_50 : decode cX4_figure 50 = .ok (.aload_n 0, 1) := by decide +kernel
theorem dX4_figure_51 : decode cX4_figure 51 = .ok (.getfield 76, 3) := by decide +kernel
theorem dX4_figure_54 : decode cX4_figure 54 = .ok (.iconst 1, 1) := by decide +kernel
theorem dX4_figure_55 : decode cX4_figure 55 = .ok (.isub, 1) := by decide +kernel
theorem dX4_figure_56 : decode cX4_figure 56 = .ok (.iaload, 1) := by decide +kernel
theorem dX4_figure_57 : decode cX4_figure 57 = .ok (.bipush 48, 2) := by decide +kernel
theorem dX4_figure_59 : decode cX4_figure 59 = .ok (.isub, 1) := by decide +kernel
theorem dX4_figure_60 : decode cX4_figure 60 = .ok (.ireturn, 1) := by decide +kernel
theorem dX4_leftOf_0 : decode cX4_leftOf 0 = .ok (.iconst 1, 1) := by decide +kernel
theorem dX4_leftOf_1 : decode cX4_leftOf 1 = .ok (.aload_n 0, 1) := by decide +kernel
theorem dX4_leftOf_2 : decode cX4_leftOf 2 = .ok (.getfield 79, 3) := by decide +kernel
theorem dX4_leftOf_5 : decode cX4_leftOf 5 = .ok (.ishl, 1) := by decide +kernel
theorem dX4_leftOf_6 : decode cX4_leftOf 6 = .ok (.iconst 1, 1) := by decide +kernel
theorem dX4_leftOf_7 : decode cX4_leftOf 7 = .ok (.isub, 1) := by decide +kernel
theorem dX4_leftOf_8 : decode cX4_leftOf 8 = .ok (.iconst 1, 1) := by decide +kernel
theorem dX4_leftOf_9 : decode cX4_leftOf 9 = .ok (.iload_n 1, 1) := by decide +kernel
theorem dX4_leftOf_10 : decode cX4_leftOf 10 = .ok (.ishl, 1) := by decide +kernel
theorem dX4_leftOf_11 : decode cX4_leftOf 11 = .ok (.iconst (-1), 1) := by decide +kernel
theorem dX4_leftOf_12 : decode cX4_leftOf 12 = .ok (.ixor, 1) := by decide +kernel
theorem dX4_leftOf_13 : decode cX4_leftOf 13 = .ok (.iand, 1) := by decide +kernel
theorem dX4_leftOf_14 : decode cX4_leftOf 14 = .ok (.aload_n 0, 1) := by decide +kernel
theorem dX4_leftOf_15 : decode cX4_leftOf 15 = .ok (.getfield 22, 3) := by decide +kernel
theorem dX4_leftOf_18 : decode cX4_leftOf 18 = .ok (.iload_n 1, 1) := by decide +kernel
theorem dX4_leftOf_19 : decode cX4_leftOf 19 = .ok (.iaload, 1) := by decide +kernel
theorem dX4_leftOf_20 : decode cX4_leftOf 20 = .ok (.iconst (-1), 1) := by decide +kernel
theorem dX4_leftOf_21 : decode cX4_leftOf 21 = .ok (.ixor, 1) := by decide +kernel
theorem dX4_leftOf_22 : decode cX4_leftOf 22 = .ok (.iand, 1) := by decide +kernel
theorem dX4_leftOf_23 : decode cX4_leftOf 23 = .ok (.ireturn, 1) := by decide +kernel
set_option maxRecDepth 20000 in
theorem ggX4_isLeft_X4_leftOf : GoodIn wsX4_isLeft wsX4_leftOf := goodIn_r _ [6, 1, 7, 8, 9, 10, 11, 12, 13, 14, 15, 16, 17, 18, 19, 20, 21, 22, 23, 24, 25, 26, 27, 28, 29, 30, 31, 32, 33, 34, 35, 36] (by decide +kernel) (by decide +kernel)
set_option maxRecDepth 20000 in
theorem gX4_isLeft_X4_leftOf : GoodIn wsX4_isLeft (wsV RX4 82 RX4 yX4_leftOf wsX4_leftOf) := goodIn_app (goodIn_of _ (by decide +kernel)) ggX4_isLeft_X4_leftOf
theorem dX4_isLeft_0 : decode cX4_isLeft 0 = .ok (.iconst 0, 1) := by decide +kernel
theorem dX4_isLeft_1 : decode cX4_isLeft 1 = .ok (.istore_n 1, 1) := by decide +kernel
theorem dX4_isLeft_2 : decode cX4_isLeft 2 = .ok (.iconst 0, 1) := by decide +kernel
theorem dX4_isLeft_3 : decode cX4_isLeft 3 = .ok (.istore_n 2, 1) := by decide +kernel
theorem dX4_isLeft_4 : decode cX4_isLeft 4 = .ok (.iload_n 2, 1) := by decide +kernel
theorem dX4_isLeft_5 : decode cX4_isLeft 5 = .ok (.aload_n 0, 1) := by decide +kernel
theorem dX4_isLeft_6 : decode cX4_isLeft 6 = .ok (.getfield 79, 3) := by decide +kernel
theorem dX4_isLeft_9 : decode cX4_isLeft 9 = .ok (.if_icmp .ge 27, 3) := by decide +kernel
theorem dX4_isLeft_12 : decode cX4_isLeft 12 = .ok (.iload_n 1, 1) := by decide +kernel
theorem dX4_isLeft_13 : decode cX4_isLeft 13 = .ok (.ifCond .ne 11, 3) := by decide +kernel
theorem dX4_isLeft_16 : decode cX4_isLeft 16 = .ok (.aload_n 0, 1) := by decide +kernel
theorem dX4_isLeft_17 : decode cX4_isLeft 17 = .ok (.iload_n 2, 1) := by decide +kernel
theorem dX4_isLeft_18 : decode cX4_isLeft 18 = .ok (.invokevirtual 82, 3) := by decide +kernel
theorem dX4_isLeft_21 : decode cX4_isLeft 21 = .ok (.ifCond .eq 7, 3) := by decide +kernel
theorem dX4_isLeft_24 : decode cX4_isLeft 24 = .ok (.iconst 1, 1) := by decide +kernel
theorem dX4_isLeft_25 : decode cX4_isLeft 25 = .ok (.goto 4, 3) := by decide +kernel
theorem dX4_isLeft_28 : decode cX4_isLeft 28 = .ok (.iconst 0, 1) := by decide +kernel
theorem dX4_isLeft_29 : decode cX4_isLeft 29 = .ok (.istore_n 1, 1) := by decide +kernel
theorem dX4_isLeft_30 : decode cX4_isLeft 30 = .ok (.iinc 2 1, 3) := by decide +kernel
theorem dX4_isLeft_33 : decode cX4_isLeft 33 = .ok (.goto (-29), 3) := by decide +kernel
theorem dX4_isLeft_36 : decode cX4_isLeft 36 = .ok (.iload_n 1, 1) := by decide +kernel
theorem dX4_isLeft_37 : decode cX4_isLeft 37 = .ok (.ireturn, 1) := by decide +kernel
set_option maxRecDepth 20000 in
theorem ggX4_readPerson_X4_figure : GoodIn wsX4_readPerson wsX4_figure := goodIn_r _ [9, 10, 11, 12, 13, 14, 8, 15, 16, 17, 18, 19, 20, 21, 22, 23, 24, 25, 26, 27, 28, 29, 30, 31, 32, 33, 34, 35, 36, 37, 38, 39, 40, 41, 42, 43, 44] (by decide +kernel) (by decide +kernel)
set_option maxRecDepth 20000 in
theorem gX4_readPerson_X4_figure : GoodIn wsX4_readPerson (wsV RX4 86 RX4 yX4_figure wsX4_figure) := goodIn_app (goodIn_of _ (by decide +kernel)) ggX4_readPerson_X4_figure
theorem dX4_readPerson_0 : decode cX4_readPerson 0 = .ok (.aload_n 0, 1) := by decide +kernel
theorem dX4_readPerson_1 : decode cX4_readPerson 1 = .ok (.bipush 9, 2) := by decide +kernel
theorem dX4_readPerson_3 : decode cX4_readPerson 3 = .ok (.invokevirtual 86, 3) := by decide +kernel
theorem dX4_readPerson_6 : decode cX4_readPerson 6 = .ok (.istore_n 1, 1) := by decide +kernel
theorem dX4_readPerson_7 : decode cX4_readPerson 7 = .ok (.iload_n 1, 1) := by decide +kernel
theorem dX4_readPerson_8 : decode cX4_readPerson 8 = .ok (.bipush (-9), 2) := by decide +kernel
theorem dX4_readPerson_10 : decode cX4_readPerson 10 = .ok (.if_icmp .ne 8, 3) := by decide +kernel
theorem dX4_readPerson_13 : decode cX4_readPerson 13 = .ok (.bipush (-9), 2) := by decide +kernel
theorem dX4_readPerson_15 : decode cX4_readPerson 15 = .ok (.goto 8, 3) := by decide +kernel
theorem dX4_readPerson_18 : decode cX4_readPerson 18 = .ok (.aload_n 0, 1) := by decide +kernel
theorem dX4_readPerson_19 : decode cX4_readPerson 19 = .ok (.iconst 3, 1) := by decide +kernel
theorem dX4_readPerson_20 : decode cX4_readPerson 20 = .ok (.invokevirtual 86, 3) := by decide +kernel
theorem dX4_readPerson_23 : decode cX4_readPerson 23 = .ok (.istore_n 2, 1) := by decide +kernel
theorem dX4_readPerson_24 : decode cX4_readPerson 24 = .ok (.iload_n 2, 1) := by decide +kernel
theorem dX4_readPerson_25 : decode cX4_readPerson 25 = .ok (.bipush (-9), 2) := by decide +kernel
theorem dX4_readPerson_27 : decode cX4_readPerson 27 = .ok (.if_icmp .ne 5, 3) := by decide +kernel
theorem dX4_readPerson_30 : decode cX4_readPerson 30 = .ok (.iconst 0, 1) := by decide +kernel
theorem dX4_readPerson_31 : decode cX4_readPerson 31 = .ok (.ireturn, 1) := by decide +kernel
theorem dX4_readPerson_32 : decode cX4_readPerson 32 = .ok (.aload_n 0, 1) := by decide +kernel
theorem dX4_readPerson_33 : decode cX4_readPerson 33 = .ok (.getfield 16, 3) := by decide +kernel
theorem dX4_readPerson_36 : decode cX4_readPerson 36 = .ok (.aload_n 0, 1) := by decide +kernel
theorem dX4_readPerson_37 : decode cX4_readPerson 37 = .ok (.getfield 79, 3) := by decide +kernel
theorem dX4_readPerson_40 : decode cX4_readPerson 40 = .ok (.iload_n 1, 1) := by decide +kernel
theorem dX4_readPerson_41 : decode cX4_readPerson 41 = .ok (.iastore, 1) := by decide +kernel
theorem dX4_readPerson_42 : decode cX4_readPerson 42 = .ok (.aload_n 0, 1) := by decide +kernel
theorem dX4_readPerson_43 : decode cX4_readPerson 43 = .ok (.getfield 19, 3) := by decide +kernel
theorem dX4_readPerson_46 : decode cX4_readPerson 46 = .ok (.aload_n 0, 1) := by decide +kernel
theorem dX4_readPerson_47 : decode cX4_readPerson 47 = .ok (.getfield 79, 3) := by decide +kernel
theorem dX4_readPerson_50 : decode cX4_readPerson 50 = .ok (.iload_n 2, 1) := by decide +kernel
theorem dX4_readPerson_51 : decode cX4_readPerson 51 = .ok (.iastore, 1) := by decide +kernel
theorem dX4_readPerson_52 : decode cX4_readPerson 52 = .ok (.aload_n 0, 1) := by decide +kernel
theorem dX4_readPerson_53 : decode cX4_readPerson 53 = .ok (.getfield 22, 3) := by decide +kernel
theorem dX4_readPerson_56 : decode cX4_readPerson 56 = .ok (.aload_n 0, 1) := by decide +kernel
theorem dX4_readPerson_57 : decode cX4_readPerson 57 = .ok (.getfield 79, 3) := by decide +kernel
theorem dX4_readPerson_60 : decode cX4_readPerson 60 = .ok (.iconst 0, 1) := by decide +kernel
theorem dX4_readPerson_61 : decode cX4_readPerson 61 = .ok (.iastore, 1) := by decide +kernel
theorem dX4_readPerson_62 : decode cX4_readPerson 62 = .ok (.aload_n 0, 1) := by decide +kernel
theorem dX4_readPerson_63 : decode cX4_readPerson 63 = .ok (.dup, 1) := by decide +kernel
theorem dX4_readPerson_64 : decode cX4_readPerson 64 = .ok (.getfield 79, 3) := by decide +kernel
theorem dX4_readPerson_67 : decode cX4_readPerson 67 = .ok (.iconst 1, 1) := by decide +kernel
theorem dX4_readPerson_68 : decode cX4_readPerson 68 = .ok (.iadd, 1) := by decide +kernel
theorem dX4_readPerson_69 : decode cX4_readPerson 69 = .ok (.putfield 79, 3) := by decide +kernel
theorem dX4_readPerson_72 : decode cX4_readPerson 72 = .ok (.iconst 1, 1) := by decide +kernel
theorem dX4_readPerson_73 : decode cX4_readPerson 73 = .ok (.ireturn, 1) := by decide +kernel
set_option maxRecDepth 20000 in
theorem ggX4_readPair_X4_in : GoodIn wsX4_readPair wsX4_in := goodIn_r _ [9] (by decide +kernel) (by decide +kernel)
set_option maxRecDepth 20000 in
theorem gX4_readPair_X4_in : GoodIn wsX4_readPair (va_wsS RX4 67 yX4_in wsX4_in) := goodIn_app (goodIn_of _ (by decide +kernel)) ggX4_readPair_X4_in
set_option maxRecDepth 20000 in
theorem ggX4_readPair_X4_leftOf : GoodIn wsX4_readPair wsX4_leftOf := goodIn_r _ [13, 4, 5, 17, 18, 19, 20, 21, 22, 23, 24, 25, 26, 27, 28, 29, 30, 31, 32, 33, 34, 35, 36, 37, 38, 39, 40, 41, 42, 43, 44, 45] (by decide +kernel) (by decide +kernel)
set_option maxRecDepth 20000 in
theorem gX4_readPair_X4_leftOf : GoodIn wsX4_readPair (wsV RX4 82 RX4 yX4_leftOf wsX4_leftOf) := goodIn_app (goodIn_of _ (by decide +kernel)) ggX4_readPair_X4_leftOf
set_option maxRecDepth 20000 in
theorem ggX4_readPair_X4_has : GoodIn wsX4_readPair wsX4_has := goodIn_r _ [16] (by decide +kernel) (by decide +kernel)
set_option maxRecDepth 20000 in
theorem gX4_readPair_X4_has : GoodIn wsX4_readPair (va_wsS RX4 89 yX4_has wsX4_has) := goodIn_app (goodIn_of _ (by decide +kernel)) ggX4_readPair_X4_has
theorem dX4_readPair_0 : decode cX4_readPair 0 = .ok (.aload_n 0, 1) := by decide +kernel
theorem dX4_readPair_1 : decode cX4_readPair 1 = .ok (.getfield 76, 3) := by decide +kernel
theorem dX4_readPair_4 : decode cX4_readPair 4 = .ok (.aload_n 0, 1) := by decide +kernel
theorem dX4_readPair_5 : decode cX4_readPair 5 = .ok (.getfield 73, 3) := by decide +kernel
theorem dX4_readPair_8 : decode cX4_readPair 8 = .ok (.if_icmp .ge 18, 3) := by decide +kernel
theorem dX4_readPair_11 : decode cX4_readPair 11 = .ok (.aload_n 0, 1) := by decide +kernel
theorem dX4_readPair_12 : decode cX4_readPair 12 = .ok (.getfield 7, 3) := by decide +kernel
theorem dX4_readPair_15 : decode cX4_readPair 15 = .ok (.aload_n 0, 1) := by decide +kernel
theorem dX4_readPair_16 : decode cX4_readPair 16 = .ok (.getfield 76, 3) := by decide +kernel
