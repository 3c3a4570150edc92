theorem dX4_take_41 : decode cX4_take 41 = .ok (.bipush 14, 2) := by decide +kernel
theorem dX4_take_43 : decode cX4_take 43 = .ok (.dup2, 1) := by decide +kernel
theorem dX4_take_44 : decode cX4_take 44 = .ok (.iaload, 1) := by decide +kernel
theorem dX4_take_45 : decode cX4_take 45 = .ok (.iconst 1, 1) := by decide +kernel
theorem dX4_take_46 : decode cX4_take 46 = .ok (.iload_n 1, 1) := by decide +kernel
theorem dX4_take_47 : decode cX4_take 47 = .ok (.ishl, 1) := by decide +kernel
theorem dX4_take_48 : decode cX4_take 48 = .ok (.iconst (-1), 1) := by decide +kernel
theorem dX4_take_49 : decode cX4_take 49 = .ok (.ixor, 1) := by decide +kernel
theorem dX4_take_50 : decode cX4_take 50 = .ok (.iand, 1) := by decide +kernel
theorem dX4_take_51 : decode cX4_take 51 = .ok (.iastore, 1) := by decide +kernel
theorem dX4_take_52 : decode cX4_take 52 = .ok (.aload_n 0, 1) := by decide +kernel
theorem dX4_take_53 : decode cX4_take 53 = .ok (.getfield 25, 3) := by decide +kernel
theorem dX4_take_56 : decode cX4_take 56 = .ok (.bipush 14, 2) := by decide +kernel
theorem dX4_take_58 : decode cX4_take 58 = .ok (.iaload, 1) := by decide +kernel
theorem dX4_take_59 : decode cX4_take 59 = .ok (.invokestatic 141, 3) := by decide +kernel
theorem dX4_take_62 : decode cX4_take 62 = .ok (.ireturn, 1) := by decide +kernel
set_option maxRecDepth 20000 in
theorem ggX4_free_X4_noPerson : GoodIn wsX4_free wsX4_noPerson := goodIn_r _ [7, 8, 9, 10, 6, 11, 24, 25, 26, 27, 28, 29, 30, 31, 32, 33, 34, 35, 36, 37, 38, 39, 40, 41, 42, 43, 44, 45, 46, 47, 48, 49, 50, 51, 52] (by decide +kernel) (by decide +kernel)
set_option maxRecDepth 20000 in
theorem gX4_free_X4_noPerson : GoodIn wsX4_free (wsV RX4 134 RX4 yX4_noPerson wsX4_noPerson) := goodIn_app (goodIn_of _ (by decide +kernel)) ggX4_free_X4_noPerson
set_option maxRecDepth 20000 in
theorem ggX4_free_X4_has : GoodIn wsX4_free wsX4_has := goodIn_r _ [14] (by decide +kernel) (by decide +kernel)
set_option maxRecDepth 20000 in
theorem gX4_free_X4_has : GoodIn wsX4_free (va_wsS RX4 89 yX4_has wsX4_has) := goodIn_app (goodIn_of _ (by decide +kernel)) ggX4_free_X4_has
set_option maxRecDepth 20000 in
theorem ggX4_free_X4_note : GoodIn wsX4_free wsX4_note := goodIn_r _ [18, 19, 20, 2, 24, 25, 26, 27, 28, 29, 30, 31, 32, 33, 34, 35, 36, 37, 38, 39, 40, 41, 42, 43, 44, 45, 46, 47, 48, 49, 50, 51, 52] (by decide +kernel) (by decide +kernel)
set_option maxRecDepth 20000 in
theorem gX4_free_X4_note : GoodIn wsX4_free (wsV RX4 138 RX4 yX4_note wsX4_note) := goodIn_app (goodIn_of _ (by decide +kernel)) ggX4_free_X4_note
set_option maxRecDepth 20000 in
theorem ggX4_free_X4_many : GoodIn wsX4_free wsX4_many := goodIn_r _ [23] (by decide +kernel) (by decide +kernel)
set_option maxRecDepth 20000 in
theorem gX4_free_X4_many : GoodIn wsX4_free (va_wsS RX4 141 yX4_many wsX4_many) := goodIn_app (goodIn_of _ (by decide +kernel)) ggX4_free_X4_many
theorem dX4_free_0 : decode cX4_free 0 = .ok (.aload_n 0, 1) := by decide +kernel
theorem dX4_free_1 : decode cX4_free 1 = .ok (.iconst 0, 1) := by decide +kernel
theorem dX4_free_2 : decode cX4_free 2 = .ok (.putfield 60, 3) := by decide +kernel
theorem dX4_free_5 : decode cX4_free 5 = .ok (.aload_n 0, 1) := by decide +kernel
theorem dX4_free_6 : decode cX4_free 6 = .ok (.iload_n 1, 1) := by decide +kernel
theorem dX4_free_7 : decode cX4_free 7 = .ok (.invokevirtual 134, 3) := by decide +kernel
theorem dX4_free_10 : decode cX4_free 10 = .ok (.ifCond .eq 5, 3) := by decide +kernel
theorem dX4_free_13 : decode cX4_free 13 = .ok (.iconst (-1), 1) := by decide +kernel
theorem dX4_free_14 : decode cX4_free 14 = .ok (.ireturn, 1) := by decide +kernel
theorem dX4_free_15 : decode cX4_free 15 = .ok (.aload_n 0, 1) := by decide +kernel
theorem dX4_free_16 : decode cX4_free 16 = .ok (.getfield 25, 3) := by decide +kernel
theorem dX4_free_19 : decode cX4_free 19 = .ok (.bipush 14, 2) := by decide +kernel
theorem dX4_free_21 : decode cX4_free 21 = .ok (.iaload, 1) := by decide +kernel
theorem dX4_free_22 : decode cX4_free 22 = .ok (.aload_n 0, 1) := by decide +kernel
theorem dX4_free_23 : decode cX4_free 23 = .ok (.getfield 25, 3) := by decide +kernel
theorem dX4_free_26 : decode cX4_free 26 = .ok (.bipush 15, 2) := by decide +kernel
theorem dX4_free_28 : decode cX4_free 28 = .ok (.iaload, 1) := by decide +kernel
theorem dX4_free_29 : decode cX4_free 29 = .ok (.ior, 1) := by decide +kernel
theorem dX4_free_30 : decode cX4_free 30 = .ok (.iload_n 1, 1) := by decide +kernel
theorem dX4_free_31 : decode cX4_free 31 = .ok (.invokestatic 89, 3) := by decide +kernel
theorem dX4_free_34 : decode cX4_free 34 = .ok (.ifCond .eq 6, 3) := by decide +kernel
theorem dX4_free_37 : decode cX4_free 37 = .ok (.bipush (-3), 2) := by decide +kernel
theorem dX4_free_39 : decode cX4_free 39 = .ok (.ireturn, 1) := by decide +kernel
theorem dX4_free_40 : decode cX4_free 40 = .ok (.aload_n 0, 1) := by decide +kernel
theorem dX4_free_41 : decode cX4_free 41 = .ok (.invokevirtual 138, 3) := by decide +kernel
theorem dX4_free_44 : decode cX4_free 44 = .ok (.aload_n 0, 1) := by decide +kernel
theorem dX4_free_45 : decode cX4_free 45 = .ok (.getfield 25, 3) := by decide +kernel
theorem dX4_free_48 : decode cX4_free 48 = .ok (.bipush 14, 2) := by decide +kernel
theorem dX4_free_50 : decode cX4_free 50 = .ok (.dup2, 1) := by decide +kernel
theorem dX4_free_51 : decode cX4_free 51 = .ok (.iaload, 1) := by decide +kernel
theorem dX4_free_52 : decode cX4_free 52 = .ok (.iconst 1, 1) := by decide +kernel
theorem dX4_free_53 : decode cX4_free 53 = .ok (.iload_n 1, 1) := by decide +kernel
theorem dX4_free_54 : decode cX4_free 54 = .ok (.ishl, 1) := by decide +kernel
theorem dX4_free_55 : decode cX4_free 55 = .ok (.ior, 1) := by decide +kernel
theorem dX4_free_56 : decode cX4_free 56 = .ok (.iastore, 1) := by decide +kernel
theorem dX4_free_57 : decode cX4_free 57 = .ok (.aload_n 0, 1) := by decide +kernel
theorem dX4_free_58 : decode cX4_free 58 = .ok (.getfield 25, 3) := by decide +kernel
theorem dX4_free_61 : decode cX4_free 61 = .ok (.bipush 14, 2) := by decide +kernel
theorem dX4_free_63 : decode cX4_free 63 = .ok (.iaload, 1) := by decide +kernel
theorem dX4_free_64 : decode cX4_free 64 = .ok (.invokestatic 141, 3) := by decide +kernel
theorem dX4_free_67 : decode cX4_free 67 = .ok (.ireturn, 1) := by decide +kernel
theorem dX4_goDie_0 : decode cX4_goDie 0 = .ok (.aload_n 0, 1) := by decide +kernel
theorem dX4_goDie_1 : decode cX4_goDie 1 = .ok (.bipush 15, 2) := by decide +kernel
theorem dX4_goDie_3 : decode cX4_goDie 3 = .ok (.dup2, 1) := by decide +kernel
theorem dX4_goDie_4 : decode cX4_goDie 4 = .ok (.iaload, 1) := by decide +kernel
theorem dX4_goDie_5 : decode cX4_goDie 5 = .ok (.iconst 1, 1) := by decide +kernel
theorem dX4_goDie_6 : decode cX4_goDie 6 = .ok (.iload_n 1, 1) := by decide +kernel
theorem dX4_goDie_7 : decode cX4_goDie 7 = .ok (.ishl, 1) := by decide +kernel
theorem dX4_goDie_8 : decode cX4_goDie 8 = .ok (.ior, 1) := by decide +kernel
theorem dX4_goDie_9 : decode cX4_goDie 9 = .ok (.iastore, 1) := by decide +kernel
theorem dX4_goDie_10 : decode cX4_goDie 10 = .ok (.aload_n 0, 1) := by decide +kernel
theorem dX4_goDie_11 : decode cX4_goDie 11 = .ok (.bipush 14, 2) := by decide +kernel
theorem dX4_goDie_13 : decode cX4_goDie 13 = .ok (.dup2, 1) := by decide +kernel
theorem dX4_goDie_14 : decode cX4_goDie 14 = .ok (.iaload, 1) := by decide +kernel
theorem dX4_goDie_15 : decode cX4_goDie 15 = .ok (.iconst 1, 1) := by decide +kernel
theorem dX4_goDie_16 : decode cX4_goDie 16 = .ok (.iload_n 1, 1) := by decide +kernel
theorem dX4_goDie_17 : decode cX4_goDie 17 = .ok (.ishl, 1) := by decide +kernel
theorem dX4_goDie_18 : decode cX4_goDie 18 = .ok (.iconst (-1), 1) := by decide +kernel
theorem dX4_goDie_19 : decode cX4_goDie 19 = .ok (.ixor, 1) := by decide +kernel
theorem dX4_goDie_20 : decode cX4_goDie 20 = .ok (.iand, 1) := by decide +kernel
theorem dX4_goDie_21 : decode cX4_goDie 21 = .ok (.iastore, 1) := by decide +kernel
theorem dX4_goDie_22 : decode cX4_goDie 22 = .ok (.return_, 1) := by decide +kernel
set_option maxRecDepth 20000 in
theorem ggX4_die_X4_noPerson : GoodIn wsX4_die wsX4_noPerson := goodIn_r _ [7, 8, 9, 10, 6, 11, 27, 28, 29, 30, 31, 32, 33, 34, 35, 36, 37, 38, 39, 40, 41, 42, 43, 44, 45, 46, 47, 48, 49, 50, 51, 52, 53, 54, 55] (by decide +kernel) (by decide +kernel)
set_option maxRecDepth 20000 in
theorem gX4_die_X4_noPerson : GoodIn wsX4_die (wsV RX4 134 RX4 yX4_noPerson wsX4_noPerson) := goodIn_app (goodIn_of _ (by decide +kernel)) ggX4_die_X4_noPerson
set_option maxRecDepth 20000 in
theorem ggX4_die_X4_has : GoodIn wsX4_die wsX4_has := goodIn_r _ [14] (by decide +kernel) (by decide +kernel)
set_option maxRecDepth 20000 in
theorem gX4_die_X4_has : GoodIn wsX4_die (va_wsS RX4 89 yX4_has wsX4_has) := goodIn_app (goodIn_of _ (by decide +kernel)) ggX4_die_X4_has
set_option maxRecDepth 20000 in
theorem ggX4_die_X4_note : GoodIn wsX4_die wsX4_note := goodIn_r _ [18, 19, 20, 2, 27, 28, 29, 30, 31, 32, 33, 34, 35, 36, 37, 38, 39, 40, 41, 42, 43, 44, 45, 46, 47, 48, 49, 50, 51, 52, 53, 54, 55] (by decide +kernel) (by decide +kernel)
set_option maxRecDepth 20000 in
theorem gX4_die_X4_note : GoodIn wsX4_die (wsV RX4 138 RX4 yX4_note wsX4_note) := goodIn_app (goodIn_of _ (by decide +kernel)) ggX4_die_X4_note
set_option maxRecDepth 20000 in
theorem ggX4_die_X4_goDie : GoodIn wsX4_die wsX4_goDie := goodIn_r _ [23] (by decide +kernel) (by decide +kernel)
set_option maxRecDepth 20000 in
theorem gX4_die_X4_goDie : GoodIn wsX4_die (va_wsS RX4 144 yX4_goDie wsX4_goDie) := goodIn_app (goodIn_of _ (by decide +kernel)) ggX4_die_X4_goDie
set_option maxRecDepth 20000 in
theorem ggX4_die_X4_many : GoodIn wsX4_die wsX4_many := goodIn_r _ [26] (by decide +kernel) (by decide +kernel)
set_option maxRecDepth 20000 in
theorem gX4_die_X4_many : GoodIn wsX4_die (va_wsS RX4 141 yX4_many wsX4_many) := goodIn_app (goodIn_of _ (by decide +kernel)) ggX4_die_X4_many
theorem dX4_die_0 : decode cX4_die 0 = .ok (.aload_n 0, 1) := by decide +kernel
theorem dX4_die_1 : decode cX4_die 1 = .ok (.iconst 0, 1) := by decide +kernel
theorem dX4_die_2 : decode cX4_die 2 = .ok (.putfield 60, 3) := by decide +kernel
theorem dX4_die_5 : decode cX4_die 5 = .ok (.aload_n 0, 1) := by decide +kernel
theorem dX4_die_6 : decode cX4_die 6 = .ok (.iload_n 1, 1) := by decide +kernel
theorem dX4_die_7 : decode cX4_die 7 = .ok (.invokevirtual 134, 3) := by decide +kernel
theorem dX4_die_10 : decode cX4_die 10 = .ok (.ifCond .eq 5, 3) := by decide +kernel
theorem dX4_die_13 : decode cX4_die 13 = .ok (.iconst (-1), 1) := by decide +kernel
theorem dX4_die_14 : decode cX4_die 14 = .ok (.ireturn, 1) := by decide +kernel
theorem dX4_die_15 : decode cX4_die 15 = .ok (.aload_n 0, 1) := by decide +kernel
theorem dX4_die_16 : decode cX4_die 16 = .ok (.getfield 25, 3) := by decide +kernel
theorem dX4_die_19 : decode cX4_die 19 = .ok (.bipush 15, 2) := by decide +kernel
theorem dX4_die_21 : decode cX4_die 21 = .ok (.iaload, 1) := by decide +kernel
theorem dX4_die_22 : decode cX4_die 22 = .ok (.iload_n 1, 1) := by decide +kernel
theorem dX4_die_23 : decode cX4_die 23 = .ok (.invokestatic 89, 3) := by decide +kernel
theorem dX4_die_26 : decode cX4_die 26 = .ok (.ifCond .eq 6, 3) := by decide +kernel
theorem dX4_die_29 : decode cX4_die 29 = .ok (.bipush (-3), 2) := by decide +kernel
theorem dX4_die_31 : decode cX4_die 31 = .ok (.ireturn, 1) := by decide +kernel
theorem dX4_die_32 : decode cX4_die 32 = .ok (.aload_n 0, 1) := by decide +kernel
theorem dX4_die_33 : decode cX4_die 33 = .ok (.invokevirtual 138, 3) := by decide +kernel
theorem dX4_die_36 : decode cX4_die 36 = .ok (.aload_n 0, 1) := by decide +kernel
theorem dX4_die_37 : decode cX4_die 37 = .ok (.getfield 25, 3) := by decide +kernel
theorem dX4_die_40 : decode cX4_die 40 = .ok (.iload_n 1, 1) := by decide +kernel
theorem dX4_die_41 : decode cX4_die 41 = .ok (.invokestatic 144, 3) := by decide +kernel
theorem dX4_die_44 : decode cX4_die 44 = .ok (.aload_n 0, 1) := by decide +kernel
theorem dX4_die_45 : decode cX4_die 45 = .ok (.getfield 25, 3) := by decide +kernel
theorem dX4_die_48 : decode cX4_die 48 = .ok (.bipush 14, 2) := by decide +kernel
theorem dX4_die_50 : decode cX4_die 50 = .ok (.iaload, 1) := by decide +kernel
theorem dX4_die_51 : decode cX4_die 51 = .ok (.invokestatic 141, 3) := by decide +kernel
theorem dX4_die_54 : decode cX4_die 54 = .ok (.ireturn, 1) := by decide +kernel
set_option maxRecDepth 20000 in
theorem ggX4_feed_X4_noPerson : GoodIn wsX4_feed wsX4_noPerson := goodIn_r _ [7, 8, 9, 10, 6, 11, 18, 19, 20, 21, 22, 23, 24, 25, 26, 27, 28, 29, 30, 31, 32, 33, 34, 35, 36, 37, 38, 39, 40, 41, 42, 43, 44, 45, 46] (by decide +kernel) (by decide +kernel)
set_option maxRecDepth 20000 in
theorem gX4_feed_X4_noPerson : GoodIn wsX4_feed (wsV RX4 134 RX4 yX4_noPerson wsX4_noPerson) := goodIn_app (goodIn_of _ (by decide +kernel)) ggX4_feed_X4_noPerson
set_option maxRecDepth 20000 in
theorem ggX4_feed_X4_note : GoodIn wsX4_feed wsX4_note := goodIn_r _ [15, 16, 17, 2, 18, 19, 20, 21, 22, 23, 24, 25, 26, 27, 28, 29, 30, 31, 32, 33, 34, 35, 36, 37, 38, 39, 40, 41, 42, 43, 44, 45, 46] (by decide +kernel) (by decide +kernel)
set_option maxRecDepth 20000 in
theorem gX4_feed_X4_note : GoodIn wsX4_feed (wsV RX4 138 RX4 yX4_note wsX4_note) := goodIn_app (goodIn_of _ (by decide +kernel)) ggX4_feed_X4_note
theorem dX4_feed_0 : decode cX4_feed 0 = .ok (.aload_n 0, 1) := by decide +kernel
theorem dX4_feed_1 : decode cX4_feed 1 = .ok (.iconst 0, 1) := by decide +kernel
theorem dX4_feed_2 : decode cX4_feed 2 = .ok (.putfield 60, 3) := by decide +kernel
theorem dX4_feed_5 : decode cX4_feed 5 = .ok (.aload_n 0, 1) := by decide +kernel
theorem dX4_feed_6 : decode cX4_feed 6 = .ok (.iload_n 1, 1) := by decide +kernel
theorem dX4_feed_7 : decode cX4_feed 7 = .ok (.invokevirtual 134, 3) := by decide +kernel
theorem dX4_feed_10 : decode cX4_feed 10 = .ok (.ifCond .ne 11, 3) := by decide +kernel
theorem dX4_feed_13 : decode cX4_feed 13 = .ok (.aload_n 0, 1) := by decide +kernel
theorem dX4_feed_14 : decode cX4_feed 14 = .ok (.iload_n 2, 1) := by decide +kernel
theorem dX4_feed_15 : decode cX4_feed 15 = .ok (.invokevirtual 134, 3) := by decide +kernel
theorem dX4_feed_18 : decode cX4_feed 18 = .ok (.ifCond .eq 5, 3) := by decide +kernel
theorem dX4_feed_21 : decode cX4_feed 21 = .ok (.iconst (-1), 1) := by decide +kernel
theorem dX4_feed_22 : decode cX4_feed 22 = .ok (.ireturn, 1) := by decide +kernel
theorem dX4_feed_23 : decode cX4_feed 23 = .ok (.iload_n 1, 1) := by decide +kernel
theorem dX4_feed_24 : decode cX4_feed 24 = .ok (.iload_n 2, 1) := by decide +kernel
theorem dX4_feed_25 : decode cX4_feed 25 = .ok (.if_icmp .ne 6, 3) := by decide +kernel
theorem dX4_feed_28 : decode cX4_feed 28 = .ok (.bipush (-2), 2) := by decide +kernel
theorem dX4_feed_30 : decode cX4_feed 30 = .ok (.ireturn, 1) := by decide +kernel
theorem dX4_feed_31 : decode cX4_feed 31 = .ok (.aload_n 0, 1) := by decide +kernel
theorem dX4_feed_32 : decode cX4_feed 32 = .ok (.invokevirtual 138, 3) := by decide +kernel
theorem dX4_feed_35 : decode cX4_feed 35 = .ok (.aload_n 0, 1) := by decide +kernel
theorem dX4_feed_36 : decode cX4_feed 36 = .ok (.getfield 25, 3) := by decide +kernel
theorem dX4_feed_39 : decode cX4_feed 39 = .ok (.bipush 7, 2) := by decide +kernel
theorem dX4_feed_41 : decode cX4_feed 41 = .ok (.iload_n 1, 1) := by decide +kernel
theorem dX4_feed_42 : decode cX4_feed 42 = .ok (.iadd, 1) := by decide +kernel
theorem dX4_feed_43 : decode cX4_feed 43 = .ok (.dup2, 1) := by decide +kernel
theorem dX4_feed_44 : decode cX4_feed 44 = .ok (.iaload, 1) := by decide +kernel
theorem dX4_feed_45 : decode cX4_feed 45 = .ok (.iconst 1, 1) := by decide +kernel
theorem dX4_feed_46 : decode cX4_feed 46 = .ok (.iload_n 2, 1) := by decide +kernel
theorem dX4_feed_47 : decode cX4_feed 47 = .ok (.ishl, 1) := by decide +kernel
theorem dX4_feed_48 : decode cX4_feed 48 = .ok (.ixor, 1) := by decide +kernel
theorem dX4_feed_49 : decode cX4_feed 49 = .ok (.iastore, 1) := by decide +kernel
theorem dX4_feed_50 : decode cX4_feed 50 = .ok (.aload_n 0, 1) := by decide +kernel
theorem dX4_feed_51 : decode cX4_feed 51 = .ok (.getfield 25, 3) := by decide +kernel
theorem dX4_feed_54 : decode cX4_feed 54 = .ok (.bipush 7, 2) := by decide +kernel
theorem dX4_feed_56 : decode cX4_feed 56 = .ok (.iload_n 1, 1) := by decide +kernel
theorem dX4_feed_57 : decode cX4_feed 57 = .ok (.iadd, 1) := by decide +kernel
theorem dX4_feed_58 : decode cX4_feed 58 = .ok (.iaload, 1) := by decide +kernel
theorem dX4_feed_59 : decode cX4_feed 59 = .ok (.iload_n 2, 1) := by decide +kernel
theorem dX4_feed_60 : decode cX4_feed 60 = .ok (.ishr, 1) := by decide +kernel
theorem dX4_feed_61 : decode cX4_feed 61 = .ok (.iconst 1, 1) := by decide +kernel
theorem dX4_feed_62 : decode cX4_feed 62 = .ok (.iand, 1) := by decide +kernel
theorem dX4_feed_63 : decode cX4_feed 63 = .ok (.ireturn, 1) := by decide +kernel
set_option maxRecDepth 20000 in
theorem ggX4_grade_X4_noPerson : GoodIn wsX4_grade wsX4_noPerson := goodIn_r _ [8, 9, 10, 11, 7, 12, 19, 20, 21, 22, 23, 24, 25, 26, 27, 28, 29, 30, 31, 32, 33, 34, 35, 36, 37, 38, 39, 40, 41, 42, 43, 44, 45, 46, 47] (by decide +kernel) (by decide +kernel)
set_option maxRecDepth 20000 in
theorem gX4_grade_X4_noPerson : GoodIn wsX4_grade (wsV RX4 134 RX4 yX4_noPerson wsX4_noPerson) := goodIn_app (goodIn_of _ (by decide +kernel)) ggX4_grade_X4_noPerson
set_option maxRecDepth 20000 in
theorem ggX4_grade_X4_in : GoodIn wsX4_grade wsX4_in := goodIn_r _ [12] (by decide +kernel) (by decide +kernel)
set_option maxRecDepth 20000 in
theorem gX4_grade_X4_in : GoodIn wsX4_grade (va_wsS RX4 67 yX4_in wsX4_in) := goodIn_app (goodIn_of _ (by decide +kernel)) ggX4_grade_X4_in
set_option maxRecDepth 20000 in
theorem ggX4_grade_X4_note : GoodIn wsX4_grade wsX4_note := goodIn_r _ [16, 17, 18, 3, 19, 20, 21, 22, 23, 24, 25, 26, 27, 28, 29, 30, 31, 32, 33, 34, 35, 36, 37, 38, 39, 40, 41, 42, 43, 44, 45, 46, 47] (by decide +kernel) (by decide +kernel)
set_option maxRecDepth 20000 in
theorem gX4_grade_X4_note : GoodIn wsX4_grade (wsV RX4 138 RX4 yX4_note wsX4_note) := goodIn_app (goodIn_of _ (by decide +kernel)) ggX4_grade_X4_note
theorem dX4_grade_0 : decode cX4_grade 0 = .ok (.aload_n 0, 1) := by decide +kernel
theorem dX4_grade_1 : decode cX4_grade 1 = .ok (.iconst 0, 1) := by decide +kernel
theorem dX4_grade_2 : decode cX4_grade 2 = .ok (.putfield 60, 3) := by decide +kernel
theorem dX4_grade_5 : decode cX4_grade 5 = .ok (.aload_n 0, 1) := by decide +kernel
theorem dX4_grade_6 : decode cX4_grade 6 = .ok (.iload_n 1, 1) := by decide +kernel
theorem dX4_grade_7 : decode cX4_grade 7 = .ok (.invokevirtual 134, 3) := by decide +kernel
theorem dX4_grade_10 : decode cX4_grade 10 = .ok (.ifCond .eq 5, 3) := by decide +kernel
theorem dX4_grade_13 : decode cX4_grade 13 = .ok (.iconst (-1), 1) := by decide +kernel
theorem dX4_grade_14 : decode cX4_grade 14 = .ok (.ireturn, 1) := by decide +kernel
theorem dX4_grade_15 : decode cX4_grade 15 = .ok (.iload_n 2, 1) := by decide +kernel
theorem dX4_grade_16 : decode cX4_grade 16 = .ok (.i2l, 1) := by decide +kernel
theorem dX4_grade_17 : decode cX4_grade 17 = .ok (.lconst 0, 1) := by decide +kernel
theorem dX4_grade_18 : decode cX4_grade 18 = .ok (.ldc2_w 148, 3) := by decide +kernel
theorem dX4_grade_21 : decode cX4_grade 21 = .ok (.invokestatic 67, 3) := by decide +kernel
theorem dX4_grade_24 : decode cX4_grade 24 = .ok (.ifCond .ne 6, 3) := by decide +kernel
theorem dX4_grade_27 : decode cX4_grade 27 = .ok (.bipush (-2), 2) := by decide +kernel
theorem dX4_grade_29 : decode cX4_grade 29 = .ok (.ireturn, 1) := by decide +kernel
theorem dX4_grade_30 : decode cX4_grade 30 = .ok (.aload_n 0, 1) := by decide +kernel
theorem dX4_grade_31 : decode cX4_grade 31 = .ok (.getfield 25, 3) := by decide +kernel
theorem dX4_grade_34 : decode cX4_grade 34 = .ok (.iconst 0, 1) := by decide +kernel
theorem dX4_grade_35 : decode cX4_grade 35 = .ok (.iload_n 1, 1) := by decide +kernel
theorem dX4_grade_36 : decode cX4_grade 36 = .ok (.iadd, 1) := by decide +kernel
theorem dX4_grade_37 : decode cX4_grade 37 = .ok (.iaload, 1) := by decide +kernel
theorem dX4_grade_38 : decode cX4_grade 38 = .ok (.istore_n 3, 1) := by decide +kernel
theorem dX4_grade_39 : decode cX4_grade 39 = .ok (.iload_n 3, 1) := by decide +kernel
theorem dX4_grade_40 : decode cX4_grade 40 = .ok (.iload_n 2, 1) := by decide +kernel
theorem dX4_grade_41 : decode cX4_grade 41 = .ok (.if_icmp .ne 6, 3) := by decide +kernel
theorem dX4_grade_44 : decode cX4_grade 44 = .ok (.bipush (-3), 2) := by decide +kernel
theorem dX4_grade_46 : decode cX4_grade 46 = .ok (.ireturn, 1) := by decide +kernel
theorem dX4_grade_47 : decode cX4_grade 47 = .ok (.aload_n 0, 1) := by decide +kernel
theorem dX4_grade_48 : decode cX4_grade 48 = .ok (.invokevirtual 138, 3) := by decide +kernel
theorem dX4_grade_51 : decode cX4_grade 51 = .ok (.aload_n 0, 1) := by decide +kernel
theorem dX4_grade_52 : decode cX4_grade 52 = .ok (.getfield 25, 3) := by decide +kernel
theorem dX4_grade_55 : decode cX4_grade 55 = .ok (.iconst 0, 1) := by decide +kernel
theorem dX4_grade_56 : decode cX4_grade 56 = .ok (.iload_n 1, 1) := by decide +kernel
theorem dX4_grade_57 : decode cX4_grade 57 = .ok (.iadd, 1) := by decide +kernel
theorem dX4_grade_58 : decode cX4_grade 58 = .ok (.iload_n 2, 1) := by decide +kernel
theorem dX4_grade_59 : decode cX4_grade 59 = .ok (.iastore, 1) := by decide +kernel
theorem dX4_grade_60 : decode cX4_grade 60 = .ok (.iload_n 3, 1) := by decide +kernel
theorem dX4_grade_61 : decode cX4_grade 61 = .ok (.ireturn, 1) := by decide +kernel
set_option maxRecDepth 20000 in
theorem ggX4_goDay_X4_mayOf : GoodIn wsX4_goDay wsX4_mayOf := goodIn_r _ [5, 6, 7, 8, 4, 9, 10, 11, 12, 13, 14, 15, 16, 17, 18, 22, 23, 24, 25, 26, 27, 28, 29, 30, 31, 32, 33, 34, 35, 36, 37, 38, 39, 40, 41, 42, 43, 44, 45, 46, 47, 48, 49, 50] (by decide +kernel) (by decide +kernel)
set_option maxRecDepth 20000 in
theorem gX4_goDay_X4_mayOf : GoodIn wsX4_goDay (wsV RX4 124 RX4 yX4_mayOf wsX4_mayOf) := goodIn_app (goodIn_of _ (by decide +kernel)) ggX4_goDay_X4_mayOf
set_option maxRecDepth 20000 in
theorem ggX4_goDay_X4_least : GoodIn wsX4_goDay wsX4_least := goodIn_r _ [21, 7, 8, 4, 9] (by decide +kernel) (by decide +kernel)
set_option maxRecDepth 20000 in
theorem gX4_goDay_X4_least : GoodIn wsX4_goDay (va_wsS RX4 128 yX4_least wsX4_least) := goodIn_app (goodIn_of _ (by decide +kernel)) ggX4_goDay_X4_least
theorem dX4_goDay_0 : decode cX4_goDay 0 = .ok (.aload_n 0, 1) := by decide +kernel
theorem dX4_goDay_1 : decode cX4_goDay 1 = .ok (.aload_n 1, 1) := by decide +kernel
theorem dX4_goDay_2 : decode cX4_goDay 2 = .ok (.invokevirtual 124, 3) := by decide +kernel
theorem dX4_goDay_5 : decode cX4_goDay 5 = .ok (.istore_n 2, 1) := by decide +kernel
theorem dX4_goDay_6 : decode cX4_goDay 6 = .ok (.iload_n 2, 1) := by decide +kernel
theorem dX4_goDay_7 : decode cX4_goDay 7 = .ok (.ifCond .ne 8, 3) := by decide +kernel
theorem dX4_goDay_10 : decode cX4_goDay 10 = .ok (.bipush (-9), 2) := by decide +kernel
theorem dX4_goDay_12 : decode cX4_goDay 12 = .ok (.goto 7, 3) := by decide +kernel
theorem dX4_goDay_15 : decode cX4_goDay 15 = .ok (.iload_n 2, 1) := by decide +kernel
theorem dX4_goDay_16 : decode cX4_goDay 16 = .ok (.invokestatic 128, 3) := by decide +kernel
theorem dX4_goDay_19 : decode cX4_goDay 19 = .ok (.istore_n 3, 1) := by decide +kernel
theorem dX4_goDay_20 : decode cX4_goDay 20 = .ok (.aload_n 1, 1) := by decide +kernel
theorem dX4_goDay_21 : decode cX4_goDay 21 = .ok (.bipush 14, 2) := by decide +kernel
theorem dX4_goDay_23 : decode cX4_goDay 23 = .ok (.dup2, 1) := by decide +kernel
theorem dX4_goDay_24 : decode cX4_goDay 24 = .ok (.iaload, 1) := by decide +kernel
theorem dX4_goDay_25 : decode cX4_goDay 25 = .ok (.iload_n 3, 1) := by decide +kernel
theorem dX4_goDay_26 : decode cX4_goDay 26 = .ok (.bipush (-9), 2) := by decide +kernel
theorem dX4_goDay_28 : decode cX4_goDay 28 = .ok (.if_icmp .ne 7, 3) := by decide +kernel
theorem dX4_goDay_31 : decode cX4_goDay 31 = .ok (.iconst (-1), 1) := by decide +kernel
theorem dX4_goDay_32 : decode cX4_goDay 32 = .ok (.goto 8, 3) := by decide +kernel
theorem dX4_goDay_35 : decode cX4_goDay 35 = .ok (.iconst 1, 1) := by decide +kernel
theorem dX4_goDay_36 : decode cX4_goDay 36 = .ok (.iload_n 3, 1) := by decide +kernel
theorem dX4_goDay_37 : decode cX4_goDay 37 = .ok (.ishl, 1) := by decide +kernel
theorem dX4_goDay_38 : decode cX4_goDay 38 = .ok (.iconst (-1), 1) := by decide +kernel
theorem dX4_goDay_39 : decode cX4_goDay 39 = .ok (.ixor, 1) := by decide +kernel
theorem dX4_goDay_40 : decode cX4_goDay 40 = .ok (.iand, 1) := by decide +kernel
theorem dX4_goDay_41 : decode cX4_goDay 41 = .ok (.iastore, 1) := by decide +kernel
theorem dX4_goDay_42 : decode cX4_goDay 42 = .ok (.aload_n 1, 1) := by decide +kernel
theorem dX4_goDay_43 : decode cX4_goDay 43 = .ok (.bipush 16, 2) := by decide +kernel
theorem dX4_goDay_45 : decode cX4_goDay 45 = .ok (.dup2, 1) := by decide +kernel
theorem dX4_goDay_46 : decode cX4_goDay 46 = .ok (.iaload, 1) := by decide +kernel
theorem dX4_goDay_47 : decode cX4_goDay 47 = .ok (.iconst 1, 1) := by decide +kernel
theorem dX4_goDay_48 : decode cX4_goDay 48 = .ok (.iadd, 1) := by decide +kernel
theorem dX4_goDay_49 : decode cX4_goDay 49 = .ok (.iastore, 1) := by decide +kernel
theorem dX4_goDay_50 : decode cX4_goDay 50 = .ok (.iload_n 3, 1) := by decide +kernel
theorem dX4_goDay_51 : decode cX4_goDay 51 = .ok (.ireturn, 1) := by decide +kernel
set_option maxRecDepth 20000 in
theorem ggX4_day_X4_note : GoodIn wsX4_day wsX4_note := goodIn_r _ [7, 8, 9, 2, 34, 35, 36, 37, 38, 39, 40, 41, 42, 43, 44, 45, 46, 47, 48, 49, 50, 51, 52, 53, 54, 55, 56, 57, 58, 59, 60, 61, 62] (by decide +kernel) (by decide +kernel)
set_option maxRecDepth 20000 in
theorem gX4_day_X4_note : GoodIn wsX4_day (wsV RX4 138 RX4 yX4_note wsX4_note) := goodIn_app (goodIn_of _ (by decide +kernel)) ggX4_day_X4_note
set_option maxRecDepth 20000 in
theorem ggX4_day_X4_goDay : GoodIn wsX4_day wsX4_goDay := goodIn_r _ [13, 14, 15, 16, 6, 17, 18, 19, 20, 21, 22, 23, 24, 25, 26, 27, 28, 29, 30, 31, 32, 33, 34, 35, 36, 37, 38, 39, 40, 41, 42, 43, 44, 45, 46, 47, 48, 49, 50, 51, 52, 53, 54, 55, 56, 57, 58, 59, 60, 61, 62] (by decide +kernel) (by decide +kernel)
set_option maxRecDepth 20000 in
theorem gX4_day_X4_goDay : GoodIn wsX4_day (wsV RX4 150 RX4 yX4_goDay wsX4_goDay) := goodIn_app (goodIn_of _ (by decide +kernel)) ggX4_day_X4_goDay
theorem dX4_day_0 : decode cX4_day 0 = .ok (.aload_n 0, 1) := by decide +kernel
theorem dX4_day_1 : decode cX4_day 1 = .ok (.iconst 0, 1) := by decide +kernel
theorem dX4_day_2 : decode cX4_day 2 = .ok (.putfield 60, 3) := by decide +kernel
theorem dX4_day_5 : decode cX4_day 5 = .ok (.aload_n 0, 1) := by decide +kernel
theorem dX4_day_6 : decode cX4_day 6 = .ok (.invokevirtual 138, 3) := by decide +kernel
theorem dX4_day_9 : decode cX4_day 9 = .ok (.aload_n 0, 1) := by decide +kernel
theorem dX4_day_10 : decode cX4_day 10 = .ok (.aload_n 0, 1) := by decide +kernel
theorem dX4_day_11 : decode cX4_day 11 = .ok (.getfield 25, 3) := by decide +kernel
theorem dX4_day_14 : decode cX4_day 14 = .ok (.invokevirtual 150, 3) := by decide +kernel
theorem dX4_day_17 : decode cX4_day 17 = .ok (.ireturn, 1) := by decide +kernel
theorem dX4_undo_0 : decode cX4_undo 0 = .ok (.aload_n 0, 1) := by decide +kernel
theorem dX4_undo_1 : decode cX4_undo 1 = .ok (.iconst 0, 1) := by decide +kernel
theorem dX4_undo_2 : decode cX4_undo 2 = .ok (.putfield 60, 3) := by decide +kernel
theorem dX4_undo_5 : decode cX4_undo 5 = .ok (.aload_n 0, 1) := by decide +kernel
theorem dX4_undo_6 : decode cX4_undo 6 = .ok (.getfield 110, 3) := by decide +kernel
theorem dX4_undo_9 : decode cX4_undo 9 = .ok (.ifCond .ne 6, 3) := by decide +kernel
theorem dX4_undo_12 : decode cX4_undo 12 = .ok (.bipush (-3), 2) := by decide +kernel
theorem dX4_undo_14 : decode cX4_undo 14 = .ok (.ireturn, 1) := by decide +kernel
theorem dX4_undo_15 : decode cX4_undo 15 = .ok (.aload_n 0, 1) := by decide +kernel
theorem dX4_undo_16 : decode cX4_undo 16 = .ok (.dup, 1) := by decide +kernel
theorem dX4_undo_17 : decode cX4_undo 17 = .ok (.getfield 110, 3) := by decide +kernel
theorem dX4_undo_20 : decode cX4_undo 20 = .ok (.iconst 1, 1) := by decide +kernel
theorem dX4_undo_21 : decode cX4_undo 21 = .ok (.isub, 1) := by decide +kernel
theorem dX4_undo_22 : decode cX4_undo 22 = .ok (.putfield 110, 3) := by decide +kernel
theorem dX4_undo_25 : decode cX4_undo 25 = .ok (.iconst 0, 1) := by decide +kernel
theorem dX4_undo_26 : decode cX4_undo 26 = .ok (.istore_n 1, 1) := by decide +kernel
theorem dX4_undo_27 : decode cX4_undo 27 = .ok (.iload_n 1, 1) := by decide +kernel
theorem dX4_undo_28 : decode cX4_undo 28 = .ok (.bipush 17, 2) := by decide +kernel
theorem dX4_undo_30 : decode cX4_undo 30 = .ok (.if_icmp .ge 29, 3) := by decide +kernel
theorem dX4_undo_33 : decode cX4_undo 33 = .ok (.aload_n 0, 1) := by decide +kernel
theorem dX4_undo_34 : decode cX4_undo 34 = .ok (.getfield 25, 3) := by decide +kernel
theorem dX4_undo_37 : decode cX4_undo 37 = .ok (.iload_n 1, 1) := by decide +kernel
theorem dX4_undo_38 : decode cX4_undo 38 = .ok (.aload_n 0, 1) := by decide +kernel
theorem dX4_undo_39 : decode cX4_undo 39 = .ok (.getfield 31, 3) := by decide +kernel
theorem dX4_undo_42 : decode cX4_undo 42 = .ok (.bipush 17, 2) := by decide +kernel
theorem dX4_undo_44 : decode cX4_undo 44 = .ok (.aload_n 0, 1) := by decide +kernel
theorem dX4_undo_45 : decode cX4_undo 45 = .ok (.getfield 110, 3) := by decide +kernel
theorem dX4_undo_48 : decode cX4_undo 48 = .ok (.imul, 1) := by decide +kernel
theorem dX4_undo_49 : decode cX4_undo 49 = .ok (.iload_n 1, 1) := by decide +kernel
theorem dX4_undo_50 : decode cX4_undo 50 = .ok (.iadd, 1) := by decide +kernel
theorem dX4_undo_51 : decode cX4_undo 51 = .ok (.iaload, 1) := by decide +kernel
theorem dX4_undo_52 : decode cX4_undo 52 = .ok (.iastore, 1) := by decide +kernel
theorem dX4_undo_53 : decode cX4_undo 53 = .ok (.iinc 1 1, 3) := by decide +kernel
theorem dX4_undo_56 : decode cX4_undo 56 = .ok (.goto (-29), 3) := by decide +kernel
theorem dX4_undo_59 : decode cX4_undo 59 = .ok (.aload_n 0, 1) := by decide +kernel
theorem dX4_undo_60 : decode cX4_undo 60 = .ok (.getfield 110, 3) := by decide +kernel
theorem dX4_undo_63 : decode cX4_undo 63 = .ok (.ireturn, 1) := by decide +kernel
set_option maxRecDepth 20000 in
theorem ggX4_fall_X4_begin : GoodIn wsX4_fall wsX4_begin := goodIn_r _ [8, 9, 10, 35, 36, 37, 38, 39, 40, 41, 42, 43, 44, 45, 46, 47, 48, 49, 50, 51, 52, 53, 54, 55, 56, 57, 58, 59, 60, 61, 62, 63] (by decide +kernel) (by decide +kernel)
set_option maxRecDepth 20000 in
theorem gX4_fall_X4_begin : GoodIn wsX4_fall (wsV RX4 153 RX4 yX4_begin wsX4_begin) := goodIn_app (goodIn_of _ (by decide +kernel)) ggX4_fall_X4_begin
set_option maxRecDepth 20000 in
theorem ggX4_fall_X4_layFall : GoodIn wsX4_fall wsX4_layFall := goodIn_r _ [14, 2, 9, 3, 15, 16, 17, 7, 18, 19, 20, 21, 22, 23, 24, 25, 26, 27, 28, 29, 30, 31, 32, 33, 34, 35, 36, 37, 38, 39, 40, 41, 42, 43, 44, 45, 46, 47, 48, 49, 50, 51, 52, 53, 54, 55, 56, 57, 58, 59, 60, 61, 62, 63] (by decide +kernel) (by decide +kernel)
set_option maxRecDepth 20000 in
theorem gX4_fall_X4_layFall : GoodIn wsX4_fall (wsV RX4 156 RX4 yX4_layFall wsX4_layFall) := goodIn_app (goodIn_of _ (by decide +kernel)) ggX4_fall_X4_layFall
theorem dX4_fall_0 : decode cX4_fall 0 = .ok (.aload_n 0, 1) := by decide +kernel
theorem dX4_fall_1 : decode cX4_fall 1 = .ok (.iconst 0, 1) := by decide +kernel
theorem dX4_fall_2 : decode cX4_fall 2 = .ok (.putfield 60, 3) := by decide +kernel
theorem dX4_fall_5 : decode cX4_fall 5 = .ok (.aload_n 0, 1) := by decide +kernel
theorem dX4_fall_6 : decode cX4_fall 6 = .ok (.invokevirtual 153, 3) := by decide +kernel
theorem dX4_fall_9 : decode cX4_fall 9 = .ok (.aload_n 0, 1) := by decide +kernel
theorem dX4_fall_10 : decode cX4_fall 10 = .ok (.invokevirtual 156, 3) := by decide +kernel
theorem dX4_fall_13 : decode cX4_fall 13 = .ok (.iconst 0, 1) := by decide +kernel
theorem dX4_fall_14 : decode cX4_fall 14 = .ok (.istore_n 1, 1) := by decide +kernel
theorem dX4_fall_15 : decode cX4_fall 15 = .ok (.iconst 0, 1) := by decide +kernel
theorem dX4_fall_16 : decode cX4_fall 16 = .ok (.istore_n 2, 1) := by decide +kernel
theorem dX4_fall_17 : decode cX4_fall 17 = .ok (.iload_n 2, 1) := by decide +kernel
theorem dX4_fall_18 : decode cX4_fall 18 = .ok (.aload_n 0, 1) := by decide +kernel
theorem dX4_fall_19 : decode cX4_fall 19 = .ok (.getfield 121, 3) := by decide +kernel
theorem dX4_fall_22 : decode cX4_fall 22 = .ok (.if_icmp .ge 23, 3) := by decide +kernel
theorem dX4_fall_25 : decode cX4_fall 25 = .ok (.bipush 10, 2) := by decide +kernel
theorem dX4_fall_27 : decode cX4_fall 27 = .ok (.iload_n 1, 1) := by decide +kernel
theorem dX4_fall_28 : decode cX4_fall 28 = .ok (.imul, 1) := by decide +kernel
theorem dX4_fall_29 : decode cX4_fall 29 = .ok (.aload_n 0, 1) := by decide +kernel
theorem dX4_fall_30 : decode cX4_fall 30 = .ok (.getfield 47, 3) := by decide +kernel
theorem dX4_fall_33 : decode cX4_fall 33 = .ok (.iload_n 2, 1) := by decide +kernel
theorem dX4_fall_34 : decode cX4_fall 34 = .ok (.iaload, 1) := by decide +kernel
theorem dX4_fall_35 : decode cX4_fall 35 = .ok (.iadd, 1) := by decide +kernel
theorem dX4_fall_36 : decode cX4_fall 36 = .ok (.iconst 1, 1) := by decide +kernel
theorem dX4_fall_37 : decode cX4_fall 37 = .ok (.iadd, 1) := by decide +kernel
theorem dX4_fall_38 : decode cX4_fall 38 = .ok (.istore_n 1, 1) := by decide +kernel
theorem dX4_fall_39 : decode cX4_fall 39 = .ok (.iinc 2 1, 3) := by decide +kernel
theorem dX4_fall_42 : decode cX4_fall 42 = .ok (.goto (-25), 3) := by decide +kernel
theorem dX4_fall_45 : decode cX4_fall 45 = .ok (.iload_n 1, 1) := by decide +kernel
theorem dX4_fall_46 : decode cX4_fall 46 = .ok (.ireturn, 1) := by decide +kernel
set_option maxRecDepth 20000 in
theorem ggX4_place_X4_noPerson : GoodIn wsX4_place wsX4_noPerson := goodIn_r _ [6, 7, 8, 9, 5, 10, 46, 47, 48, 49, 50, 51, 52, 53, 54, 55, 56, 57, 58, 59, 60, 61, 62, 63, 64, 65, 66, 67, 68, 69, 70, 71, 72, 73, 74] (by decide +kernel) (by decide +kernel)
set_option maxRecDepth 20000 in
theorem gX4_place_X4_noPerson : GoodIn wsX4_place (wsV RX4 134 RX4 yX4_noPerson wsX4_noPerson) := goodIn_app (goodIn_of _ (by decide +kernel)) ggX4_place_X4_noPerson
set_option maxRecDepth 20000 in
theorem ggX4_place_X4_begin : GoodIn wsX4_place wsX4_begin := goodIn_r _ [14, 15, 16, 46, 47, 48, 49, 50, 51, 52, 53, 54, 55, 56, 57, 58, 59, 60, 61, 62, 63, 64, 65, 66, 67, 68, 69, 70, 71, 72, 73, 74] (by decide +kernel) (by decide +kernel)
set_option maxRecDepth 20000 in
theorem gX4_place_X4_begin : GoodIn wsX4_place (wsV RX4 153 RX4 yX4_begin wsX4_begin) := goodIn_app (goodIn_of _ (by decide +kernel)) ggX4_place_X4_begin
set_option maxRecDepth 20000 in
theorem ggX4_place_X4_layFall : GoodIn wsX4_place wsX4_layFall := goodIn_r _ [20, 21, 15, 22, 23, 24, 25, 5, 26, 7, 27, 28, 29, 30, 31, 32, 33, 34, 35, 36, 37, 38, 39, 40, 41, 46, 47, 48, 49, 50, 51, 52, 53, 54, 55, 56, 57, 58, 59, 60, 61, 62, 63, 64, 65, 66, 67, 68, 69, 70, 71, 72, 73, 74] (by decide +kernel) (by decide +kernel)
set_option maxRecDepth 20000 in
theorem gX4_place_X4_layFall : GoodIn wsX4_place (wsV RX4 156 RX4 yX4_layFall wsX4_layFall) := goodIn_app (goodIn_of _ (by decide +kernel)) ggX4_place_X4_layFall
set_option maxRecDepth 20000 in
theorem ggX4_place_X4_placeOf : GoodIn wsX4_place wsX4_placeOf := goodIn_r _ [45, 21, 22, 46, 47, 48, 49, 50, 51, 52, 53, 54, 55, 56, 57, 58, 59, 60, 61, 62, 63, 64, 65, 66, 67, 68, 69, 70, 71, 72, 73, 74] (by decide +kernel) (by decide +kernel)
set_option maxRecDepth 20000 in
theorem gX4_place_X4_placeOf : GoodIn wsX4_place (wsV RX4 159 RX4 yX4_placeOf wsX4_placeOf) := goodIn_app (goodIn_of _ (by decide +kernel)) ggX4_place_X4_placeOf
theorem dX4_place_0 : decode cX4_place 0 = .ok (.aload_n 0, 1) := by decide +kernel
theorem dX4_place_1 : decode cX4_place 1 = .ok (.iconst 0, 1) := by decide +kernel
theorem dX4_place_2 : decode cX4_place 2 = .ok (.putfield 60, 3) := by decide +kernel
theorem dX4_place_5 : decode cX4_place 5 = .ok (.aload_n 0, 1) := by decide +kernel
theorem dX4_place_6 : decode cX4_place 6 = .ok (.iload_n 1, 1) := by decide +kernel
theorem dX4_place_7 : decode cX4_place 7 = .ok (.invokevirtual 134, 3) := by decide +kernel
theorem dX4_place_10 : decode cX4_place 10 = .ok (.ifCond .eq 5, 3) := by decide +kernel
theorem dX4_place_13 : decode cX4_place 13 = .ok (.iconst (-1), 1) := by decide +kernel
theorem dX4_place_14 : decode cX4_place 14 = .ok (.ireturn, 1) := by decide +kernel
theorem dX4_place_15 : decode cX4_place 15 = .ok (.aload_n 0, 1) := by decide +kernel
theorem dX4_place_16 : decode cX4_place 16 = .ok (.invokevirtual 153, 3) := by decide +kernel
theorem dX4_place_19 : decode cX4_place 19 = .ok (.aload_n 0, 1) := by decide +kernel
theorem dX4_place_20 : decode cX4_place 20 = .ok (.invokevirtual 156, 3) := by decide +kernel
theorem dX4_place_23 : decode cX4_place 23 = .ok (.aload_n 0, 1) := by decide +kernel
theorem dX4_place_24 : decode cX4_place 24 = .ok (.iload_n 1, 1) := by decide +kernel
theorem dX4_place_25 : decode cX4_place 25 = .ok (.invokevirtual 159, 3) := by decide +kernel
theorem dX4_place_28 : decode cX4_place 28 = .ok (.ireturn, 1) := by decide +kernel
set_option maxRecDepth 20000 in
theorem ggX4_last_X4_begin : GoodIn wsX4_last wsX4_begin := goodIn_r _ [7, 2, 8, 35, 36, 37, 38, 39, 40, 41, 42, 43, 44, 45, 46, 47, 48, 49, 50, 51, 52, 53, 54, 55, 56, 57, 58, 59, 60, 61, 62, 63] (by decide +kernel) (by decide +kernel)
set_option maxRecDepth 20000 in
theorem gX4_last_X4_begin : GoodIn wsX4_last (wsV RX4 153 RX4 yX4_begin wsX4_begin) := goodIn_app (goodIn_of _ (by decide +kernel)) ggX4_last_X4_begin
set_option maxRecDepth 20000 in
theorem ggX4_last_X4_layFall : GoodIn wsX4_last wsX4_layFall := goodIn_r _ [12, 13, 2, 14, 15, 16, 17, 6, 18, 19, 20, 21, 22, 23, 24, 25, 26, 27, 28, 29, 30, 31, 32, 33, 34, 35, 36, 37, 38, 39, 40, 41, 42, 43, 44, 45, 46, 47, 48, 49, 50, 51, 52, 53, 54, 55, 56, 57, 58, 59, 60, 61, 62, 63] (by decide +kernel) (by decide +kernel)
set_option maxRecDepth 20000 in
theorem gX4_last_X4_layFall : GoodIn wsX4_last (wsV RX4 156 RX4 yX4_layFall wsX4_layFall) := goodIn_app (goodIn_of _ (by decide +kernel)) ggX4_last_X4_layFall
theorem dX4_last_0 : decode cX4_last 0 = .ok (.aload_n 0, 1) := by decide +kernel
theorem dX4_last_1 : decode cX4_last 1 = .ok (.iconst 0, 1) := by decide +kernel
theorem dX4_last_2 : decode cX4_last 2 = .ok (.putfield 60, 3) := by decide +kernel
theorem dX4_last_5 : decode cX4_last 5 = .ok (.aload_n 0, 1) := by decide +kernel
theorem dX4_last_6 : decode cX4_last 6 = .ok (.invokevirtual 153, 3) := by decide +kernel
theorem dX4_last_9 : decode cX4_last 9 = .ok (.aload_n 0, 1) := by decide +kernel
theorem dX4_last_10 : decode cX4_last 10 = .ok (.invokevirtual 156, 3) := by decide +kernel
theorem dX4_last_13 : decode cX4_last 13 = .ok (.aload_n 0, 1) := by decide +kernel
theorem dX4_last_14 : decode cX4_last 14 = .ok (.getfield 28, 3) := by decide +kernel
theorem dX4_last_17 : decode cX4_last 17 = .ok (.bipush 14, 2) := by decide +kernel
theorem dX4_last_19 : decode cX4_last 19 = .ok (.iaload, 1) := by decide +kernel
theorem dX4_last_20 : decode cX4_last 20 = .ok (.ireturn, 1) := by decide +kernel
set_option maxRecDepth 20000 in
theorem ggX4_isPair_X4_noPerson : GoodIn wsX4_isPair wsX4_noPerson := goodIn_r _ [6, 7, 8, 9, 5, 10, 14, 15, 16, 17, 18, 19, 20, 21, 22, 23, 24, 25, 26, 27, 28, 29, 30, 31, 32, 33, 34, 35, 36, 37, 38, 39, 40, 41, 42] (by decide +kernel) (by decide +kernel)
set_option maxRecDepth 20000 in
theorem gX4_isPair_X4_noPerson : GoodIn wsX4_isPair (wsV RX4 134 RX4 yX4_noPerson wsX4_noPerson) := goodIn_app (goodIn_of _ (by decide +kernel)) ggX4_isPair_X4_noPerson
set_option maxRecDepth 20000 in
theorem ggX4_isPair_X4_has : GoodIn wsX4_isPair wsX4_has := goodIn_r _ [13] (by decide +kernel) (by decide +kernel)
set_option maxRecDepth 20000 in
theorem gX4_isPair_X4_has : GoodIn wsX4_isPair (va_wsS RX4 89 yX4_has wsX4_has) := goodIn_app (goodIn_of _ (by decide +kernel)) ggX4_isPair_X4_has
theorem dX4_isPair_0 : decode cX4_isPair 0 = .ok (.iload_n 1, 1) := by decide +kernel
theorem dX4_isPair_1 : decode cX4_isPair 1 = .ok (.bipush 10, 2) := by decide +kernel
theorem dX4_isPair_3 : decode cX4_isPair 3 = .ok (.idiv, 1) := by decide +kernel
theorem dX4_isPair_4 : decode cX4_isPair 4 = .ok (.istore_n 2, 1) := by decide +kernel
theorem dX4_isPair_5 : decode cX4_isPair 5 = .ok (.iload_n 1, 1) := by decide +kernel
theorem dX4_isPair_6 : decode cX4_isPair 6 = .ok (.bipush 10, 2) := by decide +kernel
theorem dX4_isPair_8 : decode cX4_isPair 8 = .ok (.irem, 1) := by decide +kernel
theorem dX4_isPair_9 : decode cX4_isPair 9 = .ok (.istore_n 3, 1) := by decide +kernel
theorem dX4_isPair_10 : decode cX4_isPair 10 = .ok (.aload_n 0, 1) := by decide +kernel
theorem dX4_isPair_11 : decode cX4_isPair 11 = .ok (.iload_n 2, 1) := by decide +kernel
theorem dX4_isPair_12 : decode cX4_isPair 12 = .ok (.invokevirtual 134, 3) := by decide +kernel
theorem dX4_isPair_15 : decode cX4_isPair 15 = .ok (.ifCond .ne 36, 3) := by decide +kernel
theorem dX4_isPair_18 : decode cX4_isPair 18 = .ok (.aload_n 0, 1) := by decide +kernel
theorem dX4_isPair_19 : decode cX4_isPair 19 = .ok (.iload_n 3, 1) := by decide +kernel
theorem dX4_isPair_20 : decode cX4_isPair 20 = .ok (.invokevirtual 134, 3) := by decide +kernel
theorem dX4_isPair_23 : decode cX4_isPair 23 = .ok (.ifCond .ne 28, 3) := by decide +kernel
theorem dX4_isPair_26 : decode cX4_isPair 26 = .ok (.iload_n 2, 1) := by decide +kernel
theorem dX4_isPair_27 : decode cX4_isPair 27 = .ok (.iload_n 3, 1) := by decide +kernel
theorem dX4_isPair_28 : decode cX4_isPair 28 = .ok (.if_icmp .eq 23, 3) := by decide +kernel
theorem dX4_isPair_31 : decode cX4_isPair 31 = .ok (.aload_n 0, 1) := by decide +kernel
theorem dX4_isPair_32 : decode cX4_isPair 32 = .ok (.getfield 25, 3) := by decide +kernel
theorem dX4_isPair_35 : decode cX4_isPair 35 = .ok (.bipush 7, 2) := by decide +kernel
theorem dX4_isPair_37 : decode cX4_isPair 37 = .ok (.iload_n 2, 1) := by decide +kernel
theorem dX4_isPair_38 : decode cX4_isPair 38 = .ok (.iadd, 1) := by decide +kernel
theorem dX4_isPair_39 : decode cX4_isPair 39 = .ok (.iaload, 1) := by decide +kernel
theorem dX4_isPair_40 : decode cX4_isPair 40 = .ok (.iload_n 3, 1) := by decide +kernel
theorem dX4_isPair_41 : decode cX4_isPair 41 = .ok (.invokestatic 89, 3) := by decide +kernel
theorem dX4_isPair_44 : decode cX4_isPair 44 = .ok (.ifCond .ne 7, 3) := by decide +kernel
theorem dX4_isPair_47 : decode cX4_isPair 47 = .ok (.iconst 1, 1) := by decide +kernel
theorem dX4_isPair_48 : decode cX4_isPair 48 = .ok (.goto 4, 3) := by decide +kernel
theorem dX4_isPair_51 : decode cX4_isPair 51 = .ok (.iconst 0, 1) := by decide +kernel
theorem dX4_isPair_52 : decode cX4_isPair 52 = .ok (.ireturn, 1) := by decide +kernel
set_option maxRecDepth 20000 in
theorem ggX4_isSafe_X4_begin : GoodIn wsX4_isSafe wsX4_begin := goodIn_r _ [6, 1, 7, 38, 39, 40, 41, 42, 43, 44, 45, 46, 47, 48, 49, 50, 51, 52, 53, 54, 55, 56, 57, 58, 59, 60, 61, 62, 63, 64, 65, 66] (by decide +kernel) (by decide +kernel)
set_option maxRecDepth 20000 in
theorem gX4_isSafe_X4_begin : GoodIn wsX4_isSafe (wsV RX4 153 RX4 yX4_begin wsX4_begin) := goodIn_app (goodIn_of _ (by decide +kernel)) ggX4_isSafe_X4_begin
set_option maxRecDepth 20000 in
theorem ggX4_isSafe_X4_layFall : GoodIn wsX4_isSafe wsX4_layFall := goodIn_r _ [11, 12, 1, 13, 14, 15, 16, 5, 17, 18, 19, 20, 21, 22, 23, 24, 25, 26, 27, 28, 29, 30, 31, 32, 33, 38, 39, 40, 41, 42, 43, 44, 45, 46, 47, 48, 49, 50, 51, 52, 53, 54, 55, 56, 57, 58, 59, 60, 61, 62, 63, 64, 65, 66] (by decide +kernel) (by decide +kernel)
set_option maxRecDepth 20000 in
theorem gX4_isSafe_X4_layFall : GoodIn wsX4_isSafe (wsV RX4 156 RX4 yX4_layFall wsX4_layFall) := goodIn_app (goodIn_of _ (by decide +kernel)) ggX4_isSafe_X4_layFall
set_option maxRecDepth 20000 in
theorem ggX4_isSafe_X4_placeOf : GoodIn wsX4_isSafe wsX4_placeOf := goodIn_r _ [37, 12, 13, 38, 39, 40, 41, 42, 43, 44, 45, 46, 47, 48, 49, 50, 51, 52, 53, 54, 55, 56, 57, 58, 59, 60, 61, 62, 63, 64, 65, 66] (by decide +kernel) (by decide +kernel)
set_option maxRecDepth 20000 in
theorem gX4_isSafe_X4_placeOf : GoodIn wsX4_isSafe (wsV RX4 159 RX4 yX4_placeOf wsX4_placeOf) := goodIn_app (goodIn_of _ (by decide +kernel)) ggX4_isSafe_X4_placeOf
theorem dX4_isSafe_0 : decode cX4_isSafe 0 = .ok (.aload_n 0, 1) := by decide +kernel
theorem dX4_isSafe_1 : decode cX4_isSafe 1 = .ok (.invokevirtual 153, 3) := by decide +kernel
theorem dX4_isSafe_4 : decode cX4_isSafe 4 = .ok (.iload_n 2, 1) := by decide +kernel
theorem dX4_isSafe_5 : decode cX4_isSafe 5 = .ok (.bipush (-9), 2) := by decide +kernel
theorem dX4_isSafe_7 : decode cX4_isSafe 7 = .ok (.if_icmp .eq 24, 3) := by decide +kernel
theorem dX4_isSafe_10 : decode cX4_isSafe 10 = .ok (.aload_n 0, 1) := by decide +kernel
theorem dX4_isSafe_11 : decode cX4_isSafe 11 = .ok (.getfield 28, 3) := by decide +kernel
theorem dX4_isSafe_14 : decode cX4_isSafe 14 = .ok (.bipush 7, 2) := by decide +kernel
theorem dX4_isSafe_16 : decode cX4_isSafe 16 = .ok (.iload_n 2, 1) := by decide +kernel
theorem dX4_isSafe_17 : decode cX4_isSafe 17 = .ok (.bipush 10, 2) := by decide +kernel
theorem dX4_isSafe_19 : decode cX4_isSafe 19 = .ok (.idiv, 1) := by decide +kernel
theorem dX4_isSafe_20 : decode cX4_isSafe 20 = .ok (.iadd, 1) := by decide +kernel
theorem dX4_isSafe_21 : decode cX4_isSafe 21 = .ok (.dup2, 1) := by decide +kernel
theorem dX4_isSafe_22 : decode cX4_isSafe 22 = .ok (.iaload, 1) := by decide +kernel
theorem dX4_isSafe_23 : decode cX4_isSafe 23 = .ok (.iconst 1, 1) := by decide +kernel
theorem dX4_isSafe_24 : decode cX4_isSafe 24 = .ok (.iload_n 2, 1) := by decide +kernel
theorem dX4_isSafe_25 : decode cX4_isSafe 25 = .ok (.bipush 10, 2) := by decide +kernel
theorem dX4_isSafe_27 : decode cX4_isSafe 27 = .ok (.irem, 1) := by decide +kernel
theorem dX4_isSafe_28 : decode cX4_isSafe 28 = .ok (.ishl, 1) := by decide +kernel
theorem dX4_isSafe_29 : decode cX4_isSafe 29 = .ok (.ior, 1) := by decide +kernel
theorem dX4_isSafe_30 : decode cX4_isSafe 30 = .ok (.iastore, 1) := by decide +kernel
theorem dX4_isSafe_31 : decode cX4_isSafe 31 = .ok (.iload_n 3, 1) := by decide +kernel
theorem dX4_isSafe_32 : decode cX4_isSafe 32 = .ok (.bipush (-9), 2) := by decide +kernel
theorem dX4_isSafe_34 : decode cX4_isSafe 34 = .ok (.if_icmp .eq 24, 3) := by decide +kernel
theorem dX4_isSafe_37 : decode cX4_isSafe 37 = .ok (.aload_n 0, 1) := by decide +kernel
theorem dX4_isSafe_38 : decode cX4_isSafe 38 = .ok (.getfield 28, 3) := by decide +kernel
theorem dX4_isSafe_41 : decode cX4_isSafe 41 = .ok (.bipush 7, 2) := by decide +kernel
theorem dX4_isSafe_43 : decode cX4_isSafe 43 = .ok (.iload_n 3, 1) := by decide +kernel
theorem dX4_isSafe_44 : decode cX4_isSafe 44 = .ok (.bipush 10, 2) := by decide +kernel
theorem dX4_isSafe_46 : decode cX4_isSafe 46 = .ok (.idiv, 1) := by decide +kernel
theorem dX4_isSafe_47 : decode cX4_isSafe 47 = .ok (.iadd, 1) := by decide +kernel
theorem dX4_isSafe_48 : decode cX4_isSafe 48 = .ok (.dup2, 1) := by decide +kernel
theorem dX4_isSafe_49 : decode cX4_isSafe 49 = .ok (.iaload, 1) := by decide +kernel
theorem dX4_isSafe_50 : decode cX4_isSafe 50 = .ok (.iconst 1, 1) := by decide +kernel
theorem dX4_isSafe_51 : decode cX4_isSafe 51 = .ok (.iload_n 3, 1) := by decide +kernel
theorem dX4_isSafe_52 : decode cX4_isSafe 52 = .ok (.bipush 10, 2) := by decide +kernel
theorem dX4_isSafe_54 : decode cX4_isSafe 54 = .ok (.irem, 1) := by decide +kernel
theorem dX4_isSafe_55 : decode cX4_isSafe 55 = .ok (.ishl, 1) := by decide +kernel
theorem dX4_isSafe_56 : decode cX4_isSafe 56 = .ok (.ior, 1) := by decide +kernel
theorem dX4_isSafe_57 : decode cX4_isSafe 57 = .ok (.iastore, 1) := by decide +kernel
theorem dX4_isSafe_58 : decode cX4_isSafe 58 = .ok (.aload_n 0, 1) := by decide +kernel
theorem dX4_isSafe_59 : decode cX4_isSafe 59 = .ok (.invokevirtual 156, 3) := by decide +kernel
theorem dX4_isSafe_62 : decode cX4_isSafe 62 = .ok (.aload_n 0, 1) := by decide +kernel
theorem dX4_isSafe_63 : decode cX4_isSafe 63 = .ok (.iload_n 1, 1) := by decide +kernel
theorem dX4_isSafe_64 : decode cX4_isSafe 64 = .ok (.invokevirtual 159, 3) := by decide +kernel
theorem dX4_isSafe_67 : decode cX4_isSafe 67 = .ok (.bipush (-9), 2) := by decide +kernel
theorem dX4_isSafe_69 : decode cX4_isSafe 69 = .ok (.if_icmp .ne 7, 3) := by decide +kernel
theorem dX4_isSafe_72 : decode cX4_isSafe 72 = .ok (.iconst 1, 1) := by decide +kernel
theorem dX4_isSafe_73 : decode cX4_isSafe 73 = .ok (.goto 4, 3) := by decide +kernel
theorem dX4_isSafe_76 : decode cX4_isSafe 76 = .ok (.iconst 0, 1) := by decide +kernel
theorem dX4_isSafe_77 : decode cX4_isSafe 77 = .ok (.ireturn, 1) := by decide +kernel
set_option maxRecDepth 20000 in
theorem ggX4_findFeed_X4_isSafe : GoodIn wsX4_findFeed wsX4_isSafe := goodIn_r _ [7, 8, 9, 10, 11, 6, 12, 13, 14, 15, 16, 17, 18, 19, 20, 21, 22, 23, 24, 25, 26, 27, 28, 29, 30, 31, 32, 33, 34, 35, 36, 37, 38, 39, 40, 41, 42, 43, 55, 56, 57, 58, 59, 60, 61, 62, 63, 64, 65, 66, 67, 68, 69, 70, 71, 72, 73, 74, 75, 76, 77, 78, 79, 80, 81, 82, 83] (by decide +kernel) (by decide +kernel)
set_option maxRecDepth 20000 in
theorem gX4_findFeed_X4_isSafe : GoodIn wsX4_findFeed (wsV RX4 168 RX4 yX4_isSafe wsX4_isSafe) := goodIn_app (goodIn_of _ (by decide +kernel)) ggX4_findFeed_X4_isSafe
set_option maxRecDepth 20000 in
theorem ggX4_findFeed_X4_isPair : GoodIn wsX4_findFeed wsX4_isPair := goodIn_r _ [47, 13, 48, 49, 50, 6, 51, 24, 52, 53, 54, 25, 26, 27, 55, 56, 57, 58, 59, 60, 61, 62, 63, 64, 65, 66, 67, 68, 69, 70, 71, 72, 73, 74, 75, 76, 77, 78, 79, 80, 81, 82, 83] (by decide +kernel) (by decide +kernel)
set_option maxRecDepth 20000 in
theorem gX4_findFeed_X4_isPair : GoodIn wsX4_findFeed (wsV RX4 172 RX4 yX4_isPair wsX4_isPair) := goodIn_app (goodIn_of _ (by decide +kernel)) ggX4_findFeed_X4_isPair
theorem dX4_findFeed_0 : decode cX4_findFeed 0 = .ok (.aload_n 0, 1) := by decide +kernel
theorem dX4_findFeed_1 : decode cX4_findFeed 1 = .ok (.bipush (-9), 2) := by decide +kernel
theorem dX4_findFeed_3 : decode cX4_findFeed 3 = .ok (.putfield 162, 3) := by decide +kernel
theorem dX4_findFeed_6 : decode cX4_findFeed 6 = .ok (.aload_n 0, 1) := by decide +kernel
theorem dX4_findFeed_7 : decode cX4_findFeed 7 = .ok (.bipush (-9), 2) := by decide +kernel
theorem dX4_findFeed_9 : decode cX4_findFeed 9 = .ok (.putfield 165, 3) := by decide +kernel
theorem dX4_findFeed_12 : decode cX4_findFeed 12 = .ok (.aload_n 0, 1) := by decide +kernel
theorem dX4_findFeed_13 : decode cX4_findFeed 13 = .ok (.iload_n 1, 1) := by decide +kernel
theorem dX4_findFeed_14 : decode cX4_findFeed 14 = .ok (.bipush (-9), 2) := by decide +kernel
theorem dX4_findFeed_16 : decode cX4_findFeed 16 = .ok (.bipush (-9), 2) := by decide +kernel
theorem dX4_findFeed_18 : decode cX4_findFeed 18 = .ok (.invokevirtual 168, 3) := by decide +kernel
theorem dX4_findFeed_21 : decode cX4_findFeed 21 = .ok (.ifCond .eq 13, 3) := by decide +kernel
theorem dX4_findFeed_24 : decode cX4_findFeed 24 = .ok (.aload_n 0, 1) := by decide +kernel
theorem dX4_findFeed_25 : decode cX4_findFeed 25 = .ok (.iconst 0, 1) := by decide +kernel
theorem dX4_findFeed_26 : decode cX4_findFeed 26 = .ok (.putfield 162, 3) := by decide +kernel
theorem dX4_findFeed_29 : decode cX4_findFeed 29 = .ok (.aload_n 0, 1) := by decide +kernel
theorem dX4_findFeed_30 : decode cX4_findFeed 30 = .ok (.iconst 0, 1) := by decide +kernel
theorem dX4_findFeed_31 : decode cX4_findFeed 31 = .ok (.putfield 165, 3) := by decide +kernel
theorem dX4_findFeed_34 : decode cX4_findFeed 34 = .ok (.iconst 0, 1) := by decide +kernel
theorem dX4_findFeed_35 : decode cX4_findFeed 35 = .ok (.istore_n 2, 1) := by decide +kernel
theorem dX4_findFeed_36 : decode cX4_findFeed 36 = .ok (.iload_n 2, 1) := by decide +kernel
theorem dX4_findFeed_37 : decode cX4_findFeed 37 = .ok (.bipush 67, 2) := by decide +kernel
theorem dX4_findFeed_39 : decode cX4_findFeed 39 = .ok (.if_icmp .ge 47, 3) := by decide +kernel
theorem dX4_findFeed_42 : decode cX4_findFeed 42 = .ok (.aload_n 0, 1) := by decide +kernel
theorem dX4_findFeed_43 : decode cX4_findFeed 43 = .ok (.getfield 162, 3) := by decide +kernel
theorem dX4_findFeed_46 : decode cX4_findFeed 46 = .ok (.bipush (-9), 2) := by decide +kernel
theorem dX4_findFeed_48 : decode cX4_findFeed 48 = .ok (.if_icmp .ne 38, 3) := by decide +kernel
theorem dX4_findFeed_51 : decode cX4_findFeed 51 = .ok (.aload_n 0, 1) := by decide +kernel
theorem dX4_findFeed_52 : decode cX4_findFeed 52 = .ok (.iload_n 2, 1) := by decide +kernel
theorem dX4_findFeed_53 : decode cX4_findFeed 53 = .ok (.invokevirtual 172, 3) := by decide +kernel
theorem dX4_findFeed_56 : decode cX4_findFeed 56 = .ok (.ifCond .eq 24, 3) := by decide +kernel
theorem dX4_findFeed_59 : decode cX4_findFeed 59 = .ok (.aload_n 0, 1) := by decide +kernel
theorem dX4_findFeed_60 : decode cX4_findFeed 60 = .ok (.iload_n 1, 1) := by decide +kernel
theorem dX4_findFeed_61 : decode cX4_findFeed 61 = .ok (.iload_n 2, 1) := by decide +kernel
theorem dX4_findFeed_62 : decode cX4_findFeed 62 = .ok (.bipush (-9), 2) := by decide +kernel
theorem dX4_findFeed_64 : decode cX4_findFeed 64 = .ok (.invokevirtual 168, 3) := by decide +kernel
theorem dX4_findFeed_67 : decode cX4_findFeed 67 = .ok (.ifCond .eq 13, 3) := by decide +kernel
theorem dX4_findFeed_70 : decode cX4_findFeed 70 = .ok (.aload_n 0, 1) := by decide +kernel
theorem dX4_findFeed_71 : decode cX4_findFeed 71 = .ok (.iconst 1, 1) := by decide +kernel
theorem dX4_findFeed_72 : decode cX4_findFeed 72 = .ok (.putfield 162, 3) := by decide +kernel
theorem dX4_findFeed_75 : decode cX4_findFeed 75 = .ok (.aload_n 0, 1) := by decide +kernel
theorem dX4_findFeed_76 : decode cX4_findFeed 76 = .ok (.iload_n 2, 1) := by decide +kernel
theorem dX4_findFeed_77 : decode cX4_findFeed 77 = .ok (.putfield 165, 3) := by decide +kernel
theorem dX4_findFeed_80 : decode cX4_findFeed 80 = .ok (.iinc 2 1, 3) := by decide +kernel
theorem dX4_findFeed_83 : decode cX4_findFeed 83 = .ok (.goto (-47), 3) := by decide +kernel
theorem dX4_findFeed_86 : decode cX4_findFeed 86 = .ok (.iconst 0, 1) := by decide +kernel
theorem dX4_findFeed_87 : decode cX4_findFeed 87 = .ok (.istore_n 2, 1) := by decide +kernel
theorem dX4_findFeed_88 : decode cX4_findFeed 88 = .ok (.iload_n 2, 1) := by decide +kernel
theorem dX4_findFeed_89 : decode cX4_findFeed 89 = .ok (.sipush 6700, 3) := by decide +kernel
theorem dX4_findFeed_92 : decode cX4_findFeed 92 = .ok (.if_icmp .ge 73, 3) := by decide +kernel
theorem dX4_findFeed_95 : decode cX4_findFeed 95 = .ok (.aload_n 0, 1) := by decide +kernel
theorem dX4_findFeed_96 : decode cX4_findFeed 96 = .ok (.getfield 162, 3) := by decide +kernel
theorem dX4_findFeed_99 : decode cX4_findFeed 99 = .ok (.bipush (-9), 2) := by decide +kernel
theorem dX4_findFeed_101 : decode cX4_findFeed 101 = .ok (.if_icmp .ne 64, 3) := by decide +kernel
theorem dX4_findFeed_104 : decode cX4_findFeed 104 = .ok (.iload_n 2, 1) := by decide +kernel
theorem dX4_findFeed_105 : decode cX4_findFeed 105 = .ok (.bipush 100, 2) := by decide +kernel
theorem dX4_findFeed_107 : decode cX4_findFeed 107 = .ok (.idiv, 1) := by decide +kernel
theorem dX4_findFeed_108 : decode cX4_findFeed 108 = .ok (.istore_n 3, 1) := by decide +kernel
theorem dX4_findFeed_109 : decode cX4_findFeed 109 = .ok (.iload_n 2, 1) := by decide +kernel
theorem dX4_findFeed_110 : decode cX4_findFeed 110 = .ok (.bipush 100, 2) := by decide +kernel
theorem dX4_findFeed_112 : decode cX4_findFeed 112 = .ok (.irem, 1) := by decide +kernel
theorem dX4_findFeed_113 : decode cX4_findFeed 113 = .ok (.istore 4, 2) := by decide +kernel
theorem dX4_findFeed_115 : decode cX4_findFeed 115 = .ok (.iload_n 3, 1) := by decide +kernel
theorem dX4_findFeed_116 : decode cX4_findFeed 116 = .ok (.iload 4, 2) := by decide +kernel
theorem dX4_findFeed_118 : decode cX4_findFeed 118 = .ok (.if_icmp .eq 41, 3) := by decide +kernel
theorem dX4_findFeed_121 : decode cX4_findFeed 121 = .ok (.aload_n 0, 1) := by decide +kernel
theorem dX4_findFeed_122 : decode cX4_findFeed 122 = .ok (.iload_n 3, 1) := by decide +kernel
theorem dX4_findFeed_123 : decode cX4_findFeed 123 = .ok (.invokevirtual 172, 3) := by decide +kernel
theorem dX4_findFeed_126 : decode cX4_findFeed 126 = .ok (.ifCond .eq 33, 3) := by decide +kernel
theorem dX4_findFeed_129 : decode cX4_findFeed 129 = .ok (.aload_n 0, 1) := by decide +kernel
theorem dX4_findFeed_130 : decode cX4_findFeed 130 = .ok (.iload 4, 2) := by decide +kernel
theorem dX4_findFeed_132 : decode cX4_findFeed 132 = .ok (.invokevirtual 172, 3) := by decide +kernel
theorem dX4_findFeed_135 : decode cX4_findFeed 135 = .ok (.ifCond .eq 24, 3) := by decide +kernel
theorem dX4_findFeed_138 : decode cX4_findFeed 138 = .ok (.aload_n 0, 1) := by decide +kernel
theorem dX4_findFeed_139 : decode cX4_findFeed 139 = .ok (.iload_n 1, 1) := by decide +kernel
theorem dX4_findFeed_140 : decode cX4_findFeed 140 = .ok (.iload_n 3, 1) := by decide +kernel
theorem dX4_findFeed_141 : decode cX4_findFeed 141 = .ok (.iload 4, 2) := by decide +kernel
theorem dX4_findFeed_143 : decode cX4_findFeed 143 = .ok (.invokevirtual 168, 3) := by decide +kernel
theorem dX4_findFeed_146 : decode cX4_findFeed 146 = .ok (.ifCond .eq 13, 3) := by decide +kernel
theorem dX4_findFeed_149 : decode cX4_findFeed 149 = .ok (.aload_n 0, 1) := by decide +kernel
theorem dX4_findFeed_150 : decode cX4_findFeed 150 = .ok (.iconst 2, 1) := by decide +kernel
theorem dX4_findFeed_151 : decode cX4_findFeed 151 = .ok (.putfield 162, 3) := by decide +kernel
theorem dX4_findFeed_154 : decode cX4_findFeed 154 = .ok (.aload_n 0, 1) := by decide +kernel
theorem dX4_findFeed_155 : decode cX4_findFeed 155 = .ok (.iload_n 2, 1) := by decide +kernel
theorem dX4_findFeed_156 : decode cX4_findFeed 156 = .ok (.putfield 165, 3) := by decide +kernel
theorem dX4_findFeed_159 : decode cX4_findFeed 159 = .ok (.iinc 2 1, 3) := by decide +kernel
theorem dX4_findFeed_162 : decode cX4_findFeed 162 = .ok (.goto (-74), 3) := by decide +kernel
theorem dX4_findFeed_165 : decode cX4_findFeed 165 = .ok (.return_, 1) := by decide +kernel
set_option maxRecDepth 20000 in
theorem ggX4_toFeed_X4_noPerson : GoodIn wsX4_toFeed wsX4_noPerson := goodIn_r _ [8, 9, 10, 11, 7, 12, 60, 61, 62, 63, 64, 65, 66, 67, 68, 69, 70, 71, 72, 73, 74, 75, 76, 77, 78, 79, 80, 81, 82, 83, 84, 85, 86, 87, 88] (by decide +kernel) (by decide +kernel)
set_option maxRecDepth 20000 in
theorem gX4_toFeed_X4_noPerson : GoodIn wsX4_toFeed (wsV RX4 134 RX4 yX4_noPerson wsX4_noPerson) := goodIn_app (goodIn_of _ (by decide +kernel)) ggX4_toFeed_X4_noPerson
set_option maxRecDepth 20000 in
theorem ggX4_toFeed_X4_in : GoodIn wsX4_toFeed wsX4_in := goodIn_r _ [12] (by decide +kernel) (by decide +kernel)
set_option maxRecDepth 20000 in
theorem gX4_toFeed_X4_in : GoodIn wsX4_toFeed (va_wsS RX4 67 yX4_in wsX4_in) := goodIn_app (goodIn_of _ (by decide +kernel)) ggX4_toFeed_X4_in
set_option maxRecDepth 20000 in
theorem ggX4_toFeed_X4_findFeed : GoodIn wsX4_toFeed wsX4_findFeed := goodIn_r _ [16, 2, 3, 17, 18, 19, 7, 20, 21, 22, 23, 24, 25, 26, 27, 28, 29, 30, 31, 32, 33, 34, 35, 36, 9, 37, 38, 39, 40, 41, 42, 43, 44, 45, 46, 47, 48, 49, 50, 51, 52, 53, 54, 55, 56, 57, 58, 59, 4, 5, 6, 8, 10, 11, 12, 60, 61, 62, 63, 64, 65, 66, 67, 68, 69, 70, 71, 72, 73, 74, 75, 76, 77, 78, 79, 80, 81, 82, 83, 84, 85, 86, 87, 88] (by decide +kernel) (by decide +kernel)
set_option maxRecDepth 20000 in
theorem gX4_toFeed_X4_findFeed : GoodIn wsX4_toFeed (wsV RX4 175 RX4 yX4_findFeed wsX4_findFeed) := goodIn_app (goodIn_of _ (by decide +kernel)) ggX4_toFeed_X4_findFeed
theorem dX4_toFeed_0 : decode cX4_toFeed 0 = .ok (.aload_n 0, 1) := by decide +kernel
theorem dX4_toFeed_1 : decode cX4_toFeed 1 = .ok (.iconst 0, 1) := by decide +kernel
theorem dX4_toFeed_2 : decode cX4_toFeed 2 = .ok (.putfield 60, 3) := by decide +kernel
theorem dX4_toFeed_5 : decode cX4_toFeed 5 = .ok (.aload_n 0, 1) := by decide +kernel
theorem dX4_toFeed_6 : decode cX4_toFeed 6 = .ok (.iload_n 1, 1) := by decide +kernel
theorem dX4_toFeed_7 : decode cX4_toFeed 7 = .ok (.invokevirtual 134, 3) := by decide +kernel
theorem dX4_toFeed_10 : decode cX4_toFeed 10 = .ok (.ifCond .eq 5, 3) := by decide +kernel
theorem dX4_toFeed_13 : decode cX4_toFeed 13 = .ok (.iconst (-1), 1) := by decide +kernel
theorem dX4_toFeed_14 : decode cX4_toFeed 14 = .ok (.ireturn, 1) := by decide +kernel
theorem dX4_toFeed_15 : decode cX4_toFeed 15 = .ok (.iload_n 2, 1) := by decide +kernel
theorem dX4_toFeed_16 : decode cX4_toFeed 16 = .ok (.i2l, 1) := by decide +kernel
theorem dX4_toFeed_17 : decode cX4_toFeed 17 = .ok (.lconst 0, 1) := by decide +kernel
theorem dX4_toFeed_18 : decode cX4_toFeed 18 = .ok (.lconst 1, 1) := by decide +kernel
theorem dX4_toFeed_19 : decode cX4_toFeed 19 = .ok (.invokestatic 67, 3) := by decide +kernel
theorem dX4_toFeed_22 : decode cX4_toFeed 22 = .ok (.ifCond .ne 6, 3) := by decide +kernel
theorem dX4_toFeed_25 : decode cX4_toFeed 25 = .ok (.bipush (-2), 2) := by decide +kernel
theorem dX4_toFeed_27 : decode cX4_toFeed 27 = .ok (.ireturn, 1) := by decide +kernel
theorem dX4_toFeed_28 : decode cX4_toFeed 28 = .ok (.aload_n 0, 1) := by decide +kernel
theorem dX4_toFeed_29 : decode cX4_toFeed 29 = .ok (.iload_n 1, 1) := by decide +kernel
theorem dX4_toFeed_30 : decode cX4_toFeed 30 = .ok (.invokevirtual 175, 3) := by decide +kernel
theorem dX4_toFeed_33 : decode cX4_toFeed 33 = .ok (.iload_n 2, 1) := by decide +kernel
theorem dX4_toFeed_34 : decode cX4_toFeed 34 = .ok (.ifCond .ne 10, 3) := by decide +kernel
theorem dX4_toFeed_37 : decode cX4_toFeed 37 = .ok (.aload_n 0, 1) := by decide +kernel
theorem dX4_toFeed_38 : decode cX4_toFeed 38 = .ok (.getfield 162, 3) := by decide +kernel
theorem dX4_toFeed_41 : decode cX4_toFeed 41 = .ok (.goto 7, 3) := by decide +kernel
theorem dX4_toFeed_44 : decode cX4_toFeed 44 = .ok (.aload_n 0, 1) := by decide +kernel
theorem dX4_toFeed_45 : decode cX4_toFeed 45 = .ok (.getfield 165, 3) := by decide +kernel
theorem dX4_toFeed_48 : decode cX4_toFeed 48 = .ok (.ireturn, 1) := by decide +kernel
set_option maxRecDepth 20000 in
theorem ggX4_giveUp_X4_noPerson : GoodIn wsX4_giveUp wsX4_noPerson := goodIn_r _ [8, 9, 10, 11, 7, 12, 49, 50, 51, 52, 53, 54, 55, 56, 57, 58, 59, 60, 61, 62, 63, 64, 65, 66, 67, 68, 69, 70, 71, 72, 73, 74, 75, 76, 77] (by decide +kernel) (by decide +kernel)
set_option maxRecDepth 20000 in
theorem gX4_giveUp_X4_noPerson : GoodIn wsX4_giveUp (wsV RX4 134 RX4 yX4_noPerson wsX4_noPerson) := goodIn_app (goodIn_of _ (by decide +kernel)) ggX4_giveUp_X4_noPerson
set_option maxRecDepth 20000 in
theorem ggX4_giveUp_X4_has : GoodIn wsX4_giveUp wsX4_has := goodIn_r _ [15] (by decide +kernel) (by decide +kernel)
set_option maxRecDepth 20000 in
theorem gX4_giveUp_X4_has : GoodIn wsX4_giveUp (va_wsS RX4 89 yX4_has wsX4_has) := goodIn_app (goodIn_of _ (by decide +kernel)) ggX4_giveUp_X4_has
set_option maxRecDepth 20000 in
theorem ggX4_giveUp_X4_many : GoodIn wsX4_giveUp wsX4_many := goodIn_r _ [18] (by decide +kernel) (by decide +kernel)
set_option maxRecDepth 20000 in
theorem gX4_giveUp_X4_many : GoodIn wsX4_giveUp (va_wsS RX4 141 yX4_many wsX4_many) := goodIn_app (goodIn_of _ (by decide +kernel)) ggX4_giveUp_X4_many
set_option maxRecDepth 20000 in
theorem ggX4_giveUp_X4_begin : GoodIn wsX4_giveUp wsX4_begin := goodIn_r _ [22, 3, 2, 49, 50, 51, 52, 53, 54, 55, 56, 57, 58, 59, 60, 61, 62, 63, 64, 65, 66, 67, 68, 69, 70, 71, 72, 73, 74, 75, 76, 77] (by decide +kernel) (by decide +kernel)
set_option maxRecDepth 20000 in
theorem gX4_giveUp_X4_begin : GoodIn wsX4_giveUp (wsV RX4 153 RX4 yX4_begin wsX4_begin) := goodIn_app (goodIn_of _ (by decide +kernel)) ggX4_giveUp_X4_begin
set_option maxRecDepth 20000 in
theorem ggX4_giveUp_X4_layFall : GoodIn wsX4_giveUp wsX4_layFall := goodIn_r _ [26, 27, 3, 28, 29, 30, 31, 7, 32, 9, 13, 14, 15, 33, 34, 35, 36, 37, 38, 39, 40, 41, 42, 43, 44, 49, 50, 51, 52, 53, 54, 55, 56, 57, 58, 59, 60, 61, 62, 63, 64, 65, 66, 67, 68, 69, 70, 71, 72, 73, 74, 75, 76, 77] (by decide +kernel) (by decide +kernel)
set_option maxRecDepth 20000 in
theorem gX4_giveUp_X4_layFall : GoodIn wsX4_giveUp (wsV RX4 156 RX4 yX4_layFall wsX4_layFall) := goodIn_app (goodIn_of _ (by decide +kernel)) ggX4_giveUp_X4_layFall
set_option maxRecDepth 20000 in
theorem ggX4_giveUp_X4_placeOf : GoodIn wsX4_giveUp wsX4_placeOf := goodIn_r _ [48, 27, 28, 49, 50, 51, 52, 53, 54, 55, 56, 57, 58, 59, 60, 61, 62, 63, 64, 65, 66, 67, 68, 69, 70, 71, 72, 73, 74, 75, 76, 77] (by decide +kernel) (by decide +kernel)
set_option maxRecDepth 20000 in
theorem gX4_giveUp_X4_placeOf : GoodIn wsX4_giveUp (wsV RX4 159 RX4 yX4_placeOf wsX4_placeOf) := goodIn_app (goodIn_of _ (by decide +kernel)) ggX4_giveUp_X4_placeOf
theorem dX4_giveUp_0 : decode cX4_giveUp 0 = .ok (.aload_n 0, 1) := by decide +kernel
theorem dX4_giveUp_1 : decode cX4_giveUp 1 = .ok (.iconst 0, 1) := by decide +kernel
theorem dX4_giveUp_2 : decode cX4_giveUp 2 = .ok (.putfield 60, 3) := by decide +kernel
theorem dX4_giveUp_5 : decode cX4_giveUp 5 = .ok (.aload_n 0, 1) := by decide +kernel
theorem dX4_giveUp_6 : decode cX4_giveUp 6 = .ok (.iload_n 1, 1) := by decide +kernel
theorem dX4_giveUp_7 : decode cX4_giveUp 7 = .ok (.invokevirtual 134, 3) := by decide +kernel
theorem dX4_giveUp_10 : decode cX4_giveUp 10 = .ok (.ifCond .eq 5, 3) := by decide +kernel
theorem dX4_giveUp_13 : decode cX4_giveUp 13 = .ok (.iconst (-1), 1) := by decide +kernel
theorem dX4_giveUp_14 : decode cX4_giveUp 14 = .ok (.ireturn, 1) := by decide +kernel
theorem dX4_giveUp_15 : decode cX4_giveUp 15 = .ok (.aload_n 0, 1) := by decide +kernel
theorem dX4_giveUp_16 : decode cX4_giveUp 16 = .ok (.getfield 25, 3) := by decide +kernel
theorem dX4_giveUp_19 : decode cX4_giveUp 19 = .ok (.bipush 14, 2) := by decide +kernel
theorem dX4_giveUp_21 : decode cX4_giveUp 21 = .ok (.iaload, 1) := by decide +kernel
theorem dX4_giveUp_22 : decode cX4_giveUp 22 = .ok (.iload_n 1, 1) := by decide +kernel
theorem dX4_giveUp_23 : decode cX4_giveUp 23 = .ok (.invokestatic 89, 3) := by decide +kernel
theorem dX4_giveUp_26 : decode cX4_giveUp 26 = .ok (.ifCond .ne 6, 3) := by decide +kernel
theorem dX4_giveUp_29 : decode cX4_giveUp 29 = .ok (.bipush (-3), 2) := by decide +kernel
theorem dX4_giveUp_31 : decode cX4_giveUp 31 = .ok (.ireturn, 1) := by decide +kernel
theorem dX4_giveUp_32 : decode cX4_giveUp 32 = .ok (.aload_n 0, 1) := by decide +kernel
theorem dX4_giveUp_33 : decode cX4_giveUp 33 = .ok (.getfield 25, 3) := by decide +kernel
theorem dX4_giveUp_36 : decode cX4_giveUp 36 = .ok (.bipush 14, 2) := by decide +kernel
theorem dX4_giveUp_38 : decode cX4_giveUp 38 = .ok (.iaload, 1) := by decide +kernel
theorem dX4_giveUp_39 : decode cX4_giveUp 39 = .ok (.iconst 1, 1) := by decide +kernel
theorem dX4_giveUp_40 : decode cX4_giveUp 40 = .ok (.iload_n 1, 1) := by decide +kernel
theorem dX4_giveUp_41 : decode cX4_giveUp 41 = .ok (.ishl, 1) := by decide +kernel
theorem dX4_giveUp_42 : decode cX4_giveUp 42 = .ok (.iconst (-1), 1) := by decide +kernel
theorem dX4_giveUp_43 : decode cX4_giveUp 43 = .ok (.ixor, 1) := by decide +kernel
theorem dX4_giveUp_44 : decode cX4_giveUp 44 = .ok (.iand, 1) := by decide +kernel
theorem dX4_giveUp_45 : decode cX4_giveUp 45 = .ok (.istore_n 2, 1) := by decide +kernel
theorem dX4_giveUp_46 : decode cX4_giveUp 46 = .ok (.bipush (-9), 2) := by decide +kernel
theorem dX4_giveUp_48 : decode cX4_giveUp 48 = .ok (.istore_n 3, 1) := by decide +kernel
theorem dX4_giveUp_49 : decode cX4_giveUp 49 = .ok (.iconst 0, 1) := by decide +kernel
theorem dX4_giveUp_50 : decode cX4_giveUp 50 = .ok (.istore 4, 2) := by decide +kernel
theorem dX4_giveUp_52 : decode cX4_giveUp 52 = .ok (.iload 4, 2) := by decide +kernel
theorem dX4_giveUp_54 : decode cX4_giveUp 54 = .ok (.iload_n 2, 1) := by decide +kernel
theorem dX4_giveUp_55 : decode cX4_giveUp 55 = .ok (.if_icmp .gt 75, 3) := by decide +kernel
theorem dX4_giveUp_58 : decode cX4_giveUp 58 = .ok (.iload 4, 2) := by decide +kernel
theorem dX4_giveUp_60 : decode cX4_giveUp 60 = .ok (.iload_n 2, 1) := by decide +kernel
theorem dX4_giveUp_61 : decode cX4_giveUp 61 = .ok (.iconst (-1), 1) := by decide +kernel
theorem dX4_giveUp_62 : decode cX4_giveUp 62 = .ok (.ixor, 1) := by decide +kernel
theorem dX4_giveUp_63 : decode cX4_giveUp 63 = .ok (.iand, 1) := by decide +kernel
theorem dX4_giveUp_64 : decode cX4_giveUp 64 = .ok (.ifCond .ne 60, 3) := by decide +kernel
theorem dX4_giveUp_67 : decode cX4_giveUp 67 = .ok (.iload_n 3, 1) := by decide +kernel
theorem dX4_giveUp_68 : decode cX4_giveUp 68 = .ok (.bipush (-9), 2) := by decide +kernel
theorem dX4_giveUp_70 : decode cX4_giveUp 70 = .ok (.if_icmp .eq 15, 3) := by decide +kernel
theorem dX4_giveUp_73 : decode cX4_giveUp 73 = .ok (.iload 4, 2) := by decide +kernel
theorem dX4_giveUp_75 : decode cX4_giveUp 75 = .ok (.invokestatic 141, 3) := by decide +kernel
theorem dX4_giveUp_78 : decode cX4_giveUp 78 = .ok (.iload_n 3, 1) := by decide +kernel
theorem dX4_giveUp_79 : decode cX4_giveUp 79 = .ok (.invokestatic 141, 3) := by decide +kernel
theorem dX4_giveUp_82 : decode cX4_giveUp 82 = .ok (.if_icmp .ge 42, 3) := by decide +kernel
theorem dX4_giveUp_85 : decode cX4_giveUp 85 = .ok (.aload_n 0, 1) := by decide +kernel
theorem dX4_giveUp_86 : decode cX4_giveUp 86 = .ok (.invokevirtual 153, 3) := by decide +kernel
theorem dX4_giveUp_89 : decode cX4_giveUp 89 = .ok (.aload_n 0, 1) := by decide +kernel
theorem dX4_giveUp_90 : decode cX4_giveUp 90 = .ok (.getfield 28, 3) := by decide +kernel
theorem dX4_giveUp_93 : decode cX4_giveUp 93 = .ok (.bipush 14, 2) := by decide +kernel
theorem dX4_giveUp_95 : decode cX4_giveUp 95 = .ok (.dup2, 1) := by decide +kernel
theorem dX4_giveUp_96 : decode cX4_giveUp 96 = .ok (.iaload, 1) := by decide +kernel
theorem dX4_giveUp_97 : decode cX4_giveUp 97 = .ok (.iload 4, 2) := by decide +kernel
theorem dX4_giveUp_99 : decode cX4_giveUp 99 = .ok (.iconst (-1), 1) := by decide +kernel
theorem dX4_giveUp_100 : decode cX4_giveUp 100 = .ok (.ixor, 1) := by decide +kernel
theorem dX4_giveUp_101 : decode cX4_giveUp 101 = .ok (.iand, 1) := by decide +kernel
theorem dX4_giveUp_102 : decode cX4_giveUp 102 = .ok (.iastore, 1) := by decide +kernel
theorem dX4_giveUp_103 : decode cX4_giveUp 103 = .ok (.aload_n 0, 1) := by decide +kernel
theorem dX4_giveUp_104 : decode cX4_giveUp 104 = .ok (.invokevirtual 156, 3) := by decide +kernel
theorem dX4_giveUp_107 : decode cX4_giveUp 107 = .ok (.aload_n 0, 1) := by decide +kernel
theorem dX4_giveUp_108 : decode cX4_giveUp 108 = .ok (.iload_n 1, 1) := by decide +kernel
theorem dX4_giveUp_109 : decode cX4_giveUp 109 = .ok (.invokevirtual 159, 3) := by decide +kernel
theorem dX4_giveUp_112 : decode cX4_giveUp 112 = .ok (.bipush (-9), 2) := by decide +kernel
theorem dX4_giveUp_114 : decode cX4_giveUp 114 = .ok (.if_icmp .ne 7, 3) := by decide +kernel
theorem dX4_giveUp_117 : decode cX4_giveUp 117 = .ok (.iload_n 3, 1) := by decide +kernel
theorem dX4_giveUp_118 : decode cX4_giveUp 118 = .ok (.goto 5, 3) := by decide +kernel
theorem dX4_giveUp_121 : decode cX4_giveUp 121 = .ok (.iload 4, 2) := by decide +kernel
theorem dX4_giveUp_123 : decode cX4_giveUp 123 = .ok (.istore_n 3, 1) := by decide +kernel
theorem dX4_giveUp_124 : decode cX4_giveUp 124 = .ok (.iinc 4 1, 3) := by decide +kernel
theorem dX4_giveUp_127 : decode cX4_giveUp 127 = .ok (.goto (-75), 3) := by decide +kernel
theorem dX4_giveUp_130 : decode cX4_giveUp 130 = .ok (.iload_n 3, 1) := by decide +kernel
theorem dX4_giveUp_131 : decode cX4_giveUp 131 = .ok (.ireturn, 1) := by decide +kernel
set_option maxRecDepth 20000 in
theorem ggX4_lateness_X4_layFall : GoodIn wsX4_lateness wsX4_layFall := goodIn_r _ [5, 6, 7, 8, 9, 10, 11, 4, 12, 13, 14, 15, 16, 17, 18, 19, 20, 21, 22, 23, 24, 25, 26, 27, 28, 33, 34, 35, 36, 37, 38, 39, 40, 41, 42, 43, 44, 45, 46, 47, 48, 49, 50, 51, 52, 53, 54, 55, 56, 57, 58, 59, 60, 61] (by decide +kernel) (by decide +kernel)
set_option maxRecDepth 20000 in
theorem gX4_lateness_X4_layFall : GoodIn wsX4_lateness (wsV RX4 156 RX4 yX4_layFall wsX4_layFall) := goodIn_app (goodIn_of _ (by decide +kernel)) ggX4_lateness_X4_layFall
set_option maxRecDepth 20000 in
theorem ggX4_lateness_X4_placeOf : GoodIn wsX4_lateness wsX4_placeOf := goodIn_r _ [32, 6, 8, 33, 34, 35, 36, 37, 38, 39, 40, 41, 42, 43, 44, 45, 46, 47, 48, 49, 50, 51, 52, 53, 54, 55, 56, 57, 58, 59, 60, 61] (by decide +kernel) (by decide +kernel)
set_option maxRecDepth 20000 in
theorem gX4_lateness_X4_placeOf : GoodIn wsX4_lateness (wsV RX4 159 RX4 yX4_placeOf wsX4_placeOf) := goodIn_app (goodIn_of _ (by decide +kernel)) ggX4_lateness_X4_placeOf
theorem dX4_lateness_0 : decode cX4_lateness 0 = .ok (.aload_n 0, 1) := by decide +kernel
theorem dX4_lateness_1 : decode cX4_lateness 1 = .ok (.invokevirtual 156, 3) := by decide +kernel
theorem dX4_lateness_4 : decode cX4_lateness 4 = .ok (.aload_n 0, 1) := by decide +kernel
