set_option maxRecDepth 20000 in
theorem ggX0_init_X1_init : GoodIn wsX0_init wsX1_init := goodIn_r _ [9, 10, 2, 3] (by decide +kernel) (by decide +kernel)
set_option maxRecDepth 20000 in
theorem gX0_init_X1_init_n17 : GoodIn wsX0_init (wsX1_init) := ggX0_init_X1_init
theorem dX0_init_0 : decode cX0_init 0 = .ok (.aload_n 0, 1) := by decide +kernel
theorem dX0_init_1 : decode cX0_init 1 = .ok (.invokespecial 3, 3) := by decide +kernel
theorem dX0_init_4 : decode cX0_init 4 = .ok (.aload_n 0, 1) := by decide +kernel
theorem dX0_init_5 : decode cX0_init 5 = .ok (.bipush 14, 2) := by decide +kernel
theorem dX0_init_7 : decode cX0_init 7 = .ok (.anewarray 9, 3) := by decide +kernel
theorem dX0_init_10 : decode cX0_init 10 = .ok (.putfield 11, 3) := by decide +kernel
theorem dX0_init_13 : decode cX0_init 13 = .ok (.iconst 0, 1) := by decide +kernel
theorem dX0_init_14 : decode cX0_init 14 = .ok (.istore_n 1, 1) := by decide +kernel
theorem dX0_init_15 : decode cX0_init 15 = .ok (.iload_n 1, 1) := by decide +kernel
theorem dX0_init_16 : decode cX0_init 16 = .ok (.bipush 14, 2) := by decide +kernel
theorem dX0_init_18 : decode cX0_init 18 = .ok (.if_icmp .ge 22, 3) := by decide +kernel
theorem dX0_init_21 : decode cX0_init 21 = .ok (.aload_n 0, 1) := by decide +kernel
theorem dX0_init_22 : decode cX0_init 22 = .ok (.getfield 11, 3) := by decide +kernel
theorem dX0_init_25 : decode cX0_init 25 = .ok (.iload_n 1, 1) := by decide +kernel
theorem dX0_init_26 : decode cX0_init 26 = .ok (.new 9, 3) := by decide +kernel
theorem dX0_init_29 : decode cX0_init 29 = .ok (.dup, 1) := by decide +kernel
theorem dX0_init_30 : decode cX0_init 30 = .ok (.invokespecial 17, 3) := by decide +kernel
theorem dX0_init_33 : decode cX0_init 33 = .ok (.aastore, 1) := by decide +kernel
theorem dX0_init_34 : decode cX0_init 34 = .ok (.iinc 1 1, 3) := by decide +kernel
theorem dX0_init_37 : decode cX0_init 37 = .ok (.goto (-22), 3) := by decide +kernel
theorem dX0_init_40 : decode cX0_init 40 = .ok (.return_, 1) := by decide +kernel
set_option maxRecDepth 20000 in
theorem ggX0_remember_X1_copy : GoodIn wsX0_remember wsX1_copy := goodIn_r _ [7, 8, 9, 10, 11, 12, 13, 14, 18, 19, 20, 21, 22, 23, 24] (by decide +kernel) (by decide +kernel)
set_option maxRecDepth 20000 in
theorem gX0_remember_X1_copy_n25 : GoodIn wsX0_remember (wsX1_copy) := ggX0_remember_X1_copy
theorem dX0_remember_0 : decode cX0_remember 0 = .ok (.aload_n 0, 1) := by decide +kernel
theorem dX0_remember_1 : decode cX0_remember 1 = .ok (.getfield 11, 3) := by decide +kernel
theorem dX0_remember_4 : decode cX0_remember 4 = .ok (.aload_n 0, 1) := by decide +kernel
theorem dX0_remember_5 : decode cX0_remember 5 = .ok (.getfield 18, 3) := by decide +kernel
theorem dX0_remember_8 : decode cX0_remember 8 = .ok (.aload_n 0, 1) := by decide +kernel
theorem dX0_remember_9 : decode cX0_remember 9 = .ok (.getfield 22, 3) := by decide +kernel
theorem dX0_remember_12 : decode cX0_remember 12 = .ok (.iadd, 1) := by decide +kernel
theorem dX0_remember_13 : decode cX0_remember 13 = .ok (.bipush 14, 2) := by decide +kernel
theorem dX0_remember_15 : decode cX0_remember 15 = .ok (.irem, 1) := by decide +kernel
theorem dX0_remember_16 : decode cX0_remember 16 = .ok (.aaload, 1) := by decide +kernel
theorem dX0_remember_17 : decode cX0_remember 17 = .ok (.aload_n 1, 1) := by decide +kernel
theorem dX0_remember_18 : decode cX0_remember 18 = .ok (.invokevirtual 25, 3) := by decide +kernel
theorem dX0_remember_21 : decode cX0_remember 21 = .ok (.aload_n 0, 1) := by decide +kernel
theorem dX0_remember_22 : decode cX0_remember 22 = .ok (.getfield 22, 3) := by decide +kernel
theorem dX0_remember_25 : decode cX0_remember 25 = .ok (.bipush 14, 2) := by decide +kernel
theorem dX0_remember_27 : decode cX0_remember 27 = .ok (.if_icmp .ge 16, 3) := by decide +kernel
theorem dX0_remember_30 : decode cX0_remember 30 = .ok (.aload_n 0, 1) := by decide +kernel
theorem dX0_remember_31 : decode cX0_remember 31 = .ok (.dup, 1) := by decide +kernel
theorem dX0_remember_32 : decode cX0_remember 32 = .ok (.getfield 22, 3) := by decide +kernel
theorem dX0_remember_35 : decode cX0_remember 35 = .ok (.iconst 1, 1) := by decide +kernel
theorem dX0_remember_36 : decode cX0_remember 36 = .ok (.iadd, 1) := by decide +kernel
theorem dX0_remember_37 : decode cX0_remember 37 = .ok (.putfield 22, 3) := by decide +kernel
theorem dX0_remember_40 : decode cX0_remember 40 = .ok (.goto 16, 3) := by decide +kernel
theorem dX0_remember_43 : decode cX0_remember 43 = .ok (.aload_n 0, 1) := by decide +kernel
theorem dX0_remember_44 : decode cX0_remember 44 = .ok (.aload_n 0, 1) := by decide +kernel
theorem dX0_remember_45 : decode cX0_remember 45 = .ok (.getfield 18, 3) := by decide +kernel
theorem dX0_remember_48 : decode cX0_remember 48 = .ok (.iconst 1, 1) := by decide +kernel
theorem dX0_remember_49 : decode cX0_remember 49 = .ok (.iadd, 1) := by decide +kernel
theorem dX0_remember_50 : decode cX0_remember 50 = .ok (.bipush 14, 2) := by decide +kernel
theorem dX0_remember_52 : decode cX0_remember 52 = .ok (.irem, 1) := by decide +kernel
theorem dX0_remember_53 : decode cX0_remember 53 = .ok (.putfield 18, 3) := by decide +kernel
theorem dX0_remember_56 : decode cX0_remember 56 = .ok (.return_, 1) := by decide +kernel
set_option maxRecDepth 20000 in
theorem ggX0_takeBackInto_X1_copy : GoodIn wsX0_takeBackInto wsX1_copy := goodIn_r _ [7, 8, 9, 10, 11, 12, 13, 14, 18, 19, 20, 21, 22, 23, 24] (by decide +kernel) (by decide +kernel)
set_option maxRecDepth 20000 in
theorem gX0_takeBackInto_X1_copy_n25 : GoodIn wsX0_takeBackInto (wsX1_copy) := ggX0_takeBackInto_X1_copy
theorem dX0_takeBackInto_0 : decode cX0_takeBackInto 0 = .ok (.aload_n 0, 1) := by decide +kernel
theorem dX0_takeBackInto_1 : decode cX0_takeBackInto 1 = .ok (.getfield 22, 3) := by decide +kernel
theorem dX0_takeBackInto_4 : decode cX0_takeBackInto 4 = .ok (.ifCond .ne 5, 3) := by decide +kernel
theorem dX0_takeBackInto_7 : decode cX0_takeBackInto 7 = .ok (.iconst 0, 1) := by decide +kernel
theorem dX0_takeBackInto_8 : decode cX0_takeBackInto 8 = .ok (.ireturn, 1) := by decide +kernel
theorem dX0_takeBackInto_9 : decode cX0_takeBackInto 9 = .ok (.aload_n 0, 1) := by decide +kernel
theorem dX0_takeBackInto_10 : decode cX0_takeBackInto 10 = .ok (.dup, 1) := by decide +kernel
theorem dX0_takeBackInto_11 : decode cX0_takeBackInto 11 = .ok (.getfield 22, 3) := by decide +kernel
theorem dX0_takeBackInto_14 : decode cX0_takeBackInto 14 = .ok (.iconst 1, 1) := by decide +kernel
theorem dX0_takeBackInto_15 : decode cX0_takeBackInto 15 = .ok (.isub, 1) := by decide +kernel
theorem dX0_takeBackInto_16 : decode cX0_takeBackInto 16 = .ok (.putfield 22, 3) := by decide +kernel
theorem dX0_takeBackInto_19 : decode cX0_takeBackInto 19 = .ok (.aload_n 1, 1) := by decide +kernel
theorem dX0_takeBackInto_20 : decode cX0_takeBackInto 20 = .ok (.aload_n 0, 1) := by decide +kernel
theorem dX0_takeBackInto_21 : decode cX0_takeBackInto 21 = .ok (.getfield 11, 3) := by decide +kernel
theorem dX0_takeBackInto_24 : decode cX0_takeBackInto 24 = .ok (.aload_n 0, 1) := by decide +kernel
theorem dX0_takeBackInto_25 : decode cX0_takeBackInto 25 = .ok (.getfield 18, 3) := by decide +kernel
theorem dX0_takeBackInto_28 : decode cX0_takeBackInto 28 = .ok (.aload_n 0, 1) := by decide +kernel
theorem dX0_takeBackInto_29 : decode cX0_takeBackInto 29 = .ok (.getfield 22, 3) := by decide +kernel
theorem dX0_takeBackInto_32 : decode cX0_takeBackInto 32 = .ok (.iadd, 1) := by decide +kernel
theorem dX0_takeBackInto_33 : decode cX0_takeBackInto 33 = .ok (.bipush 14, 2) := by decide +kernel
theorem dX0_takeBackInto_35 : decode cX0_takeBackInto 35 = .ok (.irem, 1) := by decide +kernel
theorem dX0_takeBackInto_36 : decode cX0_takeBackInto 36 = .ok (.aaload, 1) := by decide +kernel
theorem dX0_takeBackInto_37 : decode cX0_takeBackInto 37 = .ok (.invokevirtual 25, 3) := by decide +kernel
theorem dX0_takeBackInto_40 : decode cX0_takeBackInto 40 = .ok (.iconst 1, 1) := by decide +kernel
theorem dX0_takeBackInto_41 : decode cX0_takeBackInto 41 = .ok (.ireturn, 1) := by decide +kernel
theorem dX1_init_0 : decode cX1_init 0 = .ok (.aload_n 0, 1) := by decide +kernel
theorem dX1_init_1 : decode cX1_init 1 = .ok (.invokespecial 3, 3) := by decide +kernel
theorem dX1_init_4 : decode cX1_init 4 = .ok (.return_, 1) := by decide +kernel
theorem dX1_clear_0 : decode cX1_clear 0 = .ok (.aload_n 0, 1) := by decide +kernel
theorem dX1_clear_1 : decode cX1_clear 1 = .ok (.iconst 0, 1) := by decide +kernel
theorem dX1_clear_2 : decode cX1_clear 2 = .ok (.putfield 9, 3) := by decide +kernel
theorem dX1_clear_5 : decode cX1_clear 5 = .ok (.aload_n 0, 1) := by decide +kernel
theorem dX1_clear_6 : decode cX1_clear 6 = .ok (.iconst 0, 1) := by decide +kernel
theorem dX1_clear_7 : decode cX1_clear 7 = .ok (.putfield 15, 3) := by decide +kernel
theorem dX1_clear_10 : decode cX1_clear 10 = .ok (.aload_n 0, 1) := by decide +kernel
theorem dX1_clear_11 : decode cX1_clear 11 = .ok (.iconst 0, 1) := by decide +kernel
theorem dX1_clear_12 : decode cX1_clear 12 = .ok (.putfield 18, 3) := by decide +kernel
theorem dX1_clear_15 : decode cX1_clear 15 = .ok (.aload_n 0, 1) := by decide +kernel
theorem dX1_clear_16 : decode cX1_clear 16 = .ok (.lconst 0, 1) := by decide +kernel
theorem dX1_clear_17 : decode cX1_clear 17 = .ok (.putfield 21, 3) := by decide +kernel
theorem dX1_clear_20 : decode cX1_clear 20 = .ok (.aload_n 0, 1) := by decide +kernel
theorem dX1_clear_21 : decode cX1_clear 21 = .ok (.iconst 0, 1) := by decide +kernel
theorem dX1_clear_22 : decode cX1_clear 22 = .ok (.putfield 25, 3) := by decide +kernel
theorem dX1_clear_25 : decode cX1_clear 25 = .ok (.aload_n 0, 1) := by decide +kernel
theorem dX1_clear_26 : decode cX1_clear 26 = .ok (.iconst 0, 1) := by decide +kernel
theorem dX1_clear_27 : decode cX1_clear 27 = .ok (.putfield 28, 3) := by decide +kernel
theorem dX1_clear_30 : decode cX1_clear 30 = .ok (.aload_n 0, 1) := by decide +kernel
theorem dX1_clear_31 : decode cX1_clear 31 = .ok (.iconst 0, 1) := by decide +kernel
theorem dX1_clear_32 : decode cX1_clear 32 = .ok (.putfield 31, 3) := by decide +kernel
theorem dX1_clear_35 : decode cX1_clear 35 = .ok (.return_, 1) := by decide +kernel
theorem dX1_copy_0 : decode cX1_copy 0 = .ok (.aload_n 0, 1) := by decide +kernel
theorem dX1_copy_1 : decode cX1_copy 1 = .ok (.aload_n 1, 1) := by decide +kernel
theorem dX1_copy_2 : decode cX1_copy 2 = .ok (.getfield 9, 3) := by decide +kernel
theorem dX1_copy_5 : decode cX1_copy 5 = .ok (.putfield 9, 3) := by decide +kernel
theorem dX1_copy_8 : decode cX1_copy 8 = .ok (.aload_n 0, 1) := by decide +kernel
theorem dX1_copy_9 : decode cX1_copy 9 = .ok (.aload_n 1, 1) := by decide +kernel
theorem dX1_copy_10 : decode cX1_copy 10 = .ok (.getfield 15, 3) := by decide +kernel
theorem dX1_copy_13 : decode cX1_copy 13 = .ok (.putfield 15, 3) := by decide +kernel
theorem dX1_copy_16 : decode cX1_copy 16 = .ok (.aload_n 0, 1) := by decide +kernel
theorem dX1_copy_17 : decode cX1_copy 17 = .ok (.aload_n 1, 1) := by decide +kernel
theorem dX1_copy_18 : decode cX1_copy 18 = .ok (.getfield 18, 3) := by decide +kernel
theorem dX1_copy_21 : decode cX1_copy 21 = .ok (.putfield 18, 3) := by decide +kernel
theorem dX1_copy_24 : decode cX1_copy 24 = .ok (.aload_n 0, 1) := by decide +kernel
theorem dX1_copy_25 : decode cX1_copy 25 = .ok (.aload_n 1, 1) := by decide +kernel
theorem dX1_copy_26 : decode cX1_copy 26 = .ok (.getfield 21, 3) := by decide +kernel
theorem dX1_copy_29 : decode cX1_copy 29 = .ok (.putfield 21, 3) := by decide +kernel
theorem dX1_copy_32 : decode cX1_copy 32 = .ok (.aload_n 0, 1) := by decide +kernel
theorem dX1_copy_33 : decode cX1_copy 33 = .ok (.aload_n 1, 1) := by decide +kernel
theorem dX1_copy_34 : decode cX1_copy 34 = .ok (.getfield 25, 3) := by decide +kernel
theorem dX1_copy_37 : decode cX1_copy 37 = .ok (.putfield 25, 3) := by decide +kernel
theorem dX1_copy_40 : decode cX1_copy 40 = .ok (.aload_n 0, 1) := by decide +kernel
theorem dX1_copy_41 : decode cX1_copy 41 = .ok (.aload_n 1, 1) := by decide +kernel
theorem dX1_copy_42 : decode cX1_copy 42 = .ok (.getfield 28, 3) := by decide +kernel
theorem dX1_copy_45 : decode cX1_copy 45 = .ok (.putfield 28, 3) := by decide +kernel
theorem dX1_copy_48 : decode cX1_copy 48 = .ok (.aload_n 0, 1) := by decide +kernel
theorem dX1_copy_49 : decode cX1_copy 49 = .ok (.aload_n 1, 1) := by decide +kernel
theorem dX1_copy_50 : decode cX1_copy 50 = .ok (.getfield 31, 3) := by decide +kernel
theorem dX1_copy_53 : decode cX1_copy 53 = .ok (.putfield 31, 3) := by decide +kernel
theorem dX1_copy_56 : decode cX1_copy 56 = .ok (.return_, 1) := by decide +kernel
set_option maxRecDepth 20000 in
theorem ggX1_add_X3_bit : GoodIn wsX1_add wsX3_bit := goodIn_r _ [7] (by decide +kernel) (by decide +kernel)
set_option maxRecDepth 20000 in
theorem gX1_add_X3_bit_n34 : GoodIn wsX1_add (wsX3_bit) := ggX1_add_X3_bit
theorem dX1_add_0 : decode cX1_add 0 = .ok (.aload_n 0, 1) := by decide +kernel
theorem dX1_add_1 : decode cX1_add 1 = .ok (.getfield 9, 3) := by decide +kernel
theorem dX1_add_4 : decode cX1_add 4 = .ok (.istore_n 3, 1) := by decide +kernel
theorem dX1_add_5 : decode cX1_add 5 = .ok (.aload_n 0, 1) := by decide +kernel
theorem dX1_add_6 : decode cX1_add 6 = .ok (.dup, 1) := by decide +kernel
theorem dX1_add_7 : decode cX1_add 7 = .ok (.getfield 9, 3) := by decide +kernel
theorem dX1_add_10 : decode cX1_add 10 = .ok (.iconst 1, 1) := by decide +kernel
theorem dX1_add_11 : decode cX1_add 11 = .ok (.iadd, 1) := by decide +kernel
theorem dX1_add_12 : decode cX1_add 12 = .ok (.putfield 9, 3) := by decide +kernel
theorem dX1_add_15 : decode cX1_add 15 = .ok (.aload_n 0, 1) := by decide +kernel
theorem dX1_add_16 : decode cX1_add 16 = .ok (.dup, 1) := by decide +kernel
theorem dX1_add_17 : decode cX1_add 17 = .ok (.getfield 15, 3) := by decide +kernel
theorem dX1_add_20 : decode cX1_add 20 = .ok (.iload_n 2, 1) := by decide +kernel
theorem dX1_add_21 : decode cX1_add 21 = .ok (.iconst 4, 1) := by decide +kernel
theorem dX1_add_22 : decode cX1_add 22 = .ok (.iload_n 3, 1) := by decide +kernel
theorem dX1_add_23 : decode cX1_add 23 = .ok (.imul, 1) := by decide +kernel
theorem dX1_add_24 : decode cX1_add 24 = .ok (.ishl, 1) := by decide +kernel
theorem dX1_add_25 : decode cX1_add 25 = .ok (.ior, 1) := by decide +kernel
theorem dX1_add_26 : decode cX1_add 26 = .ok (.putfield 15, 3) := by decide +kernel
theorem dX1_add_29 : decode cX1_add 29 = .ok (.aload_n 0, 1) := by decide +kernel
theorem dX1_add_30 : decode cX1_add 30 = .ok (.dup, 1) := by decide +kernel
theorem dX1_add_31 : decode cX1_add 31 = .ok (.getfield 18, 3) := by decide +kernel
theorem dX1_add_34 : decode cX1_add 34 = .ok (.iload_n 1, 1) := by decide +kernel
theorem dX1_add_35 : decode cX1_add 35 = .ok (.iconst 4, 1) := by decide +kernel
theorem dX1_add_36 : decode cX1_add 36 = .ok (.iload_n 3, 1) := by decide +kernel
theorem dX1_add_37 : decode cX1_add 37 = .ok (.imul, 1) := by decide +kernel
theorem dX1_add_38 : decode cX1_add 38 = .ok (.ishl, 1) := by decide +kernel
theorem dX1_add_39 : decode cX1_add 39 = .ok (.ior, 1) := by decide +kernel
theorem dX1_add_40 : decode cX1_add 40 = .ok (.putfield 18, 3) := by decide +kernel
theorem dX1_add_43 : decode cX1_add 43 = .ok (.aload_n 0, 1) := by decide +kernel
theorem dX1_add_44 : decode cX1_add 44 = .ok (.dup, 1) := by decide +kernel
theorem dX1_add_45 : decode cX1_add 45 = .ok (.getfield 25, 3) := by decide +kernel
theorem dX1_add_48 : decode cX1_add 48 = .ok (.iload_n 3, 1) := by decide +kernel
theorem dX1_add_49 : decode cX1_add 49 = .ok (.invokestatic 34, 3) := by decide +kernel
theorem dX1_add_52 : decode cX1_add 52 = .ok (.ior, 1) := by decide +kernel
theorem dX1_add_53 : decode cX1_add 53 = .ok (.putfield 25, 3) := by decide +kernel
theorem dX1_add_56 : decode cX1_add 56 = .ok (.return_, 1) := by decide +kernel
theorem dX1_has_0 : decode cX1_has 0 = .ok (.iload_n 1, 1) := by decide +kernel
theorem dX1_has_1 : decode cX1_has 1 = .ok (.ifCond .lt 15, 3) := by decide +kernel
theorem dX1_has_4 : decode cX1_has 4 = .ok (.iload_n 1, 1) := by decide +kernel
theorem dX1_has_5 : decode cX1_has 5 = .ok (.aload_n 0, 1) := by decide +kernel
theorem dX1_has_6 : decode cX1_has 6 = .ok (.getfield 9, 3) := by decide +kernel
theorem dX1_has_9 : decode cX1_has 9 = .ok (.if_icmp .ge 7, 3) := by decide +kernel
theorem dX1_has_12 : decode cX1_has 12 = .ok (.iconst 1, 1) := by decide +kernel
theorem dX1_has_13 : decode cX1_has 13 = .ok (.goto 4, 3) := by decide +kernel
theorem dX1_has_16 : decode cX1_has 16 = .ok (.iconst 0, 1) := by decide +kernel
theorem dX1_has_17 : decode cX1_has 17 = .ok (.ireturn, 1) := by decide +kernel
theorem dX1_deedOf_0 : decode cX1_deedOf 0 = .ok (.aload_n 0, 1) := by decide +kernel
theorem dX1_deedOf_1 : decode cX1_deedOf 1 = .ok (.getfield 18, 3) := by decide +kernel
theorem dX1_deedOf_4 : decode cX1_deedOf 4 = .ok (.iconst 4, 1) := by decide +kernel
theorem dX1_deedOf_5 : decode cX1_deedOf 5 = .ok (.iload_n 1, 1) := by decide +kernel
theorem dX1_deedOf_6 : decode cX1_deedOf 6 = .ok (.imul, 1) := by decide +kernel
theorem dX1_deedOf_7 : decode cX1_deedOf 7 = .ok (.iushr, 1) := by decide +kernel
theorem dX1_deedOf_8 : decode cX1_deedOf 8 = .ok (.bipush 15, 2) := by decide +kernel
theorem dX1_deedOf_10 : decode cX1_deedOf 10 = .ok (.iand, 1) := by decide +kernel
theorem dX1_deedOf_11 : decode cX1_deedOf 11 = .ok (.ireturn, 1) := by decide +kernel
theorem dX1_setDeed_0 : decode cX1_setDeed 0 = .ok (.aload_n 0, 1) := by decide +kernel
theorem dX1_setDeed_1 : decode cX1_setDeed 1 = .ok (.aload_n 0, 1) := by decide +kernel
theorem dX1_setDeed_2 : decode cX1_setDeed 2 = .ok (.getfield 18, 3) := by decide +kernel
theorem dX1_setDeed_5 : decode cX1_setDeed 5 = .ok (.bipush 15, 2) := by decide +kernel
theorem dX1_setDeed_7 : decode cX1_setDeed 7 = .ok (.iconst 4, 1) := by decide +kernel
theorem dX1_setDeed_8 : decode cX1_setDeed 8 = .ok (.iload_n 1, 1) := by decide +kernel
theorem dX1_setDeed_9 : decode cX1_setDeed 9 = .ok (.imul, 1) := by decide +kernel
theorem dX1_setDeed_10 : decode cX1_setDeed 10 = .ok (.ishl, 1) := by decide +kernel
theorem dX1_setDeed_11 : decode cX1_setDeed 11 = .ok (.iconst (-1), 1) := by decide +kernel
theorem dX1_setDeed_12 : decode cX1_setDeed 12 = .ok (.ixor, 1) := by decide +kernel
theorem dX1_setDeed_13 : decode cX1_setDeed 13 = .ok (.iand, 1) := by decide +kernel
theorem dX1_setDeed_14 : decode cX1_setDeed 14 = .ok (.iload_n 2, 1) := by decide +kernel
theorem dX1_setDeed_15 : decode cX1_setDeed 15 = .ok (.iconst 4, 1) := by decide +kernel
theorem dX1_setDeed_16 : decode cX1_setDeed 16 = .ok (.iload_n 1, 1) := by decide +kernel
theorem dX1_setDeed_17 : decode cX1_setDeed 17 = .ok (.imul, 1) := by decide +kernel
theorem dX1_setDeed_18 : decode cX1_setDeed 18 = .ok (.ishl, 1) := by decide +kernel
theorem dX1_setDeed_19 : decode cX1_setDeed 19 = .ok (.ior, 1) := by decide +kernel
theorem dX1_setDeed_20 : decode cX1_setDeed 20 = .ok (.putfield 18, 3) := by decide +kernel
theorem dX1_setDeed_23 : decode cX1_setDeed 23 = .ok (.return_, 1) := by decide +kernel
theorem dX1_kindOf_0 : decode cX1_kindOf 0 = .ok (.aload_n 0, 1) := by decide +kernel
theorem dX1_kindOf_1 : decode cX1_kindOf 1 = .ok (.getfield 15, 3) := by decide +kernel
theorem dX1_kindOf_4 : decode cX1_kindOf 4 = .ok (.iconst 4, 1) := by decide +kernel
theorem dX1_kindOf_5 : decode cX1_kindOf 5 = .ok (.iload_n 1, 1) := by decide +kernel
theorem dX1_kindOf_6 : decode cX1_kindOf 6 = .ok (.imul, 1) := by decide +kernel
theorem dX1_kindOf_7 : decode cX1_kindOf 7 = .ok (.iushr, 1) := by decide +kernel
theorem dX1_kindOf_8 : decode cX1_kindOf 8 = .ok (.bipush 15, 2) := by decide +kernel
theorem dX1_kindOf_10 : decode cX1_kindOf 10 = .ok (.iand, 1) := by decide +kernel
theorem dX1_kindOf_11 : decode cX1_kindOf 11 = .ok (.ireturn, 1) := by decide +kernel
set_option maxRecDepth 20000 in
theorem ggX1_gradeOf_X1_kindOf : GoodIn wsX1_gradeOf wsX1_kindOf := goodIn_r _ [5, 6, 12, 13, 14, 15, 16, 17, 18] (by decide +kernel) (by decide +kernel)
set_option maxRecDepth 20000 in
theorem gX1_gradeOf_X1_kindOf : GoodIn wsX1_gradeOf (wsV RX1 38 RX1 yX1_kindOf wsX1_kindOf) := goodIn_app (goodIn_of _ (by decide +kernel)) ggX1_gradeOf_X1_kindOf
set_option maxRecDepth 20000 in
theorem ggX1_gradeOf_X1_deedOf : GoodIn wsX1_gradeOf wsX1_deedOf := goodIn_r _ [10, 11, 12, 13, 14, 15, 16, 17, 18] (by decide +kernel) (by decide +kernel)
set_option maxRecDepth 20000 in
theorem gX1_gradeOf_X1_deedOf : GoodIn wsX1_gradeOf (wsV RX1 41 RX1 yX1_deedOf wsX1_deedOf) := goodIn_app (goodIn_of _ (by decide +kernel)) ggX1_gradeOf_X1_deedOf
theorem dX1_gradeOf_0 : decode cX1_gradeOf 0 = .ok (.aload_n 0, 1) := by decide +kernel
theorem dX1_gradeOf_1 : decode cX1_gradeOf 1 = .ok (.iload_n 1, 1) := by decide +kernel
theorem dX1_gradeOf_2 : decode cX1_gradeOf 2 = .ok (.invokevirtual 38, 3) := by decide +kernel
theorem dX1_gradeOf_5 : decode cX1_gradeOf 5 = .ok (.istore_n 2, 1) := by decide +kernel
theorem dX1_gradeOf_6 : decode cX1_gradeOf 6 = .ok (.iload_n 2, 1) := by decide +kernel
theorem dX1_gradeOf_7 : decode cX1_gradeOf 7 = .ok (.iconst 3, 1) := by decide +kernel
theorem dX1_gradeOf_8 : decode cX1_gradeOf 8 = .ok (.if_icmp .ne 5, 3) := by decide +kernel
theorem dX1_gradeOf_11 : decode cX1_gradeOf 11 = .ok (.iconst 0, 1) := by decide +kernel
theorem dX1_gradeOf_12 : decode cX1_gradeOf 12 = .ok (.ireturn, 1) := by decide +kernel
theorem dX1_gradeOf_13 : decode cX1_gradeOf 13 = .ok (.aload_n 0, 1) := by decide +kernel
theorem dX1_gradeOf_14 : decode cX1_gradeOf 14 = .ok (.iload_n 1, 1) := by decide +kernel
theorem dX1_gradeOf_15 : decode cX1_gradeOf 15 = .ok (.invokevirtual 41, 3) := by decide +kernel
theorem dX1_gradeOf_18 : decode cX1_gradeOf 18 = .ok (.iload_n 2, 1) := by decide +kernel
theorem dX1_gradeOf_19 : decode cX1_gradeOf 19 = .ok (.iconst 2, 1) := by decide +kernel
theorem dX1_gradeOf_20 : decode cX1_gradeOf 20 = .ok (.if_icmp .ne 7, 3) := by decide +kernel
theorem dX1_gradeOf_23 : decode cX1_gradeOf 23 = .ok (.iconst 2, 1) := by decide +kernel
theorem dX1_gradeOf_24 : decode cX1_gradeOf 24 = .ok (.goto 4, 3) := by decide +kernel
theorem dX1_gradeOf_27 : decode cX1_gradeOf 27 = .ok (.iconst 0, 1) := by decide +kernel
theorem dX1_gradeOf_28 : decode cX1_gradeOf 28 = .ok (.iadd, 1) := by decide +kernel
theorem dX1_gradeOf_29 : decode cX1_gradeOf 29 = .ok (.ireturn, 1) := by decide +kernel
set_option maxRecDepth 20000 in
theorem ggX1_feeds_X3_pair : GoodIn wsX1_feeds wsX3_pair := goodIn_r _ [4] (by decide +kernel) (by decide +kernel)
set_option maxRecDepth 20000 in
theorem gX1_feeds_X3_pair_n44 : GoodIn wsX1_feeds (wsX3_pair) := ggX1_feeds_X3_pair
theorem dX1_feeds_0 : decode cX1_feeds 0 = .ok (.aload_n 0, 1) := by decide +kernel
theorem dX1_feeds_1 : decode cX1_feeds 1 = .ok (.getfield 21, 3) := by decide +kernel
theorem dX1_feeds_4 : decode cX1_feeds 4 = .ok (.iload_n 1, 1) := by decide +kernel
theorem dX1_feeds_5 : decode cX1_feeds 5 = .ok (.iload_n 2, 1) := by decide +kernel
theorem dX1_feeds_6 : decode cX1_feeds 6 = .ok (.invokestatic 44, 3) := by decide +kernel
theorem dX1_feeds_9 : decode cX1_feeds 9 = .ok (.land, 1) := by decide +kernel
theorem dX1_feeds_10 : decode cX1_feeds 10 = .ok (.lconst 0, 1) := by decide +kernel
theorem dX1_feeds_11 : decode cX1_feeds 11 = .ok (.lcmp, 1) := by decide +kernel
theorem dX1_feeds_12 : decode cX1_feeds 12 = .ok (.ifCond .eq 7, 3) := by decide +kernel
theorem dX1_feeds_15 : decode cX1_feeds 15 = .ok (.iconst 1, 1) := by decide +kernel
theorem dX1_feeds_16 : decode cX1_feeds 16 = .ok (.goto 4, 3) := by decide +kernel
theorem dX1_feeds_19 : decode cX1_feeds 19 = .ok (.iconst 0, 1) := by decide +kernel
theorem dX1_feeds_20 : decode cX1_feeds 20 = .ok (.ireturn, 1) := by decide +kernel
set_option maxRecDepth 20000 in
theorem ggX1_whomFeeds_X1_feeds : GoodIn wsX1_whomFeeds wsX1_feeds := goodIn_r _ [6, 7, 8, 9, 10, 13, 14, 15, 16, 17, 18, 19] (by decide +kernel) (by decide +kernel)
set_option maxRecDepth 20000 in
theorem gX1_whomFeeds_X1_feeds : GoodIn wsX1_whomFeeds (wsV RX1 48 RX1 yX1_feeds wsX1_feeds) := goodIn_app (goodIn_of _ (by decide +kernel)) ggX1_whomFeeds_X1_feeds
set_option maxRecDepth 20000 in
theorem ggX1_whomFeeds_X3_bit : GoodIn wsX1_whomFeeds wsX3_bit := goodIn_r _ [12] (by decide +kernel) (by decide +kernel)
set_option maxRecDepth 20000 in
theorem gX1_whomFeeds_X3_bit_n34 : GoodIn wsX1_whomFeeds (wsX3_bit) := ggX1_whomFeeds_X3_bit
theorem dX1_whomFeeds_0 : decode cX1_whomFeeds 0 = .ok (.iconst 0, 1) := by decide +kernel
theorem dX1_whomFeeds_1 : decode cX1_whomFeeds 1 = .ok (.istore_n 2, 1) := by decide +kernel
theorem dX1_whomFeeds_2 : decode cX1_whomFeeds 2 = .ok (.iconst 0, 1) := by decide +kernel
theorem dX1_whomFeeds_3 : decode cX1_whomFeeds 3 = .ok (.istore_n 3, 1) := by decide +kernel
theorem dX1_whomFeeds_4 : decode cX1_whomFeeds 4 = .ok (.iload_n 3, 1) := by decide +kernel
theorem dX1_whomFeeds_5 : decode cX1_whomFeeds 5 = .ok (.aload_n 0, 1) := by decide +kernel
theorem dX1_whomFeeds_6 : decode cX1_whomFeeds 6 = .ok (.getfield 9, 3) := by decide +kernel
theorem dX1_whomFeeds_9 : decode cX1_whomFeeds 9 = .ok (.if_icmp .ge 25, 3) := by decide +kernel
theorem dX1_whomFeeds_12 : decode cX1_whomFeeds 12 = .ok (.aload_n 0, 1) := by decide +kernel
theorem dX1_whomFeeds_13 : decode cX1_whomFeeds 13 = .ok (.iload_n 1, 1) := by decide +kernel
theorem dX1_whomFeeds_14 : decode cX1_whomFeeds 14 = .ok (.iload_n 3, 1) := by decide +kernel
theorem dX1_whomFeeds_15 : decode cX1_whomFeeds 15 = .ok (.invokevirtual 48, 3) := by decide +kernel
theorem dX1_whomFeeds_18 : decode cX1_whomFeeds 18 = .ok (.ifCond .eq 10, 3) := by decide +kernel
theorem dX1_whomFeeds_21 : decode cX1_whomFeeds 21 = .ok (.iload_n 2, 1) := by decide +kernel
theorem dX1_whomFeeds_22 : decode cX1_whomFeeds 22 = .ok (.iload_n 3, 1) := by decide +kernel
theorem dX1_whomFeeds_23 : decode cX1_whomFeeds 23 = .ok (.invokestatic 34, 3) := by decide +kernel
theorem dX1_whomFeeds_26 : decode cX1_whomFeeds 26 = .ok (.ior, 1) := by decide +kernel
theorem dX1_whomFeeds_27 : decode cX1_whomFeeds 27 = .ok (.istore_n 2, 1) := by decide +kernel
theorem dX1_whomFeeds_28 : decode cX1_whomFeeds 28 = .ok (.iinc 3 1, 3) := by decide +kernel
theorem dX1_whomFeeds_31 : decode cX1_whomFeeds 31 = .ok (.goto (-27), 3) := by decide +kernel
theorem dX1_whomFeeds_34 : decode cX1_whomFeeds 34 = .ok (.iload_n 2, 1) := by decide +kernel
theorem dX1_whomFeeds_35 : decode cX1_whomFeeds 35 = .ok (.ireturn, 1) := by decide +kernel
set_option maxRecDepth 20000 in
theorem ggX1_hasPairLeft_J13_bitCount_95d88 : GoodIn wsX1_hasPairLeft wsJ13_bitCount_95d88 := goodIn_r _ [6, 7, 8, 9] (by decide +kernel) (by decide +kernel)
set_option maxRecDepth 20000 in
theorem gX1_hasPairLeft_J13_bitCount_95d88 : GoodIn wsX1_hasPairLeft (va_wsS RX1 52 yJ13_bitCount_95d88 wsJ13_bitCount_95d88) := goodIn_app (goodIn_of _ (by decide +kernel)) ggX1_hasPairLeft_J13_bitCount_95d88
theorem dX1_hasPairLeft_0 : decode cX1_hasPairLeft 0 = .ok (.aload_n 0, 1) := by decide +kernel
theorem dX1_hasPairLeft_1 : decode cX1_hasPairLeft 1 = .ok (.getfield 21, 3) := by decide +kernel
theorem dX1_hasPairLeft_4 : decode cX1_hasPairLeft 4 = .ok (.invokestatic 52, 3) := by decide +kernel
theorem dX1_hasPairLeft_7 : decode cX1_hasPairLeft 7 = .ok (.aload_n 0, 1) := by decide +kernel
theorem dX1_hasPairLeft_8 : decode cX1_hasPairLeft 8 = .ok (.getfield 9, 3) := by decide +kernel
theorem dX1_hasPairLeft_11 : decode cX1_hasPairLeft 11 = .ok (.aload_n 0, 1) := by decide +kernel
theorem dX1_hasPairLeft_12 : decode cX1_hasPairLeft 12 = .ok (.getfield 9, 3) := by decide +kernel
theorem dX1_hasPairLeft_15 : decode cX1_hasPairLeft 15 = .ok (.iconst 1, 1) := by decide +kernel
theorem dX1_hasPairLeft_16 : decode cX1_hasPairLeft 16 = .ok (.isub, 1) := by decide +kernel
theorem dX1_hasPairLeft_17 : decode cX1_hasPairLeft 17 = .ok (.imul, 1) := by decide +kernel
theorem dX1_hasPairLeft_18 : decode cX1_hasPairLeft 18 = .ok (.if_icmp .ge 7, 3) := by decide +kernel
theorem dX1_hasPairLeft_21 : decode cX1_hasPairLeft 21 = .ok (.iconst 1, 1) := by decide +kernel
theorem dX1_hasPairLeft_22 : decode cX1_hasPairLeft 22 = .ok (.goto 4, 3) := by decide +kernel
theorem dX1_hasPairLeft_25 : decode cX1_hasPairLeft 25 = .ok (.iconst 0, 1) := by decide +kernel
theorem dX1_hasPairLeft_26 : decode cX1_hasPairLeft 26 = .ok (.ireturn, 1) := by decide +kernel
set_option maxRecDepth 20000 in
theorem ggX1_bury_X3_without : GoodIn wsX1_bury wsX3_without := goodIn_r _ [5] (by decide +kernel) (by decide +kernel)
set_option maxRecDepth 20000 in
theorem gX1_bury_X3_without_n58 : GoodIn wsX1_bury (wsX3_without) := ggX1_bury_X3_without
set_option maxRecDepth 20000 in
theorem ggX1_bury_X3_bit : GoodIn wsX1_bury wsX3_bit := goodIn_r _ [7] (by decide +kernel) (by decide +kernel)
set_option maxRecDepth 20000 in
theorem gX1_bury_X3_bit_n34 : GoodIn wsX1_bury (wsX3_bit) := ggX1_bury_X3_bit
theorem dX1_bury_0 : decode cX1_bury 0 = .ok (.aload_n 0, 1) := by decide +kernel
theorem dX1_bury_1 : decode cX1_bury 1 = .ok (.aload_n 0, 1) := by decide +kernel
theorem dX1_bury_2 : decode cX1_bury 2 = .ok (.getfield 25, 3) := by decide +kernel
theorem dX1_bury_5 : decode cX1_bury 5 = .ok (.iload_n 1, 1) := by decide +kernel
theorem dX1_bury_6 : decode cX1_bury 6 = .ok (.invokestatic 58, 3) := by decide +kernel
theorem dX1_bury_9 : decode cX1_bury 9 = .ok (.putfield 25, 3) := by decide +kernel
theorem dX1_bury_12 : decode cX1_bury 12 = .ok (.aload_n 0, 1) := by decide +kernel
theorem dX1_bury_13 : decode cX1_bury 13 = .ok (.dup, 1) := by decide +kernel
theorem dX1_bury_14 : decode cX1_bury 14 = .ok (.getfield 28, 3) := by decide +kernel
theorem dX1_bury_17 : decode cX1_bury 17 = .ok (.iload_n 1, 1) := by decide +kernel
theorem dX1_bury_18 : decode cX1_bury 18 = .ok (.invokestatic 34, 3) := by decide +kernel
theorem dX1_bury_21 : decode cX1_bury 21 = .ok (.ior, 1) := by decide +kernel
theorem dX1_bury_22 : decode cX1_bury 22 = .ok (.putfield 28, 3) := by decide +kernel
theorem dX1_bury_25 : decode cX1_bury 25 = .ok (.return_, 1) := by decide +kernel
set_option maxRecDepth 20000 in
theorem ggX1_passDay_X1_mayBeTaken : GoodIn wsX1_passDay wsX1_mayBeTaken := goodIn_r _ [7, 8, 9, 10, 11, 12, 13, 14, 6, 15, 16, 17, 18, 19, 20, 21, 22, 23, 24, 25, 26, 27, 28, 29, 30, 31, 32, 38, 39, 40, 41, 42, 43, 44] (by decide +kernel) (by decide +kernel)
set_option maxRecDepth 20000 in
theorem gX1_passDay_X1_mayBeTaken : GoodIn wsX1_passDay (wsV RX1 62 RX1 yX1_mayBeTaken wsX1_mayBeTaken) := goodIn_app (goodIn_of _ (by decide +kernel)) ggX1_passDay_X1_mayBeTaken
set_option maxRecDepth 20000 in
theorem ggX1_passDay_X3_leastOf : GoodIn wsX1_passDay wsX3_leastOf := goodIn_r _ [34, 35, 9, 10, 11] (by decide +kernel) (by decide +kernel)
set_option maxRecDepth 20000 in
theorem gX1_passDay_X3_leastOf_n65 : GoodIn wsX1_passDay (wsX3_leastOf) := ggX1_passDay_X3_leastOf
set_option maxRecDepth 20000 in
theorem ggX1_passDay_X3_without : GoodIn wsX1_passDay wsX3_without := goodIn_r _ [37] (by decide +kernel) (by decide +kernel)
set_option maxRecDepth 20000 in
theorem gX1_passDay_X3_without_n58 : GoodIn wsX1_passDay (wsX3_without) := ggX1_passDay_X3_without
theorem dX1_passDay_0 : decode cX1_passDay 0 = .ok (.aload_n 0, 1) := by decide +kernel
theorem dX1_passDay_1 : decode cX1_passDay 1 = .ok (.aload_n 0, 1) := by decide +kernel
theorem dX1_passDay_2 : decode cX1_passDay 2 = .ok (.getfield 25, 3) := by decide +kernel
theorem dX1_passDay_5 : decode cX1_passDay 5 = .ok (.invokevirtual 62, 3) := by decide +kernel
theorem dX1_passDay_8 : decode cX1_passDay 8 = .ok (.invokestatic 65, 3) := by decide +kernel
theorem dX1_passDay_11 : decode cX1_passDay 11 = .ok (.istore_n 1, 1) := by decide +kernel
theorem dX1_passDay_12 : decode cX1_passDay 12 = .ok (.iload_n 1, 1) := by decide +kernel
theorem dX1_passDay_13 : decode cX1_passDay 13 = .ok (.bipush (-9), 2) := by decide +kernel
theorem dX1_passDay_15 : decode cX1_passDay 15 = .ok (.if_icmp .eq 15, 3) := by decide +kernel
theorem dX1_passDay_18 : decode cX1_passDay 18 = .ok (.aload_n 0, 1) := by decide +kernel
theorem dX1_passDay_19 : decode cX1_passDay 19 = .ok (.aload_n 0, 1) := by decide +kernel
theorem dX1_passDay_20 : decode cX1_passDay 20 = .ok (.getfield 25, 3) := by decide +kernel
theorem dX1_passDay_23 : decode cX1_passDay 23 = .ok (.iload_n 1, 1) := by decide +kernel
theorem dX1_passDay_24 : decode cX1_passDay 24 = .ok (.invokestatic 58, 3) := by decide +kernel
theorem dX1_passDay_27 : decode cX1_passDay 27 = .ok (.putfield 25, 3) := by decide +kernel
theorem dX1_passDay_30 : decode cX1_passDay 30 = .ok (.aload_n 0, 1) := by decide +kernel
theorem dX1_passDay_31 : decode cX1_passDay 31 = .ok (.dup, 1) := by decide +kernel
theorem dX1_passDay_32 : decode cX1_passDay 32 = .ok (.getfield 31, 3) := by decide +kernel
theorem dX1_passDay_35 : decode cX1_passDay 35 = .ok (.iconst 1, 1) := by decide +kernel
theorem dX1_passDay_36 : decode cX1_passDay 36 = .ok (.iadd, 1) := by decide +kernel
theorem dX1_passDay_37 : decode cX1_passDay 37 = .ok (.putfield 31, 3) := by decide +kernel
theorem dX1_passDay_40 : decode cX1_passDay 40 = .ok (.iload_n 1, 1) := by decide +kernel
theorem dX1_passDay_41 : decode cX1_passDay 41 = .ok (.ireturn, 1) := by decide +kernel
set_option maxRecDepth 20000 in
theorem ggX1_isHidden_X1_kindOf : GoodIn wsX1_isHidden wsX1_kindOf := goodIn_r _ [6, 7, 8, 9, 10, 11, 12, 13, 14] (by decide +kernel) (by decide +kernel)
set_option maxRecDepth 20000 in
theorem gX1_isHidden_X1_kindOf : GoodIn wsX1_isHidden (wsV RX1 38 RX1 yX1_kindOf wsX1_kindOf) := goodIn_app (goodIn_of _ (by decide +kernel)) ggX1_isHidden_X1_kindOf
theorem dX1_isHidden_0 : decode cX1_isHidden 0 = .ok (.aload_n 0, 1) := by decide +kernel
theorem dX1_isHidden_1 : decode cX1_isHidden 1 = .ok (.getfield 21, 3) := by decide +kernel
theorem dX1_isHidden_4 : decode cX1_isHidden 4 = .ok (.bipush 7, 2) := by decide +kernel
theorem dX1_isHidden_6 : decode cX1_isHidden 6 = .ok (.iload_n 1, 1) := by decide +kernel
theorem dX1_isHidden_7 : decode cX1_isHidden 7 = .ok (.imul, 1) := by decide +kernel
theorem dX1_isHidden_8 : decode cX1_isHidden 8 = .ok (.lushr, 1) := by decide +kernel
theorem dX1_isHidden_9 : decode cX1_isHidden 9 = .ok (.l2i, 1) := by decide +kernel
theorem dX1_isHidden_10 : decode cX1_isHidden 10 = .ok (.istore_n 3, 1) := by decide +kernel
theorem dX1_isHidden_11 : decode cX1_isHidden 11 = .ok (.iload_n 3, 1) := by decide +kernel
theorem dX1_isHidden_12 : decode cX1_isHidden 12 = .ok (.iload_n 2, 1) := by decide +kernel
theorem dX1_isHidden_13 : decode cX1_isHidden 13 = .ok (.iand, 1) := by decide +kernel
theorem dX1_isHidden_14 : decode cX1_isHidden 14 = .ok (.ifCond .eq 16, 3) := by decide +kernel
theorem dX1_isHidden_17 : decode cX1_isHidden 17 = .ok (.aload_n 0, 1) := by decide +kernel
theorem dX1_isHidden_18 : decode cX1_isHidden 18 = .ok (.iload_n 1, 1) := by decide +kernel
theorem dX1_isHidden_19 : decode cX1_isHidden 19 = .ok (.invokevirtual 38, 3) := by decide +kernel
theorem dX1_isHidden_22 : decode cX1_isHidden 22 = .ok (.iconst 1, 1) := by decide +kernel
theorem dX1_isHidden_23 : decode cX1_isHidden 23 = .ok (.if_icmp .eq 7, 3) := by decide +kernel
theorem dX1_isHidden_26 : decode cX1_isHidden 26 = .ok (.iconst 1, 1) := by decide +kernel
theorem dX1_isHidden_27 : decode cX1_isHidden 27 = .ok (.goto 4, 3) := by decide +kernel
theorem dX1_isHidden_30 : decode cX1_isHidden 30 = .ok (.iconst 0, 1) := by decide +kernel
theorem dX1_isHidden_31 : decode cX1_isHidden 31 = .ok (.ireturn, 1) := by decide +kernel
set_option maxRecDepth 20000 in
theorem ggX1_hiddenOnes_X1_isHidden : GoodIn wsX1_hiddenOnes wsX1_isHidden := goodIn_r _ [7, 8, 9, 10, 11, 6, 12, 13, 17, 18, 19, 20, 21, 22, 23] (by decide +kernel) (by decide +kernel)
set_option maxRecDepth 20000 in
theorem gX1_hiddenOnes_X1_isHidden : GoodIn wsX1_hiddenOnes (wsV RX1 68 RX1 yX1_isHidden wsX1_isHidden) := goodIn_app (goodIn_of _ (by decide +kernel)) ggX1_hiddenOnes_X1_isHidden
set_option maxRecDepth 20000 in
theorem ggX1_hiddenOnes_X3_bit : GoodIn wsX1_hiddenOnes wsX3_bit := goodIn_r _ [16] (by decide +kernel) (by decide +kernel)
set_option maxRecDepth 20000 in
theorem gX1_hiddenOnes_X3_bit_n34 : GoodIn wsX1_hiddenOnes (wsX3_bit) := ggX1_hiddenOnes_X3_bit
theorem dX1_hiddenOnes_0 : decode cX1_hiddenOnes 0 = .ok (.iconst 0, 1) := by decide +kernel
theorem dX1_hiddenOnes_1 : decode cX1_hiddenOnes 1 = .ok (.istore_n 1, 1) := by decide +kernel
theorem dX1_hiddenOnes_2 : decode cX1_hiddenOnes 2 = .ok (.iconst 0, 1) := by decide +kernel
theorem dX1_hiddenOnes_3 : decode cX1_hiddenOnes 3 = .ok (.istore_n 2, 1) := by decide +kernel
theorem dX1_hiddenOnes_4 : decode cX1_hiddenOnes 4 = .ok (.iload_n 2, 1) := by decide +kernel
theorem dX1_hiddenOnes_5 : decode cX1_hiddenOnes 5 = .ok (.aload_n 0, 1) := by decide +kernel
theorem dX1_hiddenOnes_6 : decode cX1_hiddenOnes 6 = .ok (.getfield 9, 3) := by decide +kernel
theorem dX1_hiddenOnes_9 : decode cX1_hiddenOnes 9 = .ok (.if_icmp .ge 28, 3) := by decide +kernel
theorem dX1_hiddenOnes_12 : decode cX1_hiddenOnes 12 = .ok (.aload_n 0, 1) := by decide +kernel
theorem dX1_hiddenOnes_13 : decode cX1_hiddenOnes 13 = .ok (.iload_n 2, 1) := by decide +kernel
theorem dX1_hiddenOnes_14 : decode cX1_hiddenOnes 14 = .ok (.aload_n 0, 1) := by decide +kernel
theorem dX1_hiddenOnes_15 : decode cX1_hiddenOnes 15 = .ok (.getfield 25, 3) := by decide +kernel
theorem dX1_hiddenOnes_18 : decode cX1_hiddenOnes 18 = .ok (.invokevirtual 68, 3) := by decide +kernel
theorem dX1_hiddenOnes_21 : decode cX1_hiddenOnes 21 = .ok (.ifCond .eq 10, 3) := by decide +kernel
theorem dX1_hiddenOnes_24 : decode cX1_hiddenOnes 24 = .ok (.iload_n 1, 1) := by decide +kernel
theorem dX1_hiddenOnes_25 : decode cX1_hiddenOnes 25 = .ok (.iload_n 2, 1) := by decide +kernel
theorem dX1_hiddenOnes_26 : decode cX1_hiddenOnes 26 = .ok (.invokestatic 34, 3) := by decide +kernel
theorem dX1_hiddenOnes_29 : decode cX1_hiddenOnes 29 = .ok (.ior, 1) := by decide +kernel
theorem dX1_hiddenOnes_30 : decode cX1_hiddenOnes 30 = .ok (.istore_n 1, 1) := by decide +kernel
theorem dX1_hiddenOnes_31 : decode cX1_hiddenOnes 31 = .ok (.iinc 2 1, 3) := by decide +kernel
theorem dX1_hiddenOnes_34 : decode cX1_hiddenOnes 34 = .ok (.goto (-30), 3) := by decide +kernel
theorem dX1_hiddenOnes_37 : decode cX1_hiddenOnes 37 = .ok (.iload_n 1, 1) := by decide +kernel
theorem dX1_hiddenOnes_38 : decode cX1_hiddenOnes 38 = .ok (.ireturn, 1) := by decide +kernel
set_option maxRecDepth 20000 in
theorem ggX1_mayBeTaken_X3_isIn : GoodIn wsX1_mayBeTaken wsX3_isIn := goodIn_r _ [4] (by decide +kernel) (by decide +kernel)
set_option maxRecDepth 20000 in
theorem gX1_mayBeTaken_X3_isIn_n71 : GoodIn wsX1_mayBeTaken (wsX3_isIn) := ggX1_mayBeTaken_X3_isIn
set_option maxRecDepth 20000 in
theorem ggX1_mayBeTaken_X1_gradeOf : GoodIn wsX1_mayBeTaken wsX1_gradeOf := goodIn_r _ [9, 10, 11, 12, 8, 13, 14, 15, 16, 17, 18, 19, 27, 28, 29, 30, 31, 32, 33] (by decide +kernel) (by decide +kernel)
set_option maxRecDepth 20000 in
theorem gX1_mayBeTaken_X1_gradeOf : GoodIn wsX1_mayBeTaken (wsV RX1 74 RX1 yX1_gradeOf wsX1_gradeOf) := goodIn_app (goodIn_of _ (by decide +kernel)) ggX1_mayBeTaken_X1_gradeOf
set_option maxRecDepth 20000 in
theorem ggX1_mayBeTaken_X1_isHidden : GoodIn wsX1_mayBeTaken wsX1_isHidden := goodIn_r _ [23, 24, 10, 11, 12, 8, 13, 14, 27, 28, 29, 30, 31, 32, 33] (by decide +kernel) (by decide +kernel)
set_option maxRecDepth 20000 in
theorem gX1_mayBeTaken_X1_isHidden : GoodIn wsX1_mayBeTaken (wsV RX1 68 RX1 yX1_isHidden wsX1_isHidden) := goodIn_app (goodIn_of _ (by decide +kernel)) ggX1_mayBeTaken_X1_isHidden
set_option maxRecDepth 20000 in
theorem ggX1_mayBeTaken_X3_bit : GoodIn wsX1_mayBeTaken wsX3_bit := goodIn_r _ [26] (by decide +kernel) (by decide +kernel)
set_option maxRecDepth 20000 in
theorem gX1_mayBeTaken_X3_bit_n34 : GoodIn wsX1_mayBeTaken (wsX3_bit) := ggX1_mayBeTaken_X3_bit
theorem dX1_mayBeTaken_0 : decode cX1_mayBeTaken 0 = .ok (.iconst 0, 1) := by decide +kernel
theorem dX1_mayBeTaken_1 : decode cX1_mayBeTaken 1 = .ok (.istore_n 2, 1) := by decide +kernel
theorem dX1_mayBeTaken_2 : decode cX1_mayBeTaken 2 = .ok (.iconst 0, 1) := by decide +kernel
theorem dX1_mayBeTaken_3 : decode cX1_mayBeTaken 3 = .ok (.istore_n 3, 1) := by decide +kernel
theorem dX1_mayBeTaken_4 : decode cX1_mayBeTaken 4 = .ok (.iconst 0, 1) := by decide +kernel
theorem dX1_mayBeTaken_5 : decode cX1_mayBeTaken 5 = .ok (.istore 4, 2) := by decide +kernel
theorem dX1_mayBeTaken_7 : decode cX1_mayBeTaken 7 = .ok (.iload 4, 2) := by decide +kernel
theorem dX1_mayBeTaken_9 : decode cX1_mayBeTaken 9 = .ok (.aload_n 0, 1) := by decide +kernel
theorem dX1_mayBeTaken_10 : decode cX1_mayBeTaken 10 = .ok (.getfield 9, 3) := by decide +kernel
theorem dX1_mayBeTaken_13 : decode cX1_mayBeTaken 13 = .ok (.if_icmp .ge 61, 3) := by decide +kernel
theorem dX1_mayBeTaken_16 : decode cX1_mayBeTaken 16 = .ok (.iload_n 1, 1) := by decide +kernel
theorem dX1_mayBeTaken_17 : decode cX1_mayBeTaken 17 = .ok (.iload 4, 2) := by decide +kernel
theorem dX1_mayBeTaken_19 : decode cX1_mayBeTaken 19 = .ok (.invokestatic 71, 3) := by decide +kernel
theorem dX1_mayBeTaken_22 : decode cX1_mayBeTaken 22 = .ok (.ifCond .eq 46, 3) := by decide +kernel
theorem dX1_mayBeTaken_25 : decode cX1_mayBeTaken 25 = .ok (.aload_n 0, 1) := by decide +kernel
theorem dX1_mayBeTaken_26 : decode cX1_mayBeTaken 26 = .ok (.iload 4, 2) := by decide +kernel
theorem dX1_mayBeTaken_28 : decode cX1_mayBeTaken 28 = .ok (.invokevirtual 74, 3) := by decide +kernel
theorem dX1_mayBeTaken_31 : decode cX1_mayBeTaken 31 = .ok (.istore 5, 2) := by decide +kernel
theorem dX1_mayBeTaken_33 : decode cX1_mayBeTaken 33 = .ok (.iload 5, 2) := by decide +kernel
theorem dX1_mayBeTaken_35 : decode cX1_mayBeTaken 35 = .ok (.iload_n 3, 1) := by decide +kernel
theorem dX1_mayBeTaken_36 : decode cX1_mayBeTaken 36 = .ok (.if_icmp .le 8, 3) := by decide +kernel
theorem dX1_mayBeTaken_39 : decode cX1_mayBeTaken 39 = .ok (.iload 5, 2) := by decide +kernel
theorem dX1_mayBeTaken_41 : decode cX1_mayBeTaken 41 = .ok (.istore_n 3, 1) := by decide +kernel
theorem dX1_mayBeTaken_42 : decode cX1_mayBeTaken 42 = .ok (.iconst 0, 1) := by decide +kernel
theorem dX1_mayBeTaken_43 : decode cX1_mayBeTaken 43 = .ok (.istore_n 2, 1) := by decide +kernel
theorem dX1_mayBeTaken_44 : decode cX1_mayBeTaken 44 = .ok (.iload 5, 2) := by decide +kernel
theorem dX1_mayBeTaken_46 : decode cX1_mayBeTaken 46 = .ok (.iload_n 3, 1) := by decide +kernel
theorem dX1_mayBeTaken_47 : decode cX1_mayBeTaken 47 = .ok (.if_icmp .ne 21, 3) := by decide +kernel
theorem dX1_mayBeTaken_50 : decode cX1_mayBeTaken 50 = .ok (.aload_n 0, 1) := by decide +kernel
theorem dX1_mayBeTaken_51 : decode cX1_mayBeTaken 51 = .ok (.iload 4, 2) := by decide +kernel
theorem dX1_mayBeTaken_53 : decode cX1_mayBeTaken 53 = .ok (.iload_n 1, 1) := by decide +kernel
theorem dX1_mayBeTaken_54 : decode cX1_mayBeTaken 54 = .ok (.invokevirtual 68, 3) := by decide +kernel
theorem dX1_mayBeTaken_57 : decode cX1_mayBeTaken 57 = .ok (.ifCond .ne 11, 3) := by decide +kernel
theorem dX1_mayBeTaken_60 : decode cX1_mayBeTaken 60 = .ok (.iload_n 2, 1) := by decide +kernel
theorem dX1_mayBeTaken_61 : decode cX1_mayBeTaken 61 = .ok (.iload 4, 2) := by decide +kernel
theorem dX1_mayBeTaken_63 : decode cX1_mayBeTaken 63 = .ok (.invokestatic 34, 3) := by decide +kernel
theorem dX1_mayBeTaken_66 : decode cX1_mayBeTaken 66 = .ok (.ior, 1) := by decide +kernel
theorem dX1_mayBeTaken_67 : decode cX1_mayBeTaken 67 = .ok (.istore_n 2, 1) := by decide +kernel
theorem dX1_mayBeTaken_68 : decode cX1_mayBeTaken 68 = .ok (.iinc 4 1, 3) := by decide +kernel
theorem dX1_mayBeTaken_71 : decode cX1_mayBeTaken 71 = .ok (.goto (-64), 3) := by decide +kernel
theorem dX1_mayBeTaken_74 : decode cX1_mayBeTaken 74 = .ok (.iload_n 2, 1) := by decide +kernel
theorem dX1_mayBeTaken_75 : decode cX1_mayBeTaken 75 = .ok (.ireturn, 1) := by decide +kernel
set_option maxRecDepth 20000 in
theorem ggX1_fallRow_X1_mayBeTaken : GoodIn wsX1_fallRow wsX1_mayBeTaken := goodIn_r _ [7, 2, 8, 9, 10, 11, 12, 13, 6, 14, 15, 16, 17, 18, 19, 20, 21, 22, 23, 24, 25, 26, 27, 28, 29, 30, 31, 37, 38, 39, 40, 41, 42, 43] (by decide +kernel) (by decide +kernel)
set_option maxRecDepth 20000 in
theorem gX1_fallRow_X1_mayBeTaken : GoodIn wsX1_fallRow (wsV RX1 62 RX1 yX1_mayBeTaken wsX1_mayBeTaken) := goodIn_app (goodIn_of _ (by decide +kernel)) ggX1_fallRow_X1_mayBeTaken
set_option maxRecDepth 20000 in
theorem ggX1_fallRow_X3_leastOf : GoodIn wsX1_fallRow wsX3_leastOf := goodIn_r _ [33, 34, 8, 9, 10] (by decide +kernel) (by decide +kernel)
set_option maxRecDepth 20000 in
theorem gX1_fallRow_X3_leastOf_n65 : GoodIn wsX1_fallRow (wsX3_leastOf) := ggX1_fallRow_X3_leastOf
set_option maxRecDepth 20000 in
theorem ggX1_fallRow_X3_without : GoodIn wsX1_fallRow wsX3_without := goodIn_r _ [36] (by decide +kernel) (by decide +kernel)
set_option maxRecDepth 20000 in
theorem gX1_fallRow_X3_without_n58 : GoodIn wsX1_fallRow (wsX3_without) := ggX1_fallRow_X3_without
theorem dX1_fallRow_0 : decode cX1_fallRow 0 = .ok (.iconst 0, 1) := by decide +kernel
theorem dX1_fallRow_1 : decode cX1_fallRow 1 = .ok (.istore_n 1, 1) := by decide +kernel
theorem dX1_fallRow_2 : decode cX1_fallRow 2 = .ok (.aload_n 0, 1) := by decide +kernel
theorem dX1_fallRow_3 : decode cX1_fallRow 3 = .ok (.getfield 25, 3) := by decide +kernel
theorem dX1_fallRow_6 : decode cX1_fallRow 6 = .ok (.istore_n 2, 1) := by decide +kernel
theorem dX1_fallRow_7 : decode cX1_fallRow 7 = .ok (.iconst 0, 1) := by decide +kernel
theorem dX1_fallRow_8 : decode cX1_fallRow 8 = .ok (.istore_n 3, 1) := by decide +kernel
theorem dX1_fallRow_9 : decode cX1_fallRow 9 = .ok (.iload_n 3, 1) := by decide +kernel
theorem dX1_fallRow_10 : decode cX1_fallRow 10 = .ok (.aload_n 0, 1) := by decide +kernel
theorem dX1_fallRow_11 : decode cX1_fallRow 11 = .ok (.getfield 9, 3) := by decide +kernel
theorem dX1_fallRow_14 : decode cX1_fallRow 14 = .ok (.if_icmp .ge 45, 3) := by decide +kernel
theorem dX1_fallRow_17 : decode cX1_fallRow 17 = .ok (.aload_n 0, 1) := by decide +kernel
theorem dX1_fallRow_18 : decode cX1_fallRow 18 = .ok (.iload_n 2, 1) := by decide +kernel
theorem dX1_fallRow_19 : decode cX1_fallRow 19 = .ok (.invokevirtual 62, 3) := by decide +kernel
theorem dX1_fallRow_22 : decode cX1_fallRow 22 = .ok (.invokestatic 65, 3) := by decide +kernel
theorem dX1_fallRow_25 : decode cX1_fallRow 25 = .ok (.istore 4, 2) := by decide +kernel
theorem dX1_fallRow_27 : decode cX1_fallRow 27 = .ok (.iload 4, 2) := by decide +kernel
theorem dX1_fallRow_29 : decode cX1_fallRow 29 = .ok (.bipush (-9), 2) := by decide +kernel
theorem dX1_fallRow_31 : decode cX1_fallRow 31 = .ok (.if_icmp .ne 5, 3) := by decide +kernel
theorem dX1_fallRow_34 : decode cX1_fallRow 34 = .ok (.iload_n 1, 1) := by decide +kernel
theorem dX1_fallRow_35 : decode cX1_fallRow 35 = .ok (.ireturn, 1) := by decide +kernel
theorem dX1_fallRow_36 : decode cX1_fallRow 36 = .ok (.bipush 10, 2) := by decide +kernel
theorem dX1_fallRow_38 : decode cX1_fallRow 38 = .ok (.iload_n 1, 1) := by decide +kernel
theorem dX1_fallRow_39 : decode cX1_fallRow 39 = .ok (.imul, 1) := by decide +kernel
theorem dX1_fallRow_40 : decode cX1_fallRow 40 = .ok (.iload 4, 2) := by decide +kernel
theorem dX1_fallRow_42 : decode cX1_fallRow 42 = .ok (.iadd, 1) := by decide +kernel
theorem dX1_fallRow_43 : decode cX1_fallRow 43 = .ok (.iconst 1, 1) := by decide +kernel
theorem dX1_fallRow_44 : decode cX1_fallRow 44 = .ok (.iadd, 1) := by decide +kernel
theorem dX1_fallRow_45 : decode cX1_fallRow 45 = .ok (.istore_n 1, 1) := by decide +kernel
theorem dX1_fallRow_46 : decode cX1_fallRow 46 = .ok (.iload_n 2, 1) := by decide +kernel
theorem dX1_fallRow_47 : decode cX1_fallRow 47 = .ok (.iload 4, 2) := by decide +kernel
theorem dX1_fallRow_49 : decode cX1_fallRow 49 = .ok (.invokestatic 58, 3) := by decide +kernel
theorem dX1_fallRow_52 : decode cX1_fallRow 52 = .ok (.istore_n 2, 1) := by decide +kernel
theorem dX1_fallRow_53 : decode cX1_fallRow 53 = .ok (.iinc 3 1, 3) := by decide +kernel
theorem dX1_fallRow_56 : decode cX1_fallRow 56 = .ok (.goto (-47), 3) := by decide +kernel
theorem dX1_fallRow_59 : decode cX1_fallRow 59 = .ok (.iload_n 1, 1) := by decide +kernel
theorem dX1_fallRow_60 : decode cX1_fallRow 60 = .ok (.ireturn, 1) := by decide +kernel
set_option maxRecDepth 20000 in
theorem ggX1_placeOf_X1_mayBeTaken : GoodIn wsX1_placeOf wsX1_mayBeTaken := goodIn_r _ [7, 2, 8, 9, 10, 11, 12, 13, 6, 14, 15, 16, 17, 18, 19, 20, 21, 22, 23, 24, 25, 26, 27, 28, 29, 30, 31, 37, 38, 39, 40, 41, 42, 43] (by decide +kernel) (by decide +kernel)
set_option maxRecDepth 20000 in
theorem gX1_placeOf_X1_mayBeTaken : GoodIn wsX1_placeOf (wsV RX1 62 RX1 yX1_mayBeTaken wsX1_mayBeTaken) := goodIn_app (goodIn_of _ (by decide +kernel)) ggX1_placeOf_X1_mayBeTaken
set_option maxRecDepth 20000 in
theorem ggX1_placeOf_X3_leastOf : GoodIn wsX1_placeOf wsX3_leastOf := goodIn_r _ [33, 34, 8, 9, 10] (by decide +kernel) (by decide +kernel)
set_option maxRecDepth 20000 in
theorem gX1_placeOf_X3_leastOf_n65 : GoodIn wsX1_placeOf (wsX3_leastOf) := ggX1_placeOf_X3_leastOf
set_option maxRecDepth 20000 in
theorem ggX1_placeOf_X3_without : GoodIn wsX1_placeOf wsX3_without := goodIn_r _ [36] (by decide +kernel) (by decide +kernel)
set_option maxRecDepth 20000 in
theorem gX1_placeOf_X3_without_n58 : GoodIn wsX1_placeOf (wsX3_without) := ggX1_placeOf_X3_without
theorem dX1_placeOf_0 : decode cX1_placeOf 0 = .ok (.aload_n 0, 1) := by decide +kernel
theorem dX1_placeOf_1 : decode cX1_placeOf 1 = .ok (.getfield 25, 3) := by decide +kernel
theorem dX1_placeOf_4 : decode cX1_placeOf 4 = .ok (.istore_n 2, 1) := by decide +kernel
theorem dX1_placeOf_5 : decode cX1_placeOf 5 = .ok (.iconst 0, 1) := by decide +kernel
theorem dX1_placeOf_6 : decode cX1_placeOf 6 = .ok (.istore_n 3, 1) := by decide +kernel
theorem dX1_placeOf_7 : decode cX1_placeOf 7 = .ok (.iload_n 3, 1) := by decide +kernel
theorem dX1_placeOf_8 : decode cX1_placeOf 8 = .ok (.aload_n 0, 1) := by decide +kernel
theorem dX1_placeOf_9 : decode cX1_placeOf 9 = .ok (.getfield 9, 3) := by decide +kernel
theorem dX1_placeOf_12 : decode cX1_placeOf 12 = .ok (.if_icmp .ge 53, 3) := by decide +kernel
theorem dX1_placeOf_15 : decode cX1_placeOf 15 = .ok (.aload_n 0, 1) := by decide +kernel
theorem dX1_placeOf_16 : decode cX1_placeOf 16 = .ok (.iload_n 2, 1) := by decide +kernel
theorem dX1_placeOf_17 : decode cX1_placeOf 17 = .ok (.invokevirtual 62, 3) := by decide +kernel
theorem dX1_placeOf_20 : decode cX1_placeOf 20 = .ok (.invokestatic 65, 3) := by decide +kernel
theorem dX1_placeOf_23 : decode cX1_placeOf 23 = .ok (.istore 4, 2) := by decide +kernel
theorem dX1_placeOf_25 : decode cX1_placeOf 25 = .ok (.iload 4, 2) := by decide +kernel
theorem dX1_placeOf_27 : decode cX1_placeOf 27 = .ok (.bipush (-9), 2) := by decide +kernel
theorem dX1_placeOf_29 : decode cX1_placeOf 29 = .ok (.if_icmp .eq 9, 3) := by decide +kernel
theorem dX1_placeOf_32 : decode cX1_placeOf 32 = .ok (.iload 4, 2) := by decide +kernel
theorem dX1_placeOf_34 : decode cX1_placeOf 34 = .ok (.iload_n 1, 1) := by decide +kernel
theorem dX1_placeOf_35 : decode cX1_placeOf 35 = .ok (.if_icmp .ne 17, 3) := by decide +kernel
theorem dX1_placeOf_38 : decode cX1_placeOf 38 = .ok (.iload 4, 2) := by decide +kernel
theorem dX1_placeOf_40 : decode cX1_placeOf 40 = .ok (.bipush (-9), 2) := by decide +kernel
theorem dX1_placeOf_42 : decode cX1_placeOf 42 = .ok (.if_icmp .ne 8, 3) := by decide +kernel
theorem dX1_placeOf_45 : decode cX1_placeOf 45 = .ok (.bipush (-9), 2) := by decide +kernel
theorem dX1_placeOf_47 : decode cX1_placeOf 47 = .ok (.goto 4, 3) := by decide +kernel
theorem dX1_placeOf_50 : decode cX1_placeOf 50 = .ok (.iload_n 3, 1) := by decide +kernel
theorem dX1_placeOf_51 : decode cX1_placeOf 51 = .ok (.ireturn, 1) := by decide +kernel
theorem dX1_placeOf_52 : decode cX1_placeOf 52 = .ok (.iload_n 2, 1) := by decide +kernel
theorem dX1_placeOf_53 : decode cX1_placeOf 53 = .ok (.iload 4, 2) := by decide +kernel
theorem dX1_placeOf_55 : decode cX1_placeOf 55 = .ok (.invokestatic 58, 3) := by decide +kernel
theorem dX1_placeOf_58 : decode cX1_placeOf 58 = .ok (.istore_n 2, 1) := by decide +kernel
theorem dX1_placeOf_59 : decode cX1_placeOf 59 = .ok (.iinc 3 1, 3) := by decide +kernel
theorem dX1_placeOf_62 : decode cX1_placeOf 62 = .ok (.goto (-55), 3) := by decide +kernel
theorem dX1_placeOf_65 : decode cX1_placeOf 65 = .ok (.bipush (-9), 2) := by decide +kernel
theorem dX1_placeOf_67 : decode cX1_placeOf 67 = .ok (.ireturn, 1) := by decide +kernel
set_option maxRecDepth 20000 in
theorem ggX1_worthOf_X1_placeOf : GoodIn wsX1_worthOf wsX1_placeOf := goodIn_r _ [5, 6, 7, 8, 9, 10, 4, 11, 12, 13, 14, 15, 16, 17, 18, 19, 20, 21, 22, 23, 24, 25, 26, 27, 28, 29, 30, 31, 32, 33, 34, 35, 36, 37, 38, 39, 40, 41, 42, 43, 44, 45, 46, 47] (by decide +kernel) (by decide +kernel)
set_option maxRecDepth 20000 in
theorem gX1_worthOf_X1_placeOf : GoodIn wsX1_worthOf (wsV RX1 77 RX1 yX1_placeOf wsX1_placeOf) := goodIn_app (goodIn_of _ (by decide +kernel)) ggX1_worthOf_X1_placeOf
theorem dX1_worthOf_0 : decode cX1_worthOf 0 = .ok (.aload_n 0, 1) := by decide +kernel
theorem dX1_worthOf_1 : decode cX1_worthOf 1 = .ok (.iload_n 1, 1) := by decide +kernel
theorem dX1_worthOf_2 : decode cX1_worthOf 2 = .ok (.invokevirtual 77, 3) := by decide +kernel
theorem dX1_worthOf_5 : decode cX1_worthOf 5 = .ok (.istore_n 2, 1) := by decide +kernel
theorem dX1_worthOf_6 : decode cX1_worthOf 6 = .ok (.iload_n 2, 1) := by decide +kernel
theorem dX1_worthOf_7 : decode cX1_worthOf 7 = .ok (.bipush (-9), 2) := by decide +kernel
theorem dX1_worthOf_9 : decode cX1_worthOf 9 = .ok (.if_icmp .ne 8, 3) := by decide +kernel
theorem dX1_worthOf_12 : decode cX1_worthOf 12 = .ok (.bipush 9, 2) := by decide +kernel
theorem dX1_worthOf_14 : decode cX1_worthOf 14 = .ok (.goto 4, 3) := by decide +kernel
theorem dX1_worthOf_17 : decode cX1_worthOf 17 = .ok (.iload_n 2, 1) := by decide +kernel
theorem dX1_worthOf_18 : decode cX1_worthOf 18 = .ok (.ireturn, 1) := by decide +kernel
set_option maxRecDepth 20000 in
theorem ggX1_leftBehind_X1_mayBeTaken : GoodIn wsX1_leftBehind wsX1_mayBeTaken := goodIn_r _ [6, 1, 7, 8, 9, 10, 11, 12, 5, 13, 14, 15, 16, 17, 18, 19, 20, 21, 22, 23, 24, 25, 26, 27, 28, 29, 30, 31, 32, 33, 34, 35, 36, 37] (by decide +kernel) (by decide +kernel)
set_option maxRecDepth 20000 in
theorem gX1_leftBehind_X1_mayBeTaken : GoodIn wsX1_leftBehind (wsV RX1 62 RX1 yX1_mayBeTaken wsX1_mayBeTaken) := goodIn_app (goodIn_of _ (by decide +kernel)) ggX1_leftBehind_X1_mayBeTaken
theorem dX1_leftBehind_0 : decode cX1_leftBehind 0 = .ok (.iload_n 1, 1) := by decide +kernel
theorem dX1_leftBehind_1 : decode cX1_leftBehind 1 = .ok (.istore_n 2, 1) := by decide +kernel
theorem dX1_leftBehind_2 : decode cX1_leftBehind 2 = .ok (.iconst 0, 1) := by decide +kernel
theorem dX1_leftBehind_3 : decode cX1_leftBehind 3 = .ok (.istore_n 3, 1) := by decide +kernel
theorem dX1_leftBehind_4 : decode cX1_leftBehind 4 = .ok (.iload_n 3, 1) := by decide +kernel
theorem dX1_leftBehind_5 : decode cX1_leftBehind 5 = .ok (.aload_n 0, 1) := by decide +kernel
theorem dX1_leftBehind_6 : decode cX1_leftBehind 6 = .ok (.getfield 9, 3) := by decide +kernel
theorem dX1_leftBehind_9 : decode cX1_leftBehind 9 = .ok (.if_icmp .ge 30, 3) := by decide +kernel
theorem dX1_leftBehind_12 : decode cX1_leftBehind 12 = .ok (.aload_n 0, 1) := by decide +kernel
theorem dX1_leftBehind_13 : decode cX1_leftBehind 13 = .ok (.iload_n 2, 1) := by decide +kernel
theorem dX1_leftBehind_14 : decode cX1_leftBehind 14 = .ok (.invokevirtual 62, 3) := by decide +kernel
theorem dX1_leftBehind_17 : decode cX1_leftBehind 17 = .ok (.istore 4, 2) := by decide +kernel
theorem dX1_leftBehind_19 : decode cX1_leftBehind 19 = .ok (.iload 4, 2) := by decide +kernel
theorem dX1_leftBehind_21 : decode cX1_leftBehind 21 = .ok (.ifCond .ne 5, 3) := by decide +kernel
theorem dX1_leftBehind_24 : decode cX1_leftBehind 24 = .ok (.iload_n 2, 1) := by decide +kernel
theorem dX1_leftBehind_25 : decode cX1_leftBehind 25 = .ok (.ireturn, 1) := by decide +kernel
theorem dX1_leftBehind_26 : decode cX1_leftBehind 26 = .ok (.iload_n 2, 1) := by decide +kernel
theorem dX1_leftBehind_27 : decode cX1_leftBehind 27 = .ok (.iload 4, 2) := by decide +kernel
theorem dX1_leftBehind_29 : decode cX1_leftBehind 29 = .ok (.iconst (-1), 1) := by decide +kernel
theorem dX1_leftBehind_30 : decode cX1_leftBehind 30 = .ok (.ixor, 1) := by decide +kernel
theorem dX1_leftBehind_31 : decode cX1_leftBehind 31 = .ok (.iand, 1) := by decide +kernel
theorem dX1_leftBehind_32 : decode cX1_leftBehind 32 = .ok (.istore_n 2, 1) := by decide +kernel
theorem dX1_leftBehind_33 : decode cX1_leftBehind 33 = .ok (.iinc 3 1, 3) := by decide +kernel
theorem dX1_leftBehind_36 : decode cX1_leftBehind 36 = .ok (.goto (-32), 3) := by decide +kernel
theorem dX1_leftBehind_39 : decode cX1_leftBehind 39 = .ok (.iload_n 2, 1) := by decide +kernel
theorem dX1_leftBehind_40 : decode cX1_leftBehind 40 = .ok (.ireturn, 1) := by decide +kernel
set_option maxRecDepth 20000 in
theorem ggX1_isTaken_X1_leftBehind : GoodIn wsX1_isTaken wsX1_leftBehind := goodIn_r _ [5, 6, 7, 8, 9, 4, 10, 11, 12, 13, 14, 15, 16, 17, 18, 19, 20, 21, 22, 23, 24, 25, 26, 27, 28, 29, 30, 31, 32, 33, 34, 35, 36, 37, 38, 39, 40, 41] (by decide +kernel) (by decide +kernel)
set_option maxRecDepth 20000 in
theorem gX1_isTaken_X1_leftBehind : GoodIn wsX1_isTaken (wsV RX1 80 RX1 yX1_leftBehind wsX1_leftBehind) := goodIn_app (goodIn_of _ (by decide +kernel)) ggX1_isTaken_X1_leftBehind
set_option maxRecDepth 20000 in
theorem ggX1_isTaken_X3_isIn : GoodIn wsX1_isTaken wsX3_isIn := goodIn_r _ [13] (by decide +kernel) (by decide +kernel)
set_option maxRecDepth 20000 in
theorem gX1_isTaken_X3_isIn_n71 : GoodIn wsX1_isTaken (wsX3_isIn) := ggX1_isTaken_X3_isIn
theorem dX1_isTaken_0 : decode cX1_isTaken 0 = .ok (.iload_n 2, 1) := by decide +kernel
theorem dX1_isTaken_1 : decode cX1_isTaken 1 = .ok (.aload_n 0, 1) := by decide +kernel
theorem dX1_isTaken_2 : decode cX1_isTaken 2 = .ok (.iload_n 2, 1) := by decide +kernel
theorem dX1_isTaken_3 : decode cX1_isTaken 3 = .ok (.invokevirtual 80, 3) := by decide +kernel
theorem dX1_isTaken_6 : decode cX1_isTaken 6 = .ok (.iconst (-1), 1) := by decide +kernel
theorem dX1_isTaken_7 : decode cX1_isTaken 7 = .ok (.ixor, 1) := by decide +kernel
theorem dX1_isTaken_8 : decode cX1_isTaken 8 = .ok (.iand, 1) := by decide +kernel
theorem dX1_isTaken_9 : decode cX1_isTaken 9 = .ok (.iload_n 1, 1) := by decide +kernel
theorem dX1_isTaken_10 : decode cX1_isTaken 10 = .ok (.invokestatic 71, 3) := by decide +kernel
theorem dX1_isTaken_13 : decode cX1_isTaken 13 = .ok (.ireturn, 1) := by decide +kernel
set_option maxRecDepth 20000 in
theorem ggX1_countTaken_J6_bitCount_0f7a4 : GoodIn wsX1_countTaken wsJ6_bitCount_0f7a4 := goodIn_r _ [4, 5, 6, 7] (by decide +kernel) (by decide +kernel)
set_option maxRecDepth 20000 in
theorem gX1_countTaken_J6_bitCount_0f7a4 : GoodIn wsX1_countTaken (va_wsS RX1 83 yJ6_bitCount_0f7a4 wsJ6_bitCount_0f7a4) := goodIn_app (goodIn_of _ (by decide +kernel)) ggX1_countTaken_J6_bitCount_0f7a4
set_option maxRecDepth 20000 in
theorem ggX1_countTaken_X1_leftBehind : GoodIn wsX1_countTaken wsX1_leftBehind := goodIn_r _ [12, 13, 14, 15, 16, 11, 17, 18, 19, 20, 21, 22, 23, 24, 25, 26, 27, 28, 29, 30, 31, 32, 33, 34, 35, 36, 37, 38, 39, 40, 41, 42, 43, 44, 45, 46, 47, 48] (by decide +kernel) (by decide +kernel)
set_option maxRecDepth 20000 in
theorem gX1_countTaken_X1_leftBehind : GoodIn wsX1_countTaken (wsV RX1 80 RX1 yX1_leftBehind wsX1_leftBehind) := goodIn_app (goodIn_of _ (by decide +kernel)) ggX1_countTaken_X1_leftBehind
theorem dX1_countTaken_0 : decode cX1_countTaken 0 = .ok (.iload_n 1, 1) := by decide +kernel
theorem dX1_countTaken_1 : decode cX1_countTaken 1 = .ok (.invokestatic 83, 3) := by decide +kernel
theorem dX1_countTaken_4 : decode cX1_countTaken 4 = .ok (.aload_n 0, 1) := by decide +kernel
theorem dX1_countTaken_5 : decode cX1_countTaken 5 = .ok (.iload_n 1, 1) := by decide +kernel
theorem dX1_countTaken_6 : decode cX1_countTaken 6 = .ok (.invokevirtual 80, 3) := by decide +kernel
theorem dX1_countTaken_9 : decode cX1_countTaken 9 = .ok (.invokestatic 83, 3) := by decide +kernel
theorem dX1_countTaken_12 : decode cX1_countTaken 12 = .ok (.isub, 1) := by decide +kernel
theorem dX1_countTaken_13 : decode cX1_countTaken 13 = .ok (.ireturn, 1) := by decide +kernel
theorem dX2_init_0 : decode cX2_init 0 = .ok (.aload_n 0, 1) := by decide +kernel
theorem dX2_init_1 : decode cX2_init 1 = .ok (.invokespecial 3, 3) := by decide +kernel
theorem dX2_init_4 : decode cX2_init 4 = .ok (.aload_n 0, 1) := by decide +kernel
theorem dX2_init_5 : decode cX2_init 5 = .ok (.bipush 48, 2) := by decide +kernel
theorem dX2_init_7 : decode cX2_init 7 = .ok (.newarray .int, 2) := by decide +kernel
theorem dX2_init_9 : decode cX2_init 9 = .ok (.putfield 9, 3) := by decide +kernel
theorem dX2_init_12 : decode cX2_init 12 = .ok (.return_, 1) := by decide +kernel
theorem dX2_append_0 : decode cX2_append 0 = .ok (.aload_n 0, 1) := by decide +kernel
theorem dX2_append_1 : decode cX2_append 1 = .ok (.getfield 15, 3) := by decide +kernel
theorem dX2_append_4 : decode cX2_append 4 = .ok (.bipush 48, 2) := by decide +kernel
theorem dX2_append_6 : decode cX2_append 6 = .ok (.if_icmp .lt 5, 3) := by decide +kernel
theorem dX2_append_9 : decode cX2_append 9 = .ok (.iconst 0, 1) := by decide +kernel
theorem dX2_append_10 : decode cX2_append 10 = .ok (.ireturn, 1) := by decide +kernel
theorem dX2_append_11 : decode cX2_append 11 = .ok (.aload_n 0, 1) := by decide +kernel
theorem dX2_append_12 : decode cX2_append 12 = .ok (.getfield 9, 3) := by decide +kernel
theorem dX2_append_15 : decode cX2_append 15 = .ok (.aload_n 0, 1) := by decide +kernel
theorem dX2_append_16 : decode cX2_append 16 = .ok (.getfield 15, 3) := by decide +kernel
theorem dX2_append_19 : decode cX2_append 19 = .ok (.iload_n 1, 1) := by decide +kernel
theorem dX2_append_20 : decode cX2_append 20 = .ok (.iastore, 1) := by decide +kernel
theorem dX2_append_21 : decode cX2_append 21 = .ok (.aload_n 0, 1) := by decide +kernel
theorem dX2_append_22 : decode cX2_append 22 = .ok (.dup, 1) := by decide +kernel
theorem dX2_append_23 : decode cX2_append 23 = .ok (.getfield 15, 3) := by decide +kernel
theorem dX2_append_26 : decode cX2_append 26 = .ok (.iconst 1, 1) := by decide +kernel
theorem dX2_append_27 : decode cX2_append 27 = .ok (.iadd, 1) := by decide +kernel
theorem dX2_append_28 : decode cX2_append 28 = .ok (.putfield 15, 3) := by decide +kernel
theorem dX2_append_31 : decode cX2_append 31 = .ok (.iconst 1, 1) := by decide +kernel
theorem dX2_append_32 : decode cX2_append 32 = .ok (.ireturn, 1) := by decide +kernel
set_option maxRecDepth 20000 in
theorem ggX2_readInto_X1_clear : GoodIn wsX2_readInto wsX1_clear := goodIn_r _ [5, 6, 7, 8, 9, 10, 11, 12, 72, 73, 74, 75, 76, 77, 78] (by decide +kernel) (by decide +kernel)
set_option maxRecDepth 20000 in
theorem gX2_readInto_X1_clear_n19 : GoodIn wsX2_readInto (wsX1_clear) := ggX2_readInto_X1_clear
set_option maxRecDepth 20000 in
theorem ggX2_readInto_X2_byteAt : GoodIn wsX2_readInto wsX2_byteAt := goodIn_r _ [17, 1, 18, 70, 71] (by decide +kernel) (by decide +kernel)
set_option maxRecDepth 20000 in
theorem gX2_readInto_X2_byteAt : GoodIn wsX2_readInto (wsV RX2 24 RX2 yX2_byteAt wsX2_byteAt) := goodIn_app (goodIn_of _ (by decide +kernel)) ggX2_readInto_X2_byteAt
set_option maxRecDepth 20000 in
theorem ggX2_readInto_X2_readPart : GoodIn wsX2_readInto wsX2_readPart := goodIn_r _ [22, 13, 14, 15, 16, 17, 1, 18, 23, 24, 25, 26, 27, 28, 29, 30, 31, 3, 32, 33, 6, 7, 8, 10, 34, 35, 36, 37, 38, 39, 9, 40, 41, 42, 43, 44, 45, 46, 47, 48, 49, 50, 51, 52, 53, 54, 55, 56, 57, 58, 59, 60, 61, 62, 63, 64, 65, 66, 67, 68, 69, 72, 73, 74, 75, 76, 77, 78, 70, 71] (by decide +kernel) (by decide +kernel)
set_option maxRecDepth 20000 in
theorem gX2_readInto_X2_readPart : GoodIn wsX2_readInto (wsV RX2 28 RX2 yX2_readPart wsX2_readPart) := goodIn_app (goodIn_of _ (by decide +kernel)) ggX2_readInto_X2_readPart
theorem dX2_readInto_0 : decode cX2_readInto 0 = .ok (.aload_n 1, 1) := by decide +kernel
theorem dX2_readInto_1 : decode cX2_readInto 1 = .ok (.invokevirtual 19, 3) := by decide +kernel
theorem dX2_readInto_4 : decode cX2_readInto 4 = .ok (.aload_n 0, 1) := by decide +kernel
theorem dX2_readInto_5 : decode cX2_readInto 5 = .ok (.iconst 0, 1) := by decide +kernel
theorem dX2_readInto_6 : decode cX2_readInto 6 = .ok (.invokevirtual 24, 3) := by decide +kernel
theorem dX2_readInto_9 : decode cX2_readInto 9 = .ok (.bipush 65, 2) := by decide +kernel
theorem dX2_readInto_11 : decode cX2_readInto 11 = .ok (.if_icmp .eq 5, 3) := by decide +kernel
theorem dX2_readInto_14 : decode cX2_readInto 14 = .ok (.iconst 0, 1) := by decide +kernel
theorem dX2_readInto_15 : decode cX2_readInto 15 = .ok (.ireturn, 1) := by decide +kernel
theorem dX2_readInto_16 : decode cX2_readInto 16 = .ok (.iconst 1, 1) := by decide +kernel
theorem dX2_readInto_17 : decode cX2_readInto 17 = .ok (.istore_n 2, 1) := by decide +kernel
theorem dX2_readInto_18 : decode cX2_readInto 18 = .ok (.iload_n 2, 1) := by decide +kernel
theorem dX2_readInto_19 : decode cX2_readInto 19 = .ok (.aload_n 0, 1) := by decide +kernel
theorem dX2_readInto_20 : decode cX2_readInto 20 = .ok (.getfield 15, 3) := by decide +kernel
theorem dX2_readInto_23 : decode cX2_readInto 23 = .ok (.if_icmp .ge 24, 3) := by decide +kernel
theorem dX2_readInto_26 : decode cX2_readInto 26 = .ok (.aload_n 0, 1) := by decide +kernel
theorem dX2_readInto_27 : decode cX2_readInto 27 = .ok (.iload_n 2, 1) := by decide +kernel
theorem dX2_readInto_28 : decode cX2_readInto 28 = .ok (.aload_n 1, 1) := by decide +kernel
theorem dX2_readInto_29 : decode cX2_readInto 29 = .ok (.invokevirtual 28, 3) := by decide +kernel
theorem dX2_readInto_32 : decode cX2_readInto 32 = .ok (.istore_n 3, 1) := by decide +kernel
theorem dX2_readInto_33 : decode cX2_readInto 33 = .ok (.iload_n 3, 1) := by decide +kernel
theorem dX2_readInto_34 : decode cX2_readInto 34 = .ok (.bipush (-9), 2) := by decide +kernel
theorem dX2_readInto_36 : decode cX2_readInto 36 = .ok (.if_icmp .eq 5, 3) := by decide +kernel
theorem dX2_readInto_39 : decode cX2_readInto 39 = .ok (.iload_n 3, 1) := by decide +kernel
theorem dX2_readInto_40 : decode cX2_readInto 40 = .ok (.ireturn, 1) := by decide +kernel
theorem dX2_readInto_41 : decode cX2_readInto 41 = .ok (.iinc 2 3, 3) := by decide +kernel
theorem dX2_readInto_44 : decode cX2_readInto 44 = .ok (.goto (-26), 3) := by decide +kernel
theorem dX2_readInto_47 : decode cX2_readInto 47 = .ok (.bipush (-9), 2) := by decide +kernel
theorem dX2_readInto_49 : decode cX2_readInto 49 = .ok (.ireturn, 1) := by decide +kernel
set_option maxRecDepth 20000 in
theorem ggX2_readPart_X2_byteAt : GoodIn wsX2_readPart wsX2_byteAt := goodIn_r _ [5, 6, 7, 68, 69] (by decide +kernel) (by decide +kernel)
set_option maxRecDepth 20000 in
theorem gX2_readPart_X2_byteAt : GoodIn wsX2_readPart (wsV RX2 24 RX2 yX2_byteAt wsX2_byteAt) := goodIn_app (goodIn_of _ (by decide +kernel)) ggX2_readPart_X2_byteAt
set_option maxRecDepth 20000 in
theorem ggX2_readPart_X2_readPerson : GoodIn wsX2_readPart wsX2_readPerson := goodIn_r _ [11, 12, 13, 14, 4, 15, 1, 2, 3, 5, 6, 7, 16, 17, 18, 19, 20, 21, 22, 23, 24, 25, 26, 68, 69, 61, 62, 63, 64, 65, 66, 67] (by decide +kernel) (by decide +kernel)
set_option maxRecDepth 20000 in
theorem gX2_readPart_X2_readPerson : GoodIn wsX2_readPart (wsV RX2 35 RX2 yX2_readPerson wsX2_readPerson) := goodIn_app (goodIn_of _ (by decide +kernel)) ggX2_readPart_X2_readPerson
set_option maxRecDepth 20000 in
theorem ggX2_readPart_X1_hasPairLeft : GoodIn wsX2_readPart wsX1_hasPairLeft := goodIn_r _ [29, 30, 20, 31, 32, 33, 34, 35, 36, 37, 61, 62, 63, 64, 65, 66, 67] (by decide +kernel) (by decide +kernel)
set_option maxRecDepth 20000 in
theorem gX2_readPart_X1_hasPairLeft_n38 : GoodIn wsX2_readPart (wsX1_hasPairLeft) := ggX2_readPart_X1_hasPairLeft
set_option maxRecDepth 20000 in
theorem ggX2_readPart_X2_readPair : GoodIn wsX2_readPart wsX2_readPair := goodIn_r _ [41, 12, 13, 14, 4, 15, 1, 2, 3, 5, 6, 7, 42, 17, 43, 44, 20, 45, 46, 47, 48, 49, 50, 51, 30, 52, 25, 53, 24, 26, 54, 55, 56, 57, 58, 59, 60, 61, 62, 63, 64, 65, 66, 67, 68, 69] (by decide +kernel) (by decide +kernel)
set_option maxRecDepth 20000 in
theorem gX2_readPart_X2_readPair : GoodIn wsX2_readPart (wsV RX2 42 RX2 yX2_readPair wsX2_readPair) := goodIn_app (goodIn_of _ (by decide +kernel)) ggX2_readPart_X2_readPair
theorem dX2_readPart_0 : decode cX2_readPart 0 = .ok (.aload_n 0, 1) := by decide +kernel
theorem dX2_readPart_1 : decode cX2_readPart 1 = .ok (.iload_n 1, 1) := by decide +kernel
theorem dX2_readPart_2 : decode cX2_readPart 2 = .ok (.invokevirtual 24, 3) := by decide +kernel
theorem dX2_readPart_5 : decode cX2_readPart 5 = .ok (.bipush 80, 2) := by decide +kernel
theorem dX2_readPart_7 : decode cX2_readPart 7 = .ok (.if_icmp .ne 21, 3) := by decide +kernel
theorem dX2_readPart_10 : decode cX2_readPart 10 = .ok (.aload_n 2, 1) := by decide +kernel
theorem dX2_readPart_11 : decode cX2_readPart 11 = .ok (.getfield 32, 3) := by decide +kernel
theorem dX2_readPart_14 : decode cX2_readPart 14 = .ok (.bipush 7, 2) := by decide +kernel
theorem dX2_readPart_16 : decode cX2_readPart 16 = .ok (.if_icmp .ge 12, 3) := by decide +kernel
theorem dX2_readPart_19 : decode cX2_readPart 19 = .ok (.aload_n 0, 1) := by decide +kernel
theorem dX2_readPart_20 : decode cX2_readPart 20 = .ok (.iload_n 1, 1) := by decide +kernel
theorem dX2_readPart_21 : decode cX2_readPart 21 = .ok (.iconst 1, 1) := by decide +kernel
theorem dX2_readPart_22 : decode cX2_readPart 22 = .ok (.iadd, 1) := by decide +kernel
theorem dX2_readPart_23 : decode cX2_readPart 23 = .ok (.aload_n 2, 1) := by decide +kernel
theorem dX2_readPart_24 : decode cX2_readPart 24 = .ok (.invokevirtual 35, 3) := by decide +kernel
theorem dX2_readPart_27 : decode cX2_readPart 27 = .ok (.ireturn, 1) := by decide +kernel
theorem dX2_readPart_28 : decode cX2_readPart 28 = .ok (.aload_n 0, 1) := by decide +kernel
theorem dX2_readPart_29 : decode cX2_readPart 29 = .ok (.iload_n 1, 1) := by decide +kernel
theorem dX2_readPart_30 : decode cX2_readPart 30 = .ok (.invokevirtual 24, 3) := by decide +kernel
theorem dX2_readPart_33 : decode cX2_readPart 33 = .ok (.bipush 70, 2) := by decide +kernel
theorem dX2_readPart_35 : decode cX2_readPart 35 = .ok (.if_icmp .ne 19, 3) := by decide +kernel
theorem dX2_readPart_38 : decode cX2_readPart 38 = .ok (.aload_n 2, 1) := by decide +kernel
theorem dX2_readPart_39 : decode cX2_readPart 39 = .ok (.invokevirtual 38, 3) := by decide +kernel
theorem dX2_readPart_42 : decode cX2_readPart 42 = .ok (.ifCond .eq 12, 3) := by decide +kernel
theorem dX2_readPart_45 : decode cX2_readPart 45 = .ok (.aload_n 0, 1) := by decide +kernel
theorem dX2_readPart_46 : decode cX2_readPart 46 = .ok (.iload_n 1, 1) := by decide +kernel
