theorem dX4_rests_28 : decode cX4_rests 28 = .ok (.iload_n 3, 1) := by decide +kernel
theorem dX4_rests_29 : decode cX4_rests 29 = .ok (.i2l, 1) := by decide +kernel
theorem dX4_rests_30 : decode cX4_rests 30 = .ok (.lconst 0, 1) := by decide +kernel
theorem dX4_rests_31 : decode cX4_rests 31 = .ok (.lconst 1, 1) := by decide +kernel
theorem dX4_rests_32 : decode cX4_rests 32 = .ok (.invokestatic 67, 3) := by decide +kernel
theorem dX4_rests_35 : decode cX4_rests 35 = .ok (.ifCond .ne 6, 3) := by decide +kernel
theorem dX4_rests_38 : decode cX4_rests 38 = .ok (.bipush (-2), 2) := by decide +kernel
theorem dX4_rests_40 : decode cX4_rests 40 = .ok (.ireturn, 1) := by decide +kernel
theorem dX4_rests_41 : decode cX4_rests 41 = .ok (.aload_n 0, 1) := by decide +kernel
theorem dX4_rests_42 : decode cX4_rests 42 = .ok (.getfield 25, 3) := by decide +kernel
theorem dX4_rests_45 : decode cX4_rests 45 = .ok (.bipush 14, 2) := by decide +kernel
theorem dX4_rests_47 : decode cX4_rests 47 = .ok (.iaload, 1) := by decide +kernel
theorem dX4_rests_48 : decode cX4_rests 48 = .ok (.iload_n 1, 1) := by decide +kernel
theorem dX4_rests_49 : decode cX4_rests 49 = .ok (.invokestatic 89, 3) := by decide +kernel
theorem dX4_rests_52 : decode cX4_rests 52 = .ok (.ifCond .eq 17, 3) := by decide +kernel
theorem dX4_rests_55 : decode cX4_rests 55 = .ok (.aload_n 0, 1) := by decide +kernel
theorem dX4_rests_56 : decode cX4_rests 56 = .ok (.getfield 25, 3) := by decide +kernel
theorem dX4_rests_59 : decode cX4_rests 59 = .ok (.bipush 14, 2) := by decide +kernel
theorem dX4_rests_61 : decode cX4_rests 61 = .ok (.iaload, 1) := by decide +kernel
theorem dX4_rests_62 : decode cX4_rests 62 = .ok (.iload_n 2, 1) := by decide +kernel
theorem dX4_rests_63 : decode cX4_rests 63 = .ok (.invokestatic 89, 3) := by decide +kernel
theorem dX4_rests_66 : decode cX4_rests 66 = .ok (.ifCond .ne 6, 3) := by decide +kernel
theorem dX4_rests_69 : decode cX4_rests 69 = .ok (.bipush (-3), 2) := by decide +kernel
theorem dX4_rests_71 : decode cX4_rests 71 = .ok (.ireturn, 1) := by decide +kernel
theorem dX4_rests_72 : decode cX4_rests 72 = .ok (.aload_n 0, 1) := by decide +kernel
theorem dX4_rests_73 : decode cX4_rests 73 = .ok (.iload_n 1, 1) := by decide +kernel
theorem dX4_rests_74 : decode cX4_rests 74 = .ok (.iload_n 2, 1) := by decide +kernel
theorem dX4_rests_75 : decode cX4_rests 75 = .ok (.invokevirtual 214, 3) := by decide +kernel
theorem dX4_rests_78 : decode cX4_rests 78 = .ok (.iload_n 3, 1) := by decide +kernel
theorem dX4_rests_79 : decode cX4_rests 79 = .ok (.ifCond .ne 10, 3) := by decide +kernel
theorem dX4_rests_82 : decode cX4_rests 82 = .ok (.aload_n 0, 1) := by decide +kernel
theorem dX4_rests_83 : decode cX4_rests 83 = .ok (.getfield 204, 3) := by decide +kernel
theorem dX4_rests_86 : decode cX4_rests 86 = .ok (.goto 7, 3) := by decide +kernel
theorem dX4_rests_89 : decode cX4_rests 89 = .ok (.aload_n 0, 1) := by decide +kernel
theorem dX4_rests_90 : decode cX4_rests 90 = .ok (.getfield 207, 3) := by decide +kernel
theorem dX4_rests_93 : decode cX4_rests 93 = .ok (.ireturn, 1) := by decide +kernel
set_option maxRecDepth 20000 in
theorem ggX4_toss_X4_noPerson : GoodIn wsX4_toss wsX4_noPerson := goodIn_r _ [11, 6, 12, 13, 10, 14, 44, 45, 46, 47, 48, 49, 50, 51, 52, 53, 54, 55, 56, 57, 58, 59, 60, 61, 62, 63, 64, 65, 66, 67, 68, 69, 70, 71, 72] (by decide +kernel) (by decide +kernel)
set_option maxRecDepth 20000 in
theorem gX4_toss_X4_noPerson : GoodIn wsX4_toss (wsV RX4 134 RX4 yX4_noPerson wsX4_noPerson) := goodIn_app (goodIn_of _ (by decide +kernel)) ggX4_toss_X4_noPerson
set_option maxRecDepth 20000 in
theorem ggX4_toss_X4_begin : GoodIn wsX4_toss wsX4_begin := goodIn_r _ [18, 5, 4, 44, 45, 46, 47, 48, 49, 50, 51, 52, 53, 54, 55, 56, 57, 58, 59, 60, 61, 62, 63, 64, 65, 66, 67, 68, 69, 70, 71, 72] (by decide +kernel) (by decide +kernel)
set_option maxRecDepth 20000 in
theorem gX4_toss_X4_begin : GoodIn wsX4_toss (wsV RX4 153 RX4 yX4_begin wsX4_begin) := goodIn_app (goodIn_of _ (by decide +kernel)) ggX4_toss_X4_begin
set_option maxRecDepth 20000 in
theorem ggX4_toss_X4_mayOf : GoodIn wsX4_toss wsX4_mayOf := goodIn_r _ [22, 6, 23, 24, 10, 25, 26, 27, 28, 29, 30, 31, 32, 33, 34, 44, 45, 46, 47, 48, 49, 50, 51, 52, 53, 54, 55, 56, 57, 58, 59, 60, 61, 62, 63, 64, 65, 66, 67, 68, 69, 70, 71, 72] (by decide +kernel) (by decide +kernel)
set_option maxRecDepth 20000 in
theorem gX4_toss_X4_mayOf : GoodIn wsX4_toss (wsV RX4 124 RX4 yX4_mayOf wsX4_mayOf) := goodIn_app (goodIn_of _ (by decide +kernel)) ggX4_toss_X4_mayOf
set_option maxRecDepth 20000 in
theorem ggX4_toss_X4_has : GoodIn wsX4_toss wsX4_has := goodIn_r _ [25] (by decide +kernel) (by decide +kernel)
set_option maxRecDepth 20000 in
theorem gX4_toss_X4_has : GoodIn wsX4_toss (va_wsS RX4 89 yX4_has wsX4_has) := goodIn_app (goodIn_of _ (by decide +kernel)) ggX4_toss_X4_has
set_option maxRecDepth 20000 in
theorem ggX4_toss_X4_many : GoodIn wsX4_toss wsX4_many := goodIn_r _ [37] (by decide +kernel) (by decide +kernel)
set_option maxRecDepth 20000 in
theorem gX4_toss_X4_many : GoodIn wsX4_toss (va_wsS RX4 141 yX4_many wsX4_many) := goodIn_app (goodIn_of _ (by decide +kernel)) ggX4_toss_X4_many
set_option maxRecDepth 20000 in
theorem ggX4_toss_X4_fraction : GoodIn wsX4_toss wsX4_fraction := goodIn_r _ [40, 41, 42, 10, 43] (by decide +kernel) (by decide +kernel)
set_option maxRecDepth 20000 in
theorem gX4_toss_X4_fraction : GoodIn wsX4_toss (va_wsS RX4 189 yX4_fraction wsX4_fraction) := goodIn_app (goodIn_of _ (by decide +kernel)) ggX4_toss_X4_fraction
theorem dX4_toss_0 : decode cX4_toss 0 = .ok (.aload_n 0, 1) := by decide +kernel
theorem dX4_toss_1 : decode cX4_toss 1 = .ok (.iconst 0, 1) := by decide +kernel
theorem dX4_toss_2 : decode cX4_toss 2 = .ok (.putfield 60, 3) := by decide +kernel
theorem dX4_toss_5 : decode cX4_toss 5 = .ok (.aload_n 0, 1) := by decide +kernel
theorem dX4_toss_6 : decode cX4_toss 6 = .ok (.iload_n 1, 1) := by decide +kernel
theorem dX4_toss_7 : decode cX4_toss 7 = .ok (.invokevirtual 134, 3) := by decide +kernel
theorem dX4_toss_10 : decode cX4_toss 10 = .ok (.ifCond .eq 5, 3) := by decide +kernel
theorem dX4_toss_13 : decode cX4_toss 13 = .ok (.iconst (-1), 1) := by decide +kernel
theorem dX4_toss_14 : decode cX4_toss 14 = .ok (.ireturn, 1) := by decide +kernel
theorem dX4_toss_15 : decode cX4_toss 15 = .ok (.lconst 1, 1) := by decide +kernel
theorem dX4_toss_16 : decode cX4_toss 16 = .ok (.lstore_n 3, 1) := by decide +kernel
theorem dX4_toss_17 : decode cX4_toss 17 = .ok (.iconst 0, 1) := by decide +kernel
theorem dX4_toss_18 : decode cX4_toss 18 = .ok (.istore 5, 2) := by decide +kernel
theorem dX4_toss_20 : decode cX4_toss 20 = .ok (.iload 5, 2) := by decide +kernel
theorem dX4_toss_22 : decode cX4_toss 22 = .ok (.bipush 7, 2) := by decide +kernel
theorem dX4_toss_24 : decode cX4_toss 24 = .ok (.if_icmp .ge 15, 3) := by decide +kernel
theorem dX4_toss_27 : decode cX4_toss 27 = .ok (.lload_n 3, 1) := by decide +kernel
theorem dX4_toss_28 : decode cX4_toss 28 = .ok (.ldc2_w 217, 3) := by decide +kernel
theorem dX4_toss_31 : decode cX4_toss 31 = .ok (.lmul, 1) := by decide +kernel
theorem dX4_toss_32 : decode cX4_toss 32 = .ok (.lstore_n 3, 1) := by decide +kernel
theorem dX4_toss_33 : decode cX4_toss 33 = .ok (.iinc 5 1, 3) := by decide +kernel
theorem dX4_toss_36 : decode cX4_toss 36 = .ok (.goto (-16), 3) := by decide +kernel
theorem dX4_toss_39 : decode cX4_toss 39 = .ok (.iconst 0, 1) := by decide +kernel
theorem dX4_toss_40 : decode cX4_toss 40 = .ok (.istore 5, 2) := by decide +kernel
theorem dX4_toss_42 : decode cX4_toss 42 = .ok (.iload 5, 2) := by decide +kernel
theorem dX4_toss_44 : decode cX4_toss 44 = .ok (.sipush 128, 3) := by decide +kernel
theorem dX4_toss_47 : decode cX4_toss 47 = .ok (.if_icmp .ge 17, 3) := by decide +kernel
theorem dX4_toss_50 : decode cX4_toss 50 = .ok (.aload_n 0, 1) := by decide +kernel
theorem dX4_toss_51 : decode cX4_toss 51 = .ok (.getfield 56, 3) := by decide +kernel
theorem dX4_toss_54 : decode cX4_toss 54 = .ok (.iload 5, 2) := by decide +kernel
theorem dX4_toss_56 : decode cX4_toss 56 = .ok (.lconst 0, 1) := by decide +kernel
theorem dX4_toss_57 : decode cX4_toss 57 = .ok (.lastore, 1) := by decide +kernel
theorem dX4_toss_58 : decode cX4_toss 58 = .ok (.iinc 5 1, 3) := by decide +kernel
theorem dX4_toss_61 : decode cX4_toss 61 = .ok (.goto (-19), 3) := by decide +kernel
theorem dX4_toss_64 : decode cX4_toss 64 = .ok (.aload_n 0, 1) := by decide +kernel
theorem dX4_toss_65 : decode cX4_toss 65 = .ok (.getfield 56, 3) := by decide +kernel
theorem dX4_toss_68 : decode cX4_toss 68 = .ok (.aload_n 0, 1) := by decide +kernel
theorem dX4_toss_69 : decode cX4_toss 69 = .ok (.getfield 25, 3) := by decide +kernel
theorem dX4_toss_72 : decode cX4_toss 72 = .ok (.bipush 14, 2) := by decide +kernel
theorem dX4_toss_74 : decode cX4_toss 74 = .ok (.iaload, 1) := by decide +kernel
theorem dX4_toss_75 : decode cX4_toss 75 = .ok (.lload_n 3, 1) := by decide +kernel
theorem dX4_toss_76 : decode cX4_toss 76 = .ok (.lastore, 1) := by decide +kernel
theorem dX4_toss_77 : decode cX4_toss 77 = .ok (.lconst 0, 1) := by decide +kernel
theorem dX4_toss_78 : decode cX4_toss 78 = .ok (.lstore 5, 2) := by decide +kernel
theorem dX4_toss_80 : decode cX4_toss 80 = .ok (.aload_n 0, 1) := by decide +kernel
theorem dX4_toss_81 : decode cX4_toss 81 = .ok (.getfield 25, 3) := by decide +kernel
theorem dX4_toss_84 : decode cX4_toss 84 = .ok (.bipush 14, 2) := by decide +kernel
theorem dX4_toss_86 : decode cX4_toss 86 = .ok (.iaload, 1) := by decide +kernel
theorem dX4_toss_87 : decode cX4_toss 87 = .ok (.istore 7, 2) := by decide +kernel
theorem dX4_toss_89 : decode cX4_toss 89 = .ok (.iload 7, 2) := by decide +kernel
theorem dX4_toss_91 : decode cX4_toss 91 = .ok (.ifCond .lt 124, 3) := by decide +kernel
theorem dX4_toss_94 : decode cX4_toss 94 = .ok (.aload_n 0, 1) := by decide +kernel
theorem dX4_toss_95 : decode cX4_toss 95 = .ok (.getfield 56, 3) := by decide +kernel
theorem dX4_toss_98 : decode cX4_toss 98 = .ok (.iload 7, 2) := by decide +kernel
theorem dX4_toss_100 : decode cX4_toss 100 = .ok (.laload, 1) := by decide +kernel
theorem dX4_toss_101 : decode cX4_toss 101 = .ok (.lconst 0, 1) := by decide +kernel
theorem dX4_toss_102 : decode cX4_toss 102 = .ok (.lcmp, 1) := by decide +kernel
theorem dX4_toss_103 : decode cX4_toss 103 = .ok (.ifCond .le 106, 3) := by decide +kernel
theorem dX4_toss_106 : decode cX4_toss 106 = .ok (.aload_n 0, 1) := by decide +kernel
theorem dX4_toss_107 : decode cX4_toss 107 = .ok (.invokevirtual 153, 3) := by decide +kernel
theorem dX4_toss_110 : decode cX4_toss 110 = .ok (.aload_n 0, 1) := by decide +kernel
theorem dX4_toss_111 : decode cX4_toss 111 = .ok (.getfield 28, 3) := by decide +kernel
theorem dX4_toss_114 : decode cX4_toss 114 = .ok (.bipush 14, 2) := by decide +kernel
theorem dX4_toss_116 : decode cX4_toss 116 = .ok (.iload 7, 2) := by decide +kernel
theorem dX4_toss_118 : decode cX4_toss 118 = .ok (.iastore, 1) := by decide +kernel
theorem dX4_toss_119 : decode cX4_toss 119 = .ok (.aload_n 0, 1) := by decide +kernel
theorem dX4_toss_120 : decode cX4_toss 120 = .ok (.aload_n 0, 1) := by decide +kernel
theorem dX4_toss_121 : decode cX4_toss 121 = .ok (.getfield 28, 3) := by decide +kernel
theorem dX4_toss_124 : decode cX4_toss 124 = .ok (.invokevirtual 124, 3) := by decide +kernel
theorem dX4_toss_127 : decode cX4_toss 127 = .ok (.istore 8, 2) := by decide +kernel
theorem dX4_toss_129 : decode cX4_toss 129 = .ok (.iconst 0, 1) := by decide +kernel
theorem dX4_toss_130 : decode cX4_toss 130 = .ok (.istore 9, 2) := by decide +kernel
theorem dX4_toss_132 : decode cX4_toss 132 = .ok (.iload 9, 2) := by decide +kernel
theorem dX4_toss_134 : decode cX4_toss 134 = .ok (.aload_n 0, 1) := by decide +kernel
theorem dX4_toss_135 : decode cX4_toss 135 = .ok (.getfield 64, 3) := by decide +kernel
theorem dX4_toss_138 : decode cX4_toss 138 = .ok (.if_icmp .ge 71, 3) := by decide +kernel
theorem dX4_toss_141 : decode cX4_toss 141 = .ok (.iload 8, 2) := by decide +kernel
theorem dX4_toss_143 : decode cX4_toss 143 = .ok (.iload 9, 2) := by decide +kernel
theorem dX4_toss_145 : decode cX4_toss 145 = .ok (.invokestatic 89, 3) := by decide +kernel
theorem dX4_toss_148 : decode cX4_toss 148 = .ok (.ifCond .eq 55, 3) := by decide +kernel
theorem dX4_toss_151 : decode cX4_toss 151 = .ok (.aload_n 0, 1) := by decide +kernel
theorem dX4_toss_152 : decode cX4_toss 152 = .ok (.getfield 56, 3) := by decide +kernel
theorem dX4_toss_155 : decode cX4_toss 155 = .ok (.iload 7, 2) := by decide +kernel
theorem dX4_toss_157 : decode cX4_toss 157 = .ok (.laload, 1) := by decide +kernel
theorem dX4_toss_158 : decode cX4_toss 158 = .ok (.iload 8, 2) := by decide +kernel
theorem dX4_toss_160 : decode cX4_toss 160 = .ok (.invokestatic 141, 3) := by decide +kernel
theorem dX4_toss_163 : decode cX4_toss 163 = .ok (.i2l, 1) := by decide +kernel
theorem dX4_toss_164 : decode cX4_toss 164 = .ok (.ldiv, 1) := by decide +kernel
theorem dX4_toss_165 : decode cX4_toss 165 = .ok (.lstore 10, 2) := by decide +kernel
theorem dX4_toss_167 : decode cX4_toss 167 = .ok (.aload_n 0, 1) := by decide +kernel
theorem dX4_toss_168 : decode cX4_toss 168 = .ok (.getfield 56, 3) := by decide +kernel
theorem dX4_toss_171 : decode cX4_toss 171 = .ok (.iload 7, 2) := by decide +kernel
theorem dX4_toss_173 : decode cX4_toss 173 = .ok (.iconst 1, 1) := by decide +kernel
theorem dX4_toss_174 : decode cX4_toss 174 = .ok (.iload 9, 2) := by decide +kernel
theorem dX4_toss_176 : decode cX4_toss 176 = .ok (.ishl, 1) := by decide +kernel
theorem dX4_toss_177 : decode cX4_toss 177 = .ok (.iconst (-1), 1) := by decide +kernel
theorem dX4_toss_178 : decode cX4_toss 178 = .ok (.ixor, 1) := by decide +kernel
theorem dX4_toss_179 : decode cX4_toss 179 = .ok (.iand, 1) := by decide +kernel
theorem dX4_toss_180 : decode cX4_toss 180 = .ok (.dup2, 1) := by decide +kernel
theorem dX4_toss_181 : decode cX4_toss 181 = .ok (.laload, 1) := by decide +kernel
theorem dX4_toss_182 : decode cX4_toss 182 = .ok (.lload 10, 2) := by decide +kernel
theorem dX4_toss_184 : decode cX4_toss 184 = .ok (.ladd, 1) := by decide +kernel
theorem dX4_toss_185 : decode cX4_toss 185 = .ok (.lastore, 1) := by decide +kernel
theorem dX4_toss_186 : decode cX4_toss 186 = .ok (.lload 5, 2) := by decide +kernel
theorem dX4_toss_188 : decode cX4_toss 188 = .ok (.iload 9, 2) := by decide +kernel
theorem dX4_toss_190 : decode cX4_toss 190 = .ok (.iload_n 1, 1) := by decide +kernel
theorem dX4_toss_191 : decode cX4_toss 191 = .ok (.if_icmp .ne 8, 3) := by decide +kernel
theorem dX4_toss_194 : decode cX4_toss 194 = .ok (.lload 10, 2) := by decide +kernel
theorem dX4_toss_196 : decode cX4_toss 196 = .ok (.goto 4, 3) := by decide +kernel
theorem dX4_toss_199 : decode cX4_toss 199 = .ok (.lconst 0, 1) := by decide +kernel
theorem dX4_toss_200 : decode cX4_toss 200 = .ok (.ladd, 1) := by decide +kernel
theorem dX4_toss_201 : decode cX4_toss 201 = .ok (.lstore 5, 2) := by decide +kernel
theorem dX4_toss_203 : decode cX4_toss 203 = .ok (.iinc 9 1, 3) := by decide +kernel
theorem dX4_toss_206 : decode cX4_toss 206 = .ok (.goto (-74), 3) := by decide +kernel
theorem dX4_toss_209 : decode cX4_toss 209 = .ok (.iinc 7 (-1), 3) := by decide +kernel
theorem dX4_toss_212 : decode cX4_toss 212 = .ok (.goto (-123), 3) := by decide +kernel
theorem dX4_toss_215 : decode cX4_toss 215 = .ok (.lload 5, 2) := by decide +kernel
theorem dX4_toss_217 : decode cX4_toss 217 = .ok (.lload_n 3, 1) := by decide +kernel
theorem dX4_toss_218 : decode cX4_toss 218 = .ok (.iload_n 2, 1) := by decide +kernel
theorem dX4_toss_219 : decode cX4_toss 219 = .ok (.invokestatic 189, 3) := by decide +kernel
theorem dX4_toss_222 : decode cX4_toss 222 = .ok (.ireturn, 1) := by decide +kernel
theorem dX4_seed_0 : decode cX4_seed 0 = .ok (.aload_n 0, 1) := by decide +kernel
theorem dX4_seed_1 : decode cX4_seed 1 = .ok (.iconst 0, 1) := by decide +kernel
theorem dX4_seed_2 : decode cX4_seed 2 = .ok (.putfield 60, 3) := by decide +kernel
theorem dX4_seed_5 : decode cX4_seed 5 = .ok (.aload_n 0, 1) := by decide +kernel
theorem dX4_seed_6 : decode cX4_seed 6 = .ok (.getfield 219, 3) := by decide +kernel
theorem dX4_seed_9 : decode cX4_seed 9 = .ok (.lstore_n 3, 1) := by decide +kernel
theorem dX4_seed_10 : decode cX4_seed 10 = .ok (.aload_n 0, 1) := by decide +kernel
theorem dX4_seed_11 : decode cX4_seed 11 = .ok (.lload_n 1, 1) := by decide +kernel
theorem dX4_seed_12 : decode cX4_seed 12 = .ok (.putfield 219, 3) := by decide +kernel
theorem dX4_seed_15 : decode cX4_seed 15 = .ok (.lload_n 3, 1) := by decide +kernel
theorem dX4_seed_16 : decode cX4_seed 16 = .ok (.lreturn, 1) := by decide +kernel
set_option maxRecDepth 20000 in
theorem ggX4_days_X4_in : GoodIn wsX4_days wsX4_in := goodIn_r _ [11] (by decide +kernel) (by decide +kernel)
set_option maxRecDepth 20000 in
theorem gX4_days_X4_in : GoodIn wsX4_days (va_wsS RX4 67 yX4_in wsX4_in) := goodIn_app (goodIn_of _ (by decide +kernel)) ggX4_days_X4_in
set_option maxRecDepth 20000 in
theorem ggX4_days_X4_begin : GoodIn wsX4_days wsX4_begin := goodIn_r _ [15, 7, 16, 48, 49, 50, 51, 52, 53, 54, 55, 56, 57, 58, 59, 60, 61, 62, 63, 64, 65, 66, 67, 68, 69, 70, 71, 72, 73, 74, 75, 76] (by decide +kernel) (by decide +kernel)
set_option maxRecDepth 20000 in
theorem gX4_days_X4_begin : GoodIn wsX4_days (wsV RX4 153 RX4 yX4_begin wsX4_begin) := goodIn_app (goodIn_of _ (by decide +kernel)) ggX4_days_X4_begin
set_option maxRecDepth 20000 in
theorem ggX4_days_X4_goDay : GoodIn wsX4_days wsX4_goDay := goodIn_r _ [20, 21, 22, 23, 10, 24, 25, 26, 27, 28, 29, 30, 31, 32, 33, 34, 35, 36, 37, 38, 39, 40, 48, 49, 50, 51, 52, 53, 54, 55, 56, 57, 58, 59, 60, 61, 62, 63, 64, 65, 66, 67, 68, 69, 70, 71, 72, 73, 74, 75, 76] (by decide +kernel) (by decide +kernel)
set_option maxRecDepth 20000 in
theorem gX4_days_X4_goDay : GoodIn wsX4_days (wsV RX4 150 RX4 yX4_goDay wsX4_goDay) := goodIn_app (goodIn_of _ (by decide +kernel)) ggX4_days_X4_goDay
set_option maxRecDepth 20000 in
theorem ggX4_days_X4_noPerson : GoodIn wsX4_days wsX4_noPerson := goodIn_r _ [44, 25, 8, 9, 10, 11, 48, 49, 50, 51, 52, 53, 54, 55, 56, 57, 58, 59, 60, 61, 62, 63, 64, 65, 66, 67, 68, 69, 70, 71, 72, 73, 74, 75, 76] (by decide +kernel) (by decide +kernel)
set_option maxRecDepth 20000 in
theorem gX4_days_X4_noPerson : GoodIn wsX4_days (wsV RX4 134 RX4 yX4_noPerson wsX4_noPerson) := goodIn_app (goodIn_of _ (by decide +kernel)) ggX4_days_X4_noPerson
set_option maxRecDepth 20000 in
theorem ggX4_days_X4_has : GoodIn wsX4_days wsX4_has := goodIn_r _ [28] (by decide +kernel) (by decide +kernel)
set_option maxRecDepth 20000 in
theorem gX4_days_X4_has : GoodIn wsX4_days (va_wsS RX4 89 yX4_has wsX4_has) := goodIn_app (goodIn_of _ (by decide +kernel)) ggX4_days_X4_has
set_option maxRecDepth 20000 in
theorem ggX4_days_X4_goDie : GoodIn wsX4_days wsX4_goDie := goodIn_r _ [47] (by decide +kernel) (by decide +kernel)
set_option maxRecDepth 20000 in
theorem gX4_days_X4_goDie : GoodIn wsX4_days (va_wsS RX4 144 yX4_goDie wsX4_goDie) := goodIn_app (goodIn_of _ (by decide +kernel)) ggX4_days_X4_goDie
theorem dX4_days_0 : decode cX4_days 0 = .ok (.aload_n 0, 1) := by decide +kernel
theorem dX4_days_1 : decode cX4_days 1 = .ok (.iconst 0, 1) := by decide +kernel
theorem dX4_days_2 : decode cX4_days 2 = .ok (.putfield 60, 3) := by decide +kernel
theorem dX4_days_5 : decode cX4_days 5 = .ok (.iload_n 1, 1) := by decide +kernel
theorem dX4_days_6 : decode cX4_days 6 = .ok (.i2l, 1) := by decide +kernel
theorem dX4_days_7 : decode cX4_days 7 = .ok (.lconst 1, 1) := by decide +kernel
theorem dX4_days_8 : decode cX4_days 8 = .ok (.ldc2_w 223, 3) := by decide +kernel
theorem dX4_days_11 : decode cX4_days 11 = .ok (.invokestatic 67, 3) := by decide +kernel
theorem dX4_days_14 : decode cX4_days 14 = .ok (.ifCond .ne 6, 3) := by decide +kernel
theorem dX4_days_17 : decode cX4_days 17 = .ok (.bipush (-2), 2) := by decide +kernel
theorem dX4_days_19 : decode cX4_days 19 = .ok (.ireturn, 1) := by decide +kernel
theorem dX4_days_20 : decode cX4_days 20 = .ok (.aload_n 0, 1) := by decide +kernel
theorem dX4_days_21 : decode cX4_days 21 = .ok (.invokevirtual 153, 3) := by decide +kernel
theorem dX4_days_24 : decode cX4_days 24 = .ok (.iconst 0, 1) := by decide +kernel
theorem dX4_days_25 : decode cX4_days 25 = .ok (.istore_n 2, 1) := by decide +kernel
theorem dX4_days_26 : decode cX4_days 26 = .ok (.iconst 0, 1) := by decide +kernel
theorem dX4_days_27 : decode cX4_days 27 = .ok (.istore_n 3, 1) := by decide +kernel
theorem dX4_days_28 : decode cX4_days 28 = .ok (.iload_n 3, 1) := by decide +kernel
theorem dX4_days_29 : decode cX4_days 29 = .ok (.iload_n 1, 1) := by decide +kernel
theorem dX4_days_30 : decode cX4_days 30 = .ok (.if_icmp .ge 103, 3) := by decide +kernel
theorem dX4_days_33 : decode cX4_days 33 = .ok (.aload_n 0, 1) := by decide +kernel
theorem dX4_days_34 : decode cX4_days 34 = .ok (.aload_n 0, 1) := by decide +kernel
theorem dX4_days_35 : decode cX4_days 35 = .ok (.getfield 219, 3) := by decide +kernel
theorem dX4_days_38 : decode cX4_days 38 = .ok (.ldc2_w 225, 3) := by decide +kernel
theorem dX4_days_41 : decode cX4_days 41 = .ok (.lmul, 1) := by decide +kernel
theorem dX4_days_42 : decode cX4_days 42 = .ok (.ldc2_w 227, 3) := by decide +kernel
theorem dX4_days_45 : decode cX4_days 45 = .ok (.ladd, 1) := by decide +kernel
theorem dX4_days_46 : decode cX4_days 46 = .ok (.putfield 219, 3) := by decide +kernel
theorem dX4_days_49 : decode cX4_days 49 = .ok (.aload_n 0, 1) := by decide +kernel
theorem dX4_days_50 : decode cX4_days 50 = .ok (.getfield 219, 3) := by decide +kernel
theorem dX4_days_53 : decode cX4_days 53 = .ok (.bipush 33, 2) := by decide +kernel
theorem dX4_days_55 : decode cX4_days 55 = .ok (.lushr, 1) := by decide +kernel
theorem dX4_days_56 : decode cX4_days 56 = .ok (.ldc2_w 229, 3) := by decide +kernel
theorem dX4_days_59 : decode cX4_days 59 = .ok (.lrem, 1) := by decide +kernel
theorem dX4_days_60 : decode cX4_days 60 = .ok (.l2i, 1) := by decide +kernel
theorem dX4_days_61 : decode cX4_days 61 = .ok (.istore 4, 2) := by decide +kernel
theorem dX4_days_63 : decode cX4_days 63 = .ok (.iload 4, 2) := by decide +kernel
theorem dX4_days_65 : decode cX4_days 65 = .ok (.bipush 7, 2) := by decide +kernel
theorem dX4_days_67 : decode cX4_days 67 = .ok (.if_icmp .lt 27, 3) := by decide +kernel
theorem dX4_days_70 : decode cX4_days 70 = .ok (.iload_n 2, 1) := by decide +kernel
theorem dX4_days_71 : decode cX4_days 71 = .ok (.aload_n 0, 1) := by decide +kernel
theorem dX4_days_72 : decode cX4_days 72 = .ok (.aload_n 0, 1) := by decide +kernel
theorem dX4_days_73 : decode cX4_days 73 = .ok (.getfield 28, 3) := by decide +kernel
theorem dX4_days_76 : decode cX4_days 76 = .ok (.invokevirtual 150, 3) := by decide +kernel
theorem dX4_days_79 : decode cX4_days 79 = .ok (.bipush (-9), 2) := by decide +kernel
theorem dX4_days_81 : decode cX4_days 81 = .ok (.if_icmp .ne 7, 3) := by decide +kernel
theorem dX4_days_84 : decode cX4_days 84 = .ok (.iconst 0, 1) := by decide +kernel
theorem dX4_days_85 : decode cX4_days 85 = .ok (.goto 4, 3) := by decide +kernel
theorem dX4_days_88 : decode cX4_days 88 = .ok (.iconst 1, 1) := by decide +kernel
theorem dX4_days_89 : decode cX4_days 89 = .ok (.iadd, 1) := by decide +kernel
theorem dX4_days_90 : decode cX4_days 90 = .ok (.istore_n 2, 1) := by decide +kernel
theorem dX4_days_91 : decode cX4_days 91 = .ok (.goto 36, 3) := by decide +kernel
theorem dX4_days_94 : decode cX4_days 94 = .ok (.aload_n 0, 1) := by decide +kernel
theorem dX4_days_95 : decode cX4_days 95 = .ok (.iload 4, 2) := by decide +kernel
theorem dX4_days_97 : decode cX4_days 97 = .ok (.invokevirtual 134, 3) := by decide +kernel
theorem dX4_days_100 : decode cX4_days 100 = .ok (.ifCond .ne 27, 3) := by decide +kernel
theorem dX4_days_103 : decode cX4_days 103 = .ok (.aload_n 0, 1) := by decide +kernel
theorem dX4_days_104 : decode cX4_days 104 = .ok (.getfield 28, 3) := by decide +kernel
theorem dX4_days_107 : decode cX4_days 107 = .ok (.bipush 15, 2) := by decide +kernel
theorem dX4_days_109 : decode cX4_days 109 = .ok (.iaload, 1) := by decide +kernel
theorem dX4_days_110 : decode cX4_days 110 = .ok (.iload 4, 2) := by decide +kernel
theorem dX4_days_112 : decode cX4_days 112 = .ok (.invokestatic 89, 3) := by decide +kernel
theorem dX4_days_115 : decode cX4_days 115 = .ok (.ifCond .ne 12, 3) := by decide +kernel
theorem dX4_days_118 : decode cX4_days 118 = .ok (.aload_n 0, 1) := by decide +kernel
theorem dX4_days_119 : decode cX4_days 119 = .ok (.getfield 28, 3) := by decide +kernel
theorem dX4_days_122 : decode cX4_days 122 = .ok (.iload 4, 2) := by decide +kernel
theorem dX4_days_124 : decode cX4_days 124 = .ok (.invokestatic 144, 3) := by decide +kernel
theorem dX4_days_127 : decode cX4_days 127 = .ok (.iinc 3 1, 3) := by decide +kernel
theorem dX4_days_130 : decode cX4_days 130 = .ok (.goto (-102), 3) := by decide +kernel
theorem dX4_days_133 : decode cX4_days 133 = .ok (.iload_n 2, 1) := by decide +kernel
theorem dX4_days_134 : decode cX4_days 134 = .ok (.ireturn, 1) := by decide +kernel
set_option maxRecDepth 20000 in
theorem ggX4_keep_X4_in : GoodIn wsX4_keep wsX4_in := goodIn_r _ [8] (by decide +kernel) (by decide +kernel)
set_option maxRecDepth 20000 in
theorem gX4_keep_X4_in : GoodIn wsX4_keep (va_wsS RX4 67 yX4_in wsX4_in) := goodIn_app (goodIn_of _ (by decide +kernel)) ggX4_keep_X4_in
theorem dX4_keep_0 : decode cX4_keep 0 = .ok (.aload_n 0, 1) := by decide +kernel
theorem dX4_keep_1 : decode cX4_keep 1 = .ok (.iconst 0, 1) := by decide +kernel
theorem dX4_keep_2 : decode cX4_keep 2 = .ok (.putfield 60, 3) := by decide +kernel
theorem dX4_keep_5 : decode cX4_keep 5 = .ok (.iload_n 1, 1) := by decide +kernel
theorem dX4_keep_6 : decode cX4_keep 6 = .ok (.i2l, 1) := by decide +kernel
theorem dX4_keep_7 : decode cX4_keep 7 = .ok (.lconst 0, 1) := by decide +kernel
theorem dX4_keep_8 : decode cX4_keep 8 = .ok (.lconst 1, 1) := by decide +kernel
theorem dX4_keep_9 : decode cX4_keep 9 = .ok (.invokestatic 67, 3) := by decide +kernel
theorem dX4_keep_12 : decode cX4_keep 12 = .ok (.ifCond .ne 5, 3) := by decide +kernel
theorem dX4_keep_15 : decode cX4_keep 15 = .ok (.iconst (-1), 1) := by decide +kernel
theorem dX4_keep_16 : decode cX4_keep 16 = .ok (.ireturn, 1) := by decide +kernel
theorem dX4_keep_17 : decode cX4_keep 17 = .ok (.aload_n 0, 1) := by decide +kernel
theorem dX4_keep_18 : decode cX4_keep 18 = .ok (.getfield 37, 3) := by decide +kernel
theorem dX4_keep_21 : decode cX4_keep 21 = .ok (.iload_n 1, 1) := by decide +kernel
theorem dX4_keep_22 : decode cX4_keep 22 = .ok (.iconst 1, 1) := by decide +kernel
theorem dX4_keep_23 : decode cX4_keep 23 = .ok (.bastore, 1) := by decide +kernel
theorem dX4_keep_24 : decode cX4_keep 24 = .ok (.iconst 0, 1) := by decide +kernel
theorem dX4_keep_25 : decode cX4_keep 25 = .ok (.istore_n 2, 1) := by decide +kernel
theorem dX4_keep_26 : decode cX4_keep 26 = .ok (.iload_n 2, 1) := by decide +kernel
theorem dX4_keep_27 : decode cX4_keep 27 = .ok (.bipush 17, 2) := by decide +kernel
theorem dX4_keep_29 : decode cX4_keep 29 = .ok (.if_icmp .ge 26, 3) := by decide +kernel
theorem dX4_keep_32 : decode cX4_keep 32 = .ok (.aload_n 0, 1) := by decide +kernel
theorem dX4_keep_33 : decode cX4_keep 33 = .ok (.getfield 34, 3) := by decide +kernel
theorem dX4_keep_36 : decode cX4_keep 36 = .ok (.bipush 17, 2) := by decide +kernel
theorem dX4_keep_38 : decode cX4_keep 38 = .ok (.iload_n 1, 1) := by decide +kernel
theorem dX4_keep_39 : decode cX4_keep 39 = .ok (.imul, 1) := by decide +kernel
theorem dX4_keep_40 : decode cX4_keep 40 = .ok (.iload_n 2, 1) := by decide +kernel
theorem dX4_keep_41 : decode cX4_keep 41 = .ok (.iadd, 1) := by decide +kernel
theorem dX4_keep_42 : decode cX4_keep 42 = .ok (.aload_n 0, 1) := by decide +kernel
theorem dX4_keep_43 : decode cX4_keep 43 = .ok (.getfield 25, 3) := by decide +kernel
theorem dX4_keep_46 : decode cX4_keep 46 = .ok (.iload_n 2, 1) := by decide +kernel
theorem dX4_keep_47 : decode cX4_keep 47 = .ok (.iaload, 1) := by decide +kernel
theorem dX4_keep_48 : decode cX4_keep 48 = .ok (.iastore, 1) := by decide +kernel
theorem dX4_keep_49 : decode cX4_keep 49 = .ok (.iinc 2 1, 3) := by decide +kernel
theorem dX4_keep_52 : decode cX4_keep 52 = .ok (.goto (-26), 3) := by decide +kernel
theorem dX4_keep_55 : decode cX4_keep 55 = .ok (.aload_n 0, 1) := by decide +kernel
theorem dX4_keep_56 : decode cX4_keep 56 = .ok (.getfield 25, 3) := by decide +kernel
theorem dX4_keep_59 : decode cX4_keep 59 = .ok (.bipush 16, 2) := by decide +kernel
theorem dX4_keep_61 : decode cX4_keep 61 = .ok (.iaload, 1) := by decide +kernel
theorem dX4_keep_62 : decode cX4_keep 62 = .ok (.ireturn, 1) := by decide +kernel
set_option maxRecDepth 20000 in
theorem ggX4_again_X4_in : GoodIn wsX4_again wsX4_in := goodIn_r _ [9] (by decide +kernel) (by decide +kernel)
set_option maxRecDepth 20000 in
theorem gX4_again_X4_in : GoodIn wsX4_again (va_wsS RX4 67 yX4_in wsX4_in) := goodIn_app (goodIn_of _ (by decide +kernel)) ggX4_again_X4_in
theorem dX4_again_0 : decode cX4_again 0 = .ok (.aload_n 0, 1) := by decide +kernel
theorem dX4_again_1 : decode cX4_again 1 = .ok (.iconst 0, 1) := by decide +kernel
theorem dX4_again_2 : decode cX4_again 2 = .ok (.putfield 60, 3) := by decide +kernel
theorem dX4_again_5 : decode cX4_again 5 = .ok (.iload_n 1, 1) := by decide +kernel
theorem dX4_again_6 : decode cX4_again 6 = .ok (.i2l, 1) := by decide +kernel
theorem dX4_again_7 : decode cX4_again 7 = .ok (.lconst 0, 1) := by decide +kernel
theorem dX4_again_8 : decode cX4_again 8 = .ok (.lconst 1, 1) := by decide +kernel
theorem dX4_again_9 : decode cX4_again 9 = .ok (.invokestatic 67, 3) := by decide +kernel
theorem dX4_again_12 : decode cX4_again 12 = .ok (.ifCond .ne 5, 3) := by decide +kernel
theorem dX4_again_15 : decode cX4_again 15 = .ok (.iconst (-1), 1) := by decide +kernel
theorem dX4_again_16 : decode cX4_again 16 = .ok (.ireturn, 1) := by decide +kernel
theorem dX4_again_17 : decode cX4_again 17 = .ok (.aload_n 0, 1) := by decide +kernel
theorem dX4_again_18 : decode cX4_again 18 = .ok (.getfield 37, 3) := by decide +kernel
theorem dX4_again_21 : decode cX4_again 21 = .ok (.iload_n 1, 1) := by decide +kernel
theorem dX4_again_22 : decode cX4_again 22 = .ok (.baload, 1) := by decide +kernel
theorem dX4_again_23 : decode cX4_again 23 = .ok (.ifCond .ne 6, 3) := by decide +kernel
theorem dX4_again_26 : decode cX4_again 26 = .ok (.bipush (-3), 2) := by decide +kernel
theorem dX4_again_28 : decode cX4_again 28 = .ok (.ireturn, 1) := by decide +kernel
theorem dX4_again_29 : decode cX4_again 29 = .ok (.iconst 0, 1) := by decide +kernel
theorem dX4_again_30 : decode cX4_again 30 = .ok (.istore_n 2, 1) := by decide +kernel
theorem dX4_again_31 : decode cX4_again 31 = .ok (.iload_n 2, 1) := by decide +kernel
theorem dX4_again_32 : decode cX4_again 32 = .ok (.bipush 17, 2) := by decide +kernel
theorem dX4_again_34 : decode cX4_again 34 = .ok (.if_icmp .ge 26, 3) := by decide +kernel
theorem dX4_again_37 : decode cX4_again 37 = .ok (.aload_n 0, 1) := by decide +kernel
theorem dX4_again_38 : decode cX4_again 38 = .ok (.getfield 25, 3) := by decide +kernel
theorem dX4_again_41 : decode cX4_again 41 = .ok (.iload_n 2, 1) := by decide +kernel
theorem dX4_again_42 : decode cX4_again 42 = .ok (.aload_n 0, 1) := by decide +kernel
theorem dX4_again_43 : decode cX4_again 43 = .ok (.getfield 34, 3) := by decide +kernel
theorem dX4_again_46 : decode cX4_again 46 = .ok (.bipush 17, 2) := by decide +kernel
theorem dX4_again_48 : decode cX4_again 48 = .ok (.iload_n 1, 1) := by decide +kernel
theorem dX4_again_49 : decode cX4_again 49 = .ok (.imul, 1) := by decide +kernel
theorem dX4_again_50 : decode cX4_again 50 = .ok (.iload_n 2, 1) := by decide +kernel
theorem dX4_again_51 : decode cX4_again 51 = .ok (.iadd, 1) := by decide +kernel
theorem dX4_again_52 : decode cX4_again 52 = .ok (.iaload, 1) := by decide +kernel
theorem dX4_again_53 : decode cX4_again 53 = .ok (.iastore, 1) := by decide +kernel
theorem dX4_again_54 : decode cX4_again 54 = .ok (.iinc 2 1, 3) := by decide +kernel
theorem dX4_again_57 : decode cX4_again 57 = .ok (.goto (-26), 3) := by decide +kernel
theorem dX4_again_60 : decode cX4_again 60 = .ok (.aload_n 0, 1) := by decide +kernel
theorem dX4_again_61 : decode cX4_again 61 = .ok (.iconst 0, 1) := by decide +kernel
theorem dX4_again_62 : decode cX4_again 62 = .ok (.putfield 110, 3) := by decide +kernel
theorem dX4_again_65 : decode cX4_again 65 = .ok (.aload_n 0, 1) := by decide +kernel
theorem dX4_again_66 : decode cX4_again 66 = .ok (.getfield 25, 3) := by decide +kernel
theorem dX4_again_69 : decode cX4_again 69 = .ok (.bipush 16, 2) := by decide +kernel
theorem dX4_again_71 : decode cX4_again 71 = .ok (.iaload, 1) := by decide +kernel
theorem dX4_again_72 : decode cX4_again 72 = .ok (.ireturn, 1) := by decide +kernel
theorem dJ6_bitCount_0f7a4_0 : decode cJ6_bitCount_0f7a4 0 = .ok (.iload_n 0, 1) := by decide +kernel
theorem dJ6_bitCount_0f7a4_1 : decode cJ6_bitCount_0f7a4 1 = .ok (.iload_n 0, 1) := by decide +kernel
theorem dJ6_bitCount_0f7a4_2 : decode cJ6_bitCount_0f7a4 2 = .ok (.iconst 1, 1) := by decide +kernel
theorem dJ6_bitCount_0f7a4_3 : decode cJ6_bitCount_0f7a4 3 = .ok (.iushr, 1) := by decide +kernel
theorem dJ6_bitCount_0f7a4_4 : decode cJ6_bitCount_0f7a4 4 = .ok (.ldc_w 265, 3) := by decide +kernel
theorem dJ6_bitCount_0f7a4_7 : decode cJ6_bitCount_0f7a4 7 = .ok (.iand, 1) := by decide +kernel
theorem dJ6_bitCount_0f7a4_8 : decode cJ6_bitCount_0f7a4 8 = .ok (.isub, 1) := by decide +kernel
theorem dJ6_bitCount_0f7a4_9 : decode cJ6_bitCount_0f7a4 9 = .ok (.istore_n 0, 1) := by decide +kernel
theorem dJ6_bitCount_0f7a4_10 : decode cJ6_bitCount_0f7a4 10 = .ok (.iload_n 0, 1) := by decide +kernel
theorem dJ6_bitCount_0f7a4_11 : decode cJ6_bitCount_0f7a4 11 = .ok (.ldc_w 266, 3) := by decide +kernel
theorem dJ6_bitCount_0f7a4_14 : decode cJ6_bitCount_0f7a4 14 = .ok (.iand, 1) := by decide +kernel
theorem dJ6_bitCount_0f7a4_15 : decode cJ6_bitCount_0f7a4 15 = .ok (.iload_n 0, 1) := by decide +kernel
theorem dJ6_bitCount_0f7a4_16 : decode cJ6_bitCount_0f7a4 16 = .ok (.iconst 2, 1) := by decide +kernel
theorem dJ6_bitCount_0f7a4_17 : decode cJ6_bitCount_0f7a4 17 = .ok (.iushr, 1) := by decide +kernel
theorem dJ6_bitCount_0f7a4_18 : decode cJ6_bitCount_0f7a4 18 = .ok (.ldc_w 266, 3) := by decide +kernel
theorem dJ6_bitCount_0f7a4_21 : decode cJ6_bitCount_0f7a4 21 = .ok (.iand, 1) := by decide +kernel
theorem dJ6_bitCount_0f7a4_22 : decode cJ6_bitCount_0f7a4 22 = .ok (.iadd, 1) := by decide +kernel
theorem dJ6_bitCount_0f7a4_23 : decode cJ6_bitCount_0f7a4 23 = .ok (.istore_n 0, 1) := by decide +kernel
theorem dJ6_bitCount_0f7a4_24 : decode cJ6_bitCount_0f7a4 24 = .ok (.iload_n 0, 1) := by decide +kernel
theorem dJ6_bitCount_0f7a4_25 : decode cJ6_bitCount_0f7a4 25 = .ok (.iload_n 0, 1) := by decide +kernel
theorem dJ6_bitCount_0f7a4_26 : decode cJ6_bitCount_0f7a4 26 = .ok (.iconst 4, 1) := by decide +kernel
theorem dJ6_bitCount_0f7a4_27 : decode cJ6_bitCount_0f7a4 27 = .ok (.iushr, 1) := by decide +kernel
theorem dJ6_bitCount_0f7a4_28 : decode cJ6_bitCount_0f7a4 28 = .ok (.iadd, 1) := by decide +kernel
theorem dJ6_bitCount_0f7a4_29 : decode cJ6_bitCount_0f7a4 29 = .ok (.ldc_w 267, 3) := by decide +kernel
theorem dJ6_bitCount_0f7a4_32 : decode cJ6_bitCount_0f7a4 32 = .ok (.iand, 1) := by decide +kernel
theorem dJ6_bitCount_0f7a4_33 : decode cJ6_bitCount_0f7a4 33 = .ok (.istore_n 0, 1) := by decide +kernel
theorem dJ6_bitCount_0f7a4_34 : decode cJ6_bitCount_0f7a4 34 = .ok (.iload_n 0, 1) := by decide +kernel
theorem dJ6_bitCount_0f7a4_35 : decode cJ6_bitCount_0f7a4 35 = .ok (.iload_n 0, 1) := by decide +kernel
theorem dJ6_bitCount_0f7a4_36 : decode cJ6_bitCount_0f7a4 36 = .ok (.bipush 8, 2) := by decide +kernel
theorem dJ6_bitCount_0f7a4_38 : decode cJ6_bitCount_0f7a4 38 = .ok (.iushr, 1) := by decide +kernel
theorem dJ6_bitCount_0f7a4_39 : decode cJ6_bitCount_0f7a4 39 = .ok (.iadd, 1) := by decide +kernel
theorem dJ6_bitCount_0f7a4_40 : decode cJ6_bitCount_0f7a4 40 = .ok (.istore_n 0, 1) := by decide +kernel
theorem dJ6_bitCount_0f7a4_41 : decode cJ6_bitCount_0f7a4 41 = .ok (.iload_n 0, 1) := by decide +kernel
theorem dJ6_bitCount_0f7a4_42 : decode cJ6_bitCount_0f7a4 42 = .ok (.iload_n 0, 1) := by decide +kernel
theorem dJ6_bitCount_0f7a4_43 : decode cJ6_bitCount_0f7a4 43 = .ok (.bipush 16, 2) := by decide +kernel
theorem dJ6_bitCount_0f7a4_45 : decode cJ6_bitCount_0f7a4 45 = .ok (.iushr, 1) := by decide +kernel
theorem dJ6_bitCount_0f7a4_46 : decode cJ6_bitCount_0f7a4 46 = .ok (.iadd, 1) := by decide +kernel
theorem dJ6_bitCount_0f7a4_47 : decode cJ6_bitCount_0f7a4 47 = .ok (.istore_n 0, 1) := by decide +kernel
theorem dJ6_bitCount_0f7a4_48 : decode cJ6_bitCount_0f7a4 48 = .ok (.iload_n 0, 1) := by decide +kernel
theorem dJ6_bitCount_0f7a4_49 : decode cJ6_bitCount_0f7a4 49 = .ok (.bipush 63, 2) := by decide +kernel
theorem dJ6_bitCount_0f7a4_51 : decode cJ6_bitCount_0f7a4 51 = .ok (.iand, 1) := by decide +kernel
theorem dJ6_bitCount_0f7a4_52 : decode cJ6_bitCount_0f7a4 52 = .ok (.ireturn, 1) := by decide +kernel
theorem dJ13_bitCount_95d88_0 : decode cJ13_bitCount_95d88 0 = .ok (.lload_n 0, 1) := by decide +kernel
theorem dJ13_bitCount_95d88_1 : decode cJ13_bitCount_95d88 1 = .ok (.lload_n 0, 1) := by decide +kernel
theorem dJ13_bitCount_95d88_2 : decode cJ13_bitCount_95d88 2 = .ok (.iconst 1, 1) := by decide +kernel
theorem dJ13_bitCount_95d88_3 : decode cJ13_bitCount_95d88 3 = .ok (.lushr, 1) := by decide +kernel
theorem dJ13_bitCount_95d88_4 : decode cJ13_bitCount_95d88 4 = .ok (.ldc2_w 314, 3) := by decide +kernel
theorem dJ13_bitCount_95d88_7 : decode cJ13_bitCount_95d88 7 = .ok (.land, 1) := by decide +kernel
theorem dJ13_bitCount_95d88_8 : decode cJ13_bitCount_95d88 8 = .ok (.lsub, 1) := by decide +kernel
theorem dJ13_bitCount_95d88_9 : decode cJ13_bitCount_95d88 9 = .ok (.lstore_n 0, 1) := by decide +kernel
theorem dJ13_bitCount_95d88_10 : decode cJ13_bitCount_95d88 10 = .ok (.lload_n 0, 1) := by decide +kernel
theorem dJ13_bitCount_95d88_11 : decode cJ13_bitCount_95d88 11 = .ok (.ldc2_w 316, 3) := by decide +kernel
theorem dJ13_bitCount_95d88_14 : decode cJ13_bitCount_95d88 14 = .ok (.land, 1) := by decide +kernel
theorem dJ13_bitCount_95d88_15 : decode cJ13_bitCount_95d88 15 = .ok (.lload_n 0, 1) := by decide +kernel
theorem dJ13_bitCount_95d88_16 : decode cJ13_bitCount_95d88 16 = .ok (.iconst 2, 1) := by decide +kernel
theorem dJ13_bitCount_95d88_17 : decode cJ13_bitCount_95d88 17 = .ok (.lushr, 1) := by decide +kernel
theorem dJ13_bitCount_95d88_18 : decode cJ13_bitCount_95d88 18 = .ok (.ldc2_w 316, 3) := by decide +kernel
theorem dJ13_bitCount_95d88_21 : decode cJ13_bitCount_95d88 21 = .ok (.land, 1) := by decide +kernel
theorem dJ13_bitCount_95d88_22 : decode cJ13_bitCount_95d88 22 = .ok (.ladd, 1) := by decide +kernel
theorem dJ13_bitCount_95d88_23 : decode cJ13_bitCount_95d88 23 = .ok (.lstore_n 0, 1) := by decide +kernel
theorem dJ13_bitCount_95d88_24 : decode cJ13_bitCount_95d88 24 = .ok (.lload_n 0, 1) := by decide +kernel
theorem dJ13_bitCount_95d88_25 : decode cJ13_bitCount_95d88 25 = .ok (.lload_n 0, 1) := by decide +kernel
theorem dJ13_bitCount_95d88_26 : decode cJ13_bitCount_95d88 26 = .ok (.iconst 4, 1) := by decide +kernel
theorem dJ13_bitCount_95d88_27 : decode cJ13_bitCount_95d88 27 = .ok (.lushr, 1) := by decide +kernel
theorem dJ13_bitCount_95d88_28 : decode cJ13_bitCount_95d88 28 = .ok (.ladd, 1) := by decide +kernel
theorem dJ13_bitCount_95d88_29 : decode cJ13_bitCount_95d88 29 = .ok (.ldc2_w 318, 3) := by decide +kernel
theorem dJ13_bitCount_95d88_32 : decode cJ13_bitCount_95d88 32 = .ok (.land, 1) := by decide +kernel
theorem dJ13_bitCount_95d88_33 : decode cJ13_bitCount_95d88 33 = .ok (.lstore_n 0, 1) := by decide +kernel
theorem dJ13_bitCount_95d88_34 : decode cJ13_bitCount_95d88 34 = .ok (.lload_n 0, 1) := by decide +kernel
theorem dJ13_bitCount_95d88_35 : decode cJ13_bitCount_95d88 35 = .ok (.lload_n 0, 1) := by decide +kernel
theorem dJ13_bitCount_95d88_36 : decode cJ13_bitCount_95d88 36 = .ok (.bipush 8, 2) := by decide +kernel
theorem dJ13_bitCount_95d88_38 : decode cJ13_bitCount_95d88 38 = .ok (.lushr, 1) := by decide +kernel
theorem dJ13_bitCount_95d88_39 : decode cJ13_bitCount_95d88 39 = .ok (.ladd, 1) := by decide +kernel
theorem dJ13_bitCount_95d88_40 : decode cJ13_bitCount_95d88 40 = .ok (.lstore_n 0, 1) := by decide +kernel
theorem dJ13_bitCount_95d88_41 : decode cJ13_bitCount_95d88 41 = .ok (.lload_n 0, 1) := by decide +kernel
theorem dJ13_bitCount_95d88_42 : decode cJ13_bitCount_95d88 42 = .ok (.lload_n 0, 1) := by decide +kernel
theorem dJ13_bitCount_95d88_43 : decode cJ13_bitCount_95d88 43 = .ok (.bipush 16, 2) := by decide +kernel
theorem dJ13_bitCount_95d88_45 : decode cJ13_bitCount_95d88 45 = .ok (.lushr, 1) := by decide +kernel
theorem dJ13_bitCount_95d88_46 : decode cJ13_bitCount_95d88 46 = .ok (.ladd, 1) := by decide +kernel
theorem dJ13_bitCount_95d88_47 : decode cJ13_bitCount_95d88 47 = .ok (.lstore_n 0, 1) := by decide +kernel
theorem dJ13_bitCount_95d88_48 : decode cJ13_bitCount_95d88 48 = .ok (.lload_n 0, 1) := by decide +kernel
theorem dJ13_bitCount_95d88_49 : decode cJ13_bitCount_95d88 49 = .ok (.lload_n 0, 1) := by decide +kernel
theorem dJ13_bitCount_95d88_50 : decode cJ13_bitCount_95d88 50 = .ok (.bipush 32, 2) := by decide +kernel
theorem dJ13_bitCount_95d88_52 : decode cJ13_bitCount_95d88 52 = .ok (.lushr, 1) := by decide +kernel
theorem dJ13_bitCount_95d88_53 : decode cJ13_bitCount_95d88 53 = .ok (.ladd, 1) := by decide +kernel
theorem dJ13_bitCount_95d88_54 : decode cJ13_bitCount_95d88 54 = .ok (.lstore_n 0, 1) := by decide +kernel
theorem dJ13_bitCount_95d88_55 : decode cJ13_bitCount_95d88 55 = .ok (.lload_n 0, 1) := by decide +kernel
theorem dJ13_bitCount_95d88_56 : decode cJ13_bitCount_95d88 56 = .ok (.l2i, 1) := by decide +kernel
theorem dJ13_bitCount_95d88_57 : decode cJ13_bitCount_95d88 57 = .ok (.bipush 127, 2) := by decide +kernel
theorem dJ13_bitCount_95d88_59 : decode cJ13_bitCount_95d88 59 = .ok (.iand, 1) := by decide +kernel
theorem dJ13_bitCount_95d88_60 : decode cJ13_bitCount_95d88 60 = .ok (.ireturn, 1) := by decide +kernel
theorem dJ9_abs_0f7a4_0 : decode cJ9_abs_0f7a4 0 = .ok (.iload_n 0, 1) := by decide +kernel
theorem dJ9_abs_0f7a4_1 : decode cJ9_abs_0f7a4 1 = .ok (.ifCond .ge 8, 3) := by decide +kernel
theorem dJ9_abs_0f7a4_4 : decode cJ9_abs_0f7a4 4 = .ok (.iload_n 0, 1) := by decide +kernel
theorem dJ9_abs_0f7a4_5 : decode cJ9_abs_0f7a4 5 = .ok (.ineg, 1) := by decide +kernel
theorem dJ9_abs_0f7a4_6 : decode cJ9_abs_0f7a4 6 = .ok (.goto 4, 3) := by decide +kernel
theorem dJ9_abs_0f7a4_9 : decode cJ9_abs_0f7a4 9 = .ok (.iload_n 0, 1) := by decide +kernel
theorem dJ9_abs_0f7a4_10 : decode cJ9_abs_0f7a4 10 = .ok (.ireturn, 1) := by decide +kernel
