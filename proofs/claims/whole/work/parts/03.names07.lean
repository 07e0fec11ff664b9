theorem dX1_isMove_157 : decode cX1_isMove 157 = .ok (.if_icmp .ne 10, 3) := by decide +kernel
theorem dX1_isMove_160 : decode cX1_isMove 160 = .ok (.aload_n 0, 1) := by decide +kernel
theorem dX1_isMove_161 : decode cX1_isMove 161 = .ok (.iload_n 2, 1) := by decide +kernel
theorem dX1_isMove_162 : decode cX1_isMove 162 = .ok (.iload_n 3, 1) := by decide +kernel
theorem dX1_isMove_163 : decode cX1_isMove 163 = .ok (.invokevirtual 84, 3) := by decide +kernel
theorem dX1_isMove_166 : decode cX1_isMove 166 = .ok (.ireturn, 1) := by decide +kernel
theorem dX1_isMove_167 : decode cX1_isMove 167 = .ok (.aload_n 0, 1) := by decide +kernel
theorem dX1_isMove_168 : decode cX1_isMove 168 = .ok (.iload_n 2, 1) := by decide +kernel
theorem dX1_isMove_169 : decode cX1_isMove 169 = .ok (.iload_n 3, 1) := by decide +kernel
theorem dX1_isMove_170 : decode cX1_isMove 170 = .ok (.invokevirtual 75, 3) := by decide +kernel
theorem dX1_isMove_173 : decode cX1_isMove 173 = .ok (.ifCond .ne 26, 3) := by decide +kernel
theorem dX1_isMove_176 : decode cX1_isMove 176 = .ok (.aload_n 0, 1) := by decide +kernel
theorem dX1_isMove_177 : decode cX1_isMove 177 = .ok (.getfield 7, 3) := by decide +kernel
theorem dX1_isMove_180 : decode cX1_isMove 180 = .ok (.iload_n 2, 1) := by decide +kernel
theorem dX1_isMove_181 : decode cX1_isMove 181 = .ok (.iaload, 1) := by decide +kernel
theorem dX1_isMove_182 : decode cX1_isMove 182 = .ok (.invokestatic 61, 3) := by decide +kernel
theorem dX1_isMove_185 : decode cX1_isMove 185 = .ok (.bipush 6, 2) := by decide +kernel
theorem dX1_isMove_187 : decode cX1_isMove 187 = .ok (.if_icmp .ne 16, 3) := by decide +kernel
theorem dX1_isMove_190 : decode cX1_isMove 190 = .ok (.aload_n 0, 1) := by decide +kernel
theorem dX1_isMove_191 : decode cX1_isMove 191 = .ok (.iload_n 2, 1) := by decide +kernel
theorem dX1_isMove_192 : decode cX1_isMove 192 = .ok (.iload_n 3, 1) := by decide +kernel
theorem dX1_isMove_193 : decode cX1_isMove 193 = .ok (.invokevirtual 87, 3) := by decide +kernel
theorem dX1_isMove_196 : decode cX1_isMove 196 = .ok (.ifCond .eq 7, 3) := by decide +kernel
theorem dX1_isMove_199 : decode cX1_isMove 199 = .ok (.iconst 1, 1) := by decide +kernel
theorem dX1_isMove_200 : decode cX1_isMove 200 = .ok (.goto 4, 3) := by decide +kernel
theorem dX1_isMove_203 : decode cX1_isMove 203 = .ok (.iconst 0, 1) := by decide +kernel
theorem dX1_isMove_204 : decode cX1_isMove 204 = .ok (.ireturn, 1) := by decide +kernel
set_option maxRecDepth 20000 in
theorem ggX1_fits_X1_isMove : GoodIn wsX1_fits wsX1_isMove := goodIn_r _ [6, 7, 8, 9, 10, 5, 11, 12, 13, 14, 15, 16, 17, 18, 19, 20, 21, 22, 23, 24, 25, 26, 27, 28, 29, 30, 31, 32, 33, 34, 35, 36, 37, 38, 39, 40, 41, 42, 43, 44, 45, 46, 47, 48, 49, 50, 51, 52, 53] (by decide +kernel) (by decide +kernel)
set_option maxRecDepth 20000 in
theorem gX1_fits_X1_isMove : GoodIn wsX1_fits (wsV RX1 90 RX1 yX1_isMove wsX1_isMove) := goodIn_app (goodIn_of _ (by decide +kernel)) ggX1_fits_X1_isMove
theorem dX1_fits_0 : decode cX1_fits 0 = .ok (.aload_n 0, 1) := by decide +kernel
theorem dX1_fits_1 : decode cX1_fits 1 = .ok (.iconst 0, 1) := by decide +kernel
theorem dX1_fits_2 : decode cX1_fits 2 = .ok (.putfield 31, 3) := by decide +kernel
theorem dX1_fits_5 : decode cX1_fits 5 = .ok (.aload_n 0, 1) := by decide +kernel
theorem dX1_fits_6 : decode cX1_fits 6 = .ok (.iload_n 1, 1) := by decide +kernel
theorem dX1_fits_7 : decode cX1_fits 7 = .ok (.invokevirtual 90, 3) := by decide +kernel
theorem dX1_fits_10 : decode cX1_fits 10 = .ok (.ireturn, 1) := by decide +kernel
theorem dX1_keep_0 : decode cX1_keep 0 = .ok (.iconst 0, 1) := by decide +kernel
theorem dX1_keep_1 : decode cX1_keep 1 = .ok (.istore_n 2, 1) := by decide +kernel
theorem dX1_keep_2 : decode cX1_keep 2 = .ok (.iload_n 2, 1) := by decide +kernel
theorem dX1_keep_3 : decode cX1_keep 3 = .ok (.bipush 64, 2) := by decide +kernel
theorem dX1_keep_5 : decode cX1_keep 5 = .ok (.if_icmp .ge 30, 3) := by decide +kernel
theorem dX1_keep_8 : decode cX1_keep 8 = .ok (.aload_n 0, 1) := by decide +kernel
theorem dX1_keep_9 : decode cX1_keep 9 = .ok (.getfield 24, 3) := by decide +kernel
theorem dX1_keep_12 : decode cX1_keep 12 = .ok (.bipush 64, 2) := by decide +kernel
theorem dX1_keep_14 : decode cX1_keep 14 = .ok (.aload_n 0, 1) := by decide +kernel
theorem dX1_keep_15 : decode cX1_keep 15 = .ok (.getfield 43, 3) := by decide +kernel
theorem dX1_keep_18 : decode cX1_keep 18 = .ok (.imul, 1) := by decide +kernel
theorem dX1_keep_19 : decode cX1_keep 19 = .ok (.iload_n 2, 1) := by decide +kernel
theorem dX1_keep_20 : decode cX1_keep 20 = .ok (.iadd, 1) := by decide +kernel
theorem dX1_keep_21 : decode cX1_keep 21 = .ok (.aload_n 0, 1) := by decide +kernel
theorem dX1_keep_22 : decode cX1_keep 22 = .ok (.getfield 7, 3) := by decide +kernel
theorem dX1_keep_25 : decode cX1_keep 25 = .ok (.iload_n 2, 1) := by decide +kernel
theorem dX1_keep_26 : decode cX1_keep 26 = .ok (.iaload, 1) := by decide +kernel
theorem dX1_keep_27 : decode cX1_keep 27 = .ok (.i2b, 1) := by decide +kernel
theorem dX1_keep_28 : decode cX1_keep 28 = .ok (.bastore, 1) := by decide +kernel
theorem dX1_keep_29 : decode cX1_keep 29 = .ok (.iinc 2 1, 3) := by decide +kernel
theorem dX1_keep_32 : decode cX1_keep 32 = .ok (.goto (-30), 3) := by decide +kernel
theorem dX1_keep_35 : decode cX1_keep 35 = .ok (.aload_n 0, 1) := by decide +kernel
theorem dX1_keep_36 : decode cX1_keep 36 = .ok (.getfield 28, 3) := by decide +kernel
theorem dX1_keep_39 : decode cX1_keep 39 = .ok (.iconst 5, 1) := by decide +kernel
theorem dX1_keep_40 : decode cX1_keep 40 = .ok (.aload_n 0, 1) := by decide +kernel
theorem dX1_keep_41 : decode cX1_keep 41 = .ok (.getfield 43, 3) := by decide +kernel
theorem dX1_keep_44 : decode cX1_keep 44 = .ok (.imul, 1) := by decide +kernel
theorem dX1_keep_45 : decode cX1_keep 45 = .ok (.aload_n 0, 1) := by decide +kernel
theorem dX1_keep_46 : decode cX1_keep 46 = .ok (.getfield 34, 3) := by decide +kernel
theorem dX1_keep_49 : decode cX1_keep 49 = .ok (.iastore, 1) := by decide +kernel
theorem dX1_keep_50 : decode cX1_keep 50 = .ok (.aload_n 0, 1) := by decide +kernel
theorem dX1_keep_51 : decode cX1_keep 51 = .ok (.getfield 28, 3) := by decide +kernel
theorem dX1_keep_54 : decode cX1_keep 54 = .ok (.iconst 5, 1) := by decide +kernel
theorem dX1_keep_55 : decode cX1_keep 55 = .ok (.aload_n 0, 1) := by decide +kernel
theorem dX1_keep_56 : decode cX1_keep 56 = .ok (.getfield 43, 3) := by decide +kernel
theorem dX1_keep_59 : decode cX1_keep 59 = .ok (.imul, 1) := by decide +kernel
theorem dX1_keep_60 : decode cX1_keep 60 = .ok (.iconst 1, 1) := by decide +kernel
theorem dX1_keep_61 : decode cX1_keep 61 = .ok (.iadd, 1) := by decide +kernel
theorem dX1_keep_62 : decode cX1_keep 62 = .ok (.aload_n 0, 1) := by decide +kernel
theorem dX1_keep_63 : decode cX1_keep 63 = .ok (.getfield 37, 3) := by decide +kernel
theorem dX1_keep_66 : decode cX1_keep 66 = .ok (.iastore, 1) := by decide +kernel
theorem dX1_keep_67 : decode cX1_keep 67 = .ok (.aload_n 0, 1) := by decide +kernel
theorem dX1_keep_68 : decode cX1_keep 68 = .ok (.getfield 28, 3) := by decide +kernel
theorem dX1_keep_71 : decode cX1_keep 71 = .ok (.iconst 5, 1) := by decide +kernel
theorem dX1_keep_72 : decode cX1_keep 72 = .ok (.aload_n 0, 1) := by decide +kernel
theorem dX1_keep_73 : decode cX1_keep 73 = .ok (.getfield 43, 3) := by decide +kernel
theorem dX1_keep_76 : decode cX1_keep 76 = .ok (.imul, 1) := by decide +kernel
theorem dX1_keep_77 : decode cX1_keep 77 = .ok (.iconst 2, 1) := by decide +kernel
theorem dX1_keep_78 : decode cX1_keep 78 = .ok (.iadd, 1) := by decide +kernel
theorem dX1_keep_79 : decode cX1_keep 79 = .ok (.aload_n 0, 1) := by decide +kernel
theorem dX1_keep_80 : decode cX1_keep 80 = .ok (.getfield 13, 3) := by decide +kernel
theorem dX1_keep_83 : decode cX1_keep 83 = .ok (.iastore, 1) := by decide +kernel
theorem dX1_keep_84 : decode cX1_keep 84 = .ok (.aload_n 0, 1) := by decide +kernel
theorem dX1_keep_85 : decode cX1_keep 85 = .ok (.getfield 28, 3) := by decide +kernel
theorem dX1_keep_88 : decode cX1_keep 88 = .ok (.iconst 5, 1) := by decide +kernel
theorem dX1_keep_89 : decode cX1_keep 89 = .ok (.aload_n 0, 1) := by decide +kernel
theorem dX1_keep_90 : decode cX1_keep 90 = .ok (.getfield 43, 3) := by decide +kernel
theorem dX1_keep_93 : decode cX1_keep 93 = .ok (.imul, 1) := by decide +kernel
theorem dX1_keep_94 : decode cX1_keep 94 = .ok (.iconst 3, 1) := by decide +kernel
theorem dX1_keep_95 : decode cX1_keep 95 = .ok (.iadd, 1) := by decide +kernel
theorem dX1_keep_96 : decode cX1_keep 96 = .ok (.aload_n 0, 1) := by decide +kernel
theorem dX1_keep_97 : decode cX1_keep 97 = .ok (.getfield 40, 3) := by decide +kernel
theorem dX1_keep_100 : decode cX1_keep 100 = .ok (.iastore, 1) := by decide +kernel
theorem dX1_keep_101 : decode cX1_keep 101 = .ok (.aload_n 0, 1) := by decide +kernel
theorem dX1_keep_102 : decode cX1_keep 102 = .ok (.getfield 28, 3) := by decide +kernel
theorem dX1_keep_105 : decode cX1_keep 105 = .ok (.iconst 5, 1) := by decide +kernel
theorem dX1_keep_106 : decode cX1_keep 106 = .ok (.aload_n 0, 1) := by decide +kernel
theorem dX1_keep_107 : decode cX1_keep 107 = .ok (.getfield 43, 3) := by decide +kernel
theorem dX1_keep_110 : decode cX1_keep 110 = .ok (.imul, 1) := by decide +kernel
theorem dX1_keep_111 : decode cX1_keep 111 = .ok (.iconst 4, 1) := by decide +kernel
theorem dX1_keep_112 : decode cX1_keep 112 = .ok (.iadd, 1) := by decide +kernel
theorem dX1_keep_113 : decode cX1_keep 113 = .ok (.aload_n 0, 1) := by decide +kernel
theorem dX1_keep_114 : decode cX1_keep 114 = .ok (.getfield 17, 3) := by decide +kernel
theorem dX1_keep_117 : decode cX1_keep 117 = .ok (.iastore, 1) := by decide +kernel
theorem dX1_keep_118 : decode cX1_keep 118 = .ok (.aload_n 0, 1) := by decide +kernel
theorem dX1_keep_119 : decode cX1_keep 119 = .ok (.getfield 20, 3) := by decide +kernel
theorem dX1_keep_122 : decode cX1_keep 122 = .ok (.aload_n 0, 1) := by decide +kernel
theorem dX1_keep_123 : decode cX1_keep 123 = .ok (.getfield 43, 3) := by decide +kernel
theorem dX1_keep_126 : decode cX1_keep 126 = .ok (.iload_n 1, 1) := by decide +kernel
theorem dX1_keep_127 : decode cX1_keep 127 = .ok (.iastore, 1) := by decide +kernel
theorem dX1_keep_128 : decode cX1_keep 128 = .ok (.aload_n 0, 1) := by decide +kernel
theorem dX1_keep_129 : decode cX1_keep 129 = .ok (.dup, 1) := by decide +kernel
theorem dX1_keep_130 : decode cX1_keep 130 = .ok (.getfield 43, 3) := by decide +kernel
theorem dX1_keep_133 : decode cX1_keep 133 = .ok (.iconst 1, 1) := by decide +kernel
theorem dX1_keep_134 : decode cX1_keep 134 = .ok (.iadd, 1) := by decide +kernel
theorem dX1_keep_135 : decode cX1_keep 135 = .ok (.putfield 43, 3) := by decide +kernel
theorem dX1_keep_138 : decode cX1_keep 138 = .ok (.return_, 1) := by decide +kernel
theorem dX1_corner_0 : decode cX1_corner 0 = .ok (.iload_n 0, 1) := by decide +kernel
theorem dX1_corner_1 : decode cX1_corner 1 = .ok (.bipush 7, 2) := by decide +kernel
theorem dX1_corner_3 : decode cX1_corner 3 = .ok (.if_icmp .ne 7, 3) := by decide +kernel
theorem dX1_corner_6 : decode cX1_corner 6 = .ok (.iconst 1, 1) := by decide +kernel
theorem dX1_corner_7 : decode cX1_corner 7 = .ok (.goto 33, 3) := by decide +kernel
theorem dX1_corner_10 : decode cX1_corner 10 = .ok (.iload_n 0, 1) := by decide +kernel
theorem dX1_corner_11 : decode cX1_corner 11 = .ok (.ifCond .ne 7, 3) := by decide +kernel
theorem dX1_corner_14 : decode cX1_corner 14 = .ok (.iconst 2, 1) := by decide +kernel
theorem dX1_corner_15 : decode cX1_corner 15 = .ok (.goto 25, 3) := by decide +kernel
theorem dX1_corner_18 : decode cX1_corner 18 = .ok (.iload_n 0, 1) := by decide +kernel
theorem dX1_corner_19 : decode cX1_corner 19 = .ok (.bipush 63, 2) := by decide +kernel
theorem dX1_corner_21 : decode cX1_corner 21 = .ok (.if_icmp .ne 7, 3) := by decide +kernel
theorem dX1_corner_24 : decode cX1_corner 24 = .ok (.iconst 4, 1) := by decide +kernel
theorem dX1_corner_25 : decode cX1_corner 25 = .ok (.goto 15, 3) := by decide +kernel
theorem dX1_corner_28 : decode cX1_corner 28 = .ok (.iload_n 0, 1) := by decide +kernel
theorem dX1_corner_29 : decode cX1_corner 29 = .ok (.bipush 56, 2) := by decide +kernel
theorem dX1_corner_31 : decode cX1_corner 31 = .ok (.if_icmp .ne 8, 3) := by decide +kernel
theorem dX1_corner_34 : decode cX1_corner 34 = .ok (.bipush 8, 2) := by decide +kernel
theorem dX1_corner_36 : decode cX1_corner 36 = .ok (.goto 4, 3) := by decide +kernel
theorem dX1_corner_39 : decode cX1_corner 39 = .ok (.iconst 0, 1) := by decide +kernel
theorem dX1_corner_40 : decode cX1_corner 40 = .ok (.ireturn, 1) := by decide +kernel
set_option maxRecDepth 20000 in
theorem ggX1_make_X1_isMove : GoodIn wsX1_make wsX1_isMove := goodIn_r _ [13, 3, 4, 14, 15, 12, 16, 17, 18, 19, 20, 21, 22, 23, 24, 25, 26, 27, 28, 29, 30, 31, 32, 33, 34, 35, 36, 37, 38, 6, 39, 40, 41, 42, 43, 44, 45, 5, 60, 61, 62, 63, 64, 65, 66, 67, 68, 69, 70] (by decide +kernel) (by decide +kernel)
set_option maxRecDepth 20000 in
theorem gX1_make_X1_isMove : GoodIn wsX1_make (wsV RX1 90 RX1 yX1_isMove wsX1_isMove) := goodIn_app (goodIn_of _ (by decide +kernel)) ggX1_make_X1_isMove
set_option maxRecDepth 20000 in
theorem ggX1_make_X1_kindOf : GoodIn wsX1_make wsX1_kindOf := goodIn_r _ [16] (by decide +kernel) (by decide +kernel)
set_option maxRecDepth 20000 in
theorem gX1_make_X1_kindOf : GoodIn wsX1_make (va_wsS RX1 61 yX1_kindOf wsX1_kindOf) := goodIn_app (goodIn_of _ (by decide +kernel)) ggX1_make_X1_kindOf
set_option maxRecDepth 20000 in
theorem ggX1_make_X1_attacks : GoodIn wsX1_make wsX1_attacks := goodIn_r _ [27, 3, 14, 15, 12, 16, 28, 29, 30, 17, 18, 19, 31, 32, 33, 34, 60, 61, 62, 63, 64, 65, 66, 67, 68, 69, 70] (by decide +kernel) (by decide +kernel)
set_option maxRecDepth 20000 in
theorem gX1_make_X1_attacks : GoodIn wsX1_make (wsV RX1 75 RX1 yX1_attacks wsX1_attacks) := goodIn_app (goodIn_of _ (by decide +kernel)) ggX1_make_X1_attacks
set_option maxRecDepth 20000 in
theorem ggX1_make_X1_takesPassing : GoodIn wsX1_make wsX1_takesPassing := goodIn_r _ [38, 4, 6, 3, 24, 25, 26, 12, 27, 14, 15, 16, 28, 29, 30, 17, 18, 19, 31, 32, 33, 34, 39, 40, 41, 60, 61, 62, 63, 64, 65, 66, 67, 68, 69, 70] (by decide +kernel) (by decide +kernel)
set_option maxRecDepth 20000 in
theorem gX1_make_X1_takesPassing : GoodIn wsX1_make (wsV RX1 81 RX1 yX1_takesPassing wsX1_takesPassing) := goodIn_app (goodIn_of _ (by decide +kernel)) ggX1_make_X1_takesPassing
set_option maxRecDepth 20000 in
theorem ggX1_make_X1_keep : GoodIn wsX1_make wsX1_keep := goodIn_r _ [49, 50, 1, 3, 51, 4, 5, 6, 7, 8, 52, 60, 61, 62, 63, 64, 65, 66, 67, 68, 69, 70] (by decide +kernel) (by decide +kernel)
set_option maxRecDepth 20000 in
theorem gX1_make_X1_keep : GoodIn wsX1_make (wsV RX1 93 RX1 yX1_keep wsX1_keep) := goodIn_app (goodIn_of _ (by decide +kernel)) ggX1_make_X1_keep
set_option maxRecDepth 20000 in
theorem ggX1_make_X1_corner : GoodIn wsX1_make wsX1_corner := goodIn_r _ [55] (by decide +kernel) (by decide +kernel)
set_option maxRecDepth 20000 in
theorem gX1_make_X1_corner : GoodIn wsX1_make (va_wsS RX1 97 yX1_corner wsX1_corner) := goodIn_app (goodIn_of _ (by decide +kernel)) ggX1_make_X1_corner
set_option maxRecDepth 20000 in
theorem ggX1_make_X1_apart : GoodIn wsX1_make wsX1_apart := goodIn_r _ [30] (by decide +kernel) (by decide +kernel)
set_option maxRecDepth 20000 in
theorem gX1_make_X1_apart : GoodIn wsX1_make (va_wsS RX1 64 yX1_apart wsX1_apart) := goodIn_app (goodIn_of _ (by decide +kernel)) ggX1_make_X1_apart
set_option maxRecDepth 20000 in
theorem ggX1_make_X1_pawnAttacks : GoodIn wsX1_make wsX1_pawnAttacks := goodIn_r _ [59, 3, 24, 25, 26, 12, 27, 14, 15, 16, 28, 29, 30, 17, 18, 19, 31, 32, 33, 34, 60, 61, 62, 63, 64, 65, 66, 67, 68, 69, 70] (by decide +kernel) (by decide +kernel)
set_option maxRecDepth 20000 in
theorem gX1_make_X1_pawnAttacks : GoodIn wsX1_make (wsV RX1 100 RX1 yX1_pawnAttacks wsX1_pawnAttacks) := goodIn_app (goodIn_of _ (by decide +kernel)) ggX1_make_X1_pawnAttacks
theorem dX1_make_0 : decode cX1_make 0 = .ok (.aload_n 0, 1) := by decide +kernel
theorem dX1_make_1 : decode cX1_make 1 = .ok (.aload_n 0, 1) := by decide +kernel
theorem dX1_make_2 : decode cX1_make 2 = .ok (.iload_n 1, 1) := by decide +kernel
theorem dX1_make_3 : decode cX1_make 3 = .ok (.invokevirtual 90, 3) := by decide +kernel
theorem dX1_make_6 : decode cX1_make 6 = .ok (.ifCond .ne 7, 3) := by decide +kernel
theorem dX1_make_9 : decode cX1_make 9 = .ok (.iconst 1, 1) := by decide +kernel
theorem dX1_make_10 : decode cX1_make 10 = .ok (.goto 18, 3) := by decide +kernel
theorem dX1_make_13 : decode cX1_make 13 = .ok (.aload_n 0, 1) := by decide +kernel
theorem dX1_make_14 : decode cX1_make 14 = .ok (.getfield 43, 3) := by decide +kernel
theorem dX1_make_17 : decode cX1_make 17 = .ok (.sipush 600, 3) := by decide +kernel
theorem dX1_make_20 : decode cX1_make 20 = .ok (.if_icmp .ne 7, 3) := by decide +kernel
theorem dX1_make_23 : decode cX1_make 23 = .ok (.iconst 2, 1) := by decide +kernel
theorem dX1_make_24 : decode cX1_make 24 = .ok (.goto 4, 3) := by decide +kernel
theorem dX1_make_27 : decode cX1_make 27 = .ok (.iconst 0, 1) := by decide +kernel
theorem dX1_make_28 : decode cX1_make 28 = .ok (.putfield 31, 3) := by decide +kernel
theorem dX1_make_31 : decode cX1_make 31 = .ok (.aload_n 0, 1) := by decide +kernel
theorem dX1_make_32 : decode cX1_make 32 = .ok (.getfield 31, 3) := by decide +kernel
theorem dX1_make_35 : decode cX1_make 35 = .ok (.ifCond .le 5, 3) := by decide +kernel
theorem dX1_make_38 : decode cX1_make 38 = .ok (.iconst 0, 1) := by decide +kernel
theorem dX1_make_39 : decode cX1_make 39 = .ok (.ireturn, 1) := by decide +kernel
theorem dX1_make_40 : decode cX1_make 40 = .ok (.iload_n 1, 1) := by decide +kernel
theorem dX1_make_41 : decode cX1_make 41 = .ok (.bipush 64, 2) := by decide +kernel
theorem dX1_make_43 : decode cX1_make 43 = .ok (.irem, 1) := by decide +kernel
theorem dX1_make_44 : decode cX1_make 44 = .ok (.istore_n 2, 1) := by decide +kernel
theorem dX1_make_45 : decode cX1_make 45 = .ok (.iload_n 1, 1) := by decide +kernel
theorem dX1_make_46 : decode cX1_make 46 = .ok (.bipush 64, 2) := by decide +kernel
theorem dX1_make_48 : decode cX1_make 48 = .ok (.idiv, 1) := by decide +kernel
theorem dX1_make_49 : decode cX1_make 49 = .ok (.bipush 64, 2) := by decide +kernel
theorem dX1_make_51 : decode cX1_make 51 = .ok (.irem, 1) := by decide +kernel
theorem dX1_make_52 : decode cX1_make 52 = .ok (.istore_n 3, 1) := by decide +kernel
theorem dX1_make_53 : decode cX1_make 53 = .ok (.iload_n 1, 1) := by decide +kernel
theorem dX1_make_54 : decode cX1_make 54 = .ok (.sipush 4096, 3) := by decide +kernel
theorem dX1_make_57 : decode cX1_make 57 = .ok (.idiv, 1) := by decide +kernel
theorem dX1_make_58 : decode cX1_make 58 = .ok (.istore 4, 2) := by decide +kernel
theorem dX1_make_60 : decode cX1_make 60 = .ok (.aload_n 0, 1) := by decide +kernel
theorem dX1_make_61 : decode cX1_make 61 = .ok (.getfield 7, 3) := by decide +kernel
theorem dX1_make_64 : decode cX1_make 64 = .ok (.iload_n 2, 1) := by decide +kernel
theorem dX1_make_65 : decode cX1_make 65 = .ok (.iaload, 1) := by decide +kernel
theorem dX1_make_66 : decode cX1_make 66 = .ok (.istore 5, 2) := by decide +kernel
theorem dX1_make_68 : decode cX1_make 68 = .ok (.iload 5, 2) := by decide +kernel
theorem dX1_make_70 : decode cX1_make 70 = .ok (.invokestatic 61, 3) := by decide +kernel
theorem dX1_make_73 : decode cX1_make 73 = .ok (.iconst 1, 1) := by decide +kernel
theorem dX1_make_74 : decode cX1_make 74 = .ok (.if_icmp .ne 7, 3) := by decide +kernel
theorem dX1_make_77 : decode cX1_make 77 = .ok (.iconst 1, 1) := by decide +kernel
theorem dX1_make_78 : decode cX1_make 78 = .ok (.goto 4, 3) := by decide +kernel
theorem dX1_make_81 : decode cX1_make 81 = .ok (.iconst 0, 1) := by decide +kernel
theorem dX1_make_82 : decode cX1_make 82 = .ok (.istore 6, 2) := by decide +kernel
theorem dX1_make_84 : decode cX1_make 84 = .ok (.iload 5, 2) := by decide +kernel
theorem dX1_make_86 : decode cX1_make 86 = .ok (.invokestatic 61, 3) := by decide +kernel
theorem dX1_make_89 : decode cX1_make 89 = .ok (.bipush 6, 2) := by decide +kernel
theorem dX1_make_91 : decode cX1_make 91 = .ok (.if_icmp .ne 16, 3) := by decide +kernel
theorem dX1_make_94 : decode cX1_make 94 = .ok (.aload_n 0, 1) := by decide +kernel
theorem dX1_make_95 : decode cX1_make 95 = .ok (.iload_n 2, 1) := by decide +kernel
theorem dX1_make_96 : decode cX1_make 96 = .ok (.iload_n 3, 1) := by decide +kernel
theorem dX1_make_97 : decode cX1_make 97 = .ok (.invokevirtual 75, 3) := by decide +kernel
theorem dX1_make_100 : decode cX1_make 100 = .ok (.ifCond .ne 7, 3) := by decide +kernel
theorem dX1_make_103 : decode cX1_make 103 = .ok (.iconst 1, 1) := by decide +kernel
theorem dX1_make_104 : decode cX1_make 104 = .ok (.goto 4, 3) := by decide +kernel
theorem dX1_make_107 : decode cX1_make 107 = .ok (.iconst 0, 1) := by decide +kernel
theorem dX1_make_108 : decode cX1_make 108 = .ok (.istore 7, 2) := by decide +kernel
theorem dX1_make_110 : decode cX1_make 110 = .ok (.iload 6, 2) := by decide +kernel
theorem dX1_make_112 : decode cX1_make 112 = .ok (.ifCond .eq 16, 3) := by decide +kernel
theorem dX1_make_115 : decode cX1_make 115 = .ok (.aload_n 0, 1) := by decide +kernel
theorem dX1_make_116 : decode cX1_make 116 = .ok (.iload_n 2, 1) := by decide +kernel
theorem dX1_make_117 : decode cX1_make 117 = .ok (.iload_n 3, 1) := by decide +kernel
theorem dX1_make_118 : decode cX1_make 118 = .ok (.invokevirtual 81, 3) := by decide +kernel
theorem dX1_make_121 : decode cX1_make 121 = .ok (.ifCond .eq 7, 3) := by decide +kernel
theorem dX1_make_124 : decode cX1_make 124 = .ok (.iconst 1, 1) := by decide +kernel
theorem dX1_make_125 : decode cX1_make 125 = .ok (.goto 4, 3) := by decide +kernel
theorem dX1_make_128 : decode cX1_make 128 = .ok (.iconst 0, 1) := by decide +kernel
theorem dX1_make_129 : decode cX1_make 129 = .ok (.istore 8, 2) := by decide +kernel
theorem dX1_make_131 : decode cX1_make 131 = .ok (.aload_n 0, 1) := by decide +kernel
theorem dX1_make_132 : decode cX1_make 132 = .ok (.iload_n 1, 1) := by decide +kernel
theorem dX1_make_133 : decode cX1_make 133 = .ok (.invokevirtual 93, 3) := by decide +kernel
theorem dX1_make_136 : decode cX1_make 136 = .ok (.aload_n 0, 1) := by decide +kernel
theorem dX1_make_137 : decode cX1_make 137 = .ok (.getfield 34, 3) := by decide +kernel
theorem dX1_make_140 : decode cX1_make 140 = .ok (.ifCond .ne 10, 3) := by decide +kernel
theorem dX1_make_143 : decode cX1_make 143 = .ok (.iload_n 3, 1) := by decide +kernel
theorem dX1_make_144 : decode cX1_make 144 = .ok (.bipush 8, 2) := by decide +kernel
theorem dX1_make_146 : decode cX1_make 146 = .ok (.isub, 1) := by decide +kernel
theorem dX1_make_147 : decode cX1_make 147 = .ok (.goto 7, 3) := by decide +kernel
theorem dX1_make_150 : decode cX1_make 150 = .ok (.iload_n 3, 1) := by decide +kernel
theorem dX1_make_151 : decode cX1_make 151 = .ok (.bipush 8, 2) := by decide +kernel
theorem dX1_make_153 : decode cX1_make 153 = .ok (.iadd, 1) := by decide +kernel
theorem dX1_make_154 : decode cX1_make 154 = .ok (.istore 9, 2) := by decide +kernel
theorem dX1_make_156 : decode cX1_make 156 = .ok (.iload 8, 2) := by decide +kernel
theorem dX1_make_158 : decode cX1_make 158 = .ok (.ifCond .eq 13, 3) := by decide +kernel
theorem dX1_make_161 : decode cX1_make 161 = .ok (.aload_n 0, 1) := by decide +kernel
theorem dX1_make_162 : decode cX1_make 162 = .ok (.getfield 7, 3) := by decide +kernel
theorem dX1_make_165 : decode cX1_make 165 = .ok (.iload 9, 2) := by decide +kernel
theorem dX1_make_167 : decode cX1_make 167 = .ok (.iaload, 1) := by decide +kernel
theorem dX1_make_168 : decode cX1_make 168 = .ok (.goto 9, 3) := by decide +kernel
theorem dX1_make_171 : decode cX1_make 171 = .ok (.aload_n 0, 1) := by decide +kernel
theorem dX1_make_172 : decode cX1_make 172 = .ok (.getfield 7, 3) := by decide +kernel
theorem dX1_make_175 : decode cX1_make 175 = .ok (.iload_n 3, 1) := by decide +kernel
theorem dX1_make_176 : decode cX1_make 176 = .ok (.iaload, 1) := by decide +kernel
theorem dX1_make_177 : decode cX1_make 177 = .ok (.istore 10, 2) := by decide +kernel
theorem dX1_make_179 : decode cX1_make 179 = .ok (.aload_n 0, 1) := by decide +kernel
theorem dX1_make_180 : decode cX1_make 180 = .ok (.getfield 7, 3) := by decide +kernel
theorem dX1_make_183 : decode cX1_make 183 = .ok (.iload 8, 2) := by decide +kernel
theorem dX1_make_185 : decode cX1_make 185 = .ok (.ifCond .eq 8, 3) := by decide +kernel
theorem dX1_make_188 : decode cX1_make 188 = .ok (.iload 9, 2) := by decide +kernel
theorem dX1_make_190 : decode cX1_make 190 = .ok (.goto 4, 3) := by decide +kernel
theorem dX1_make_193 : decode cX1_make 193 = .ok (.iload_n 3, 1) := by decide +kernel
theorem dX1_make_194 : decode cX1_make 194 = .ok (.iconst 0, 1) := by decide +kernel
theorem dX1_make_195 : decode cX1_make 195 = .ok (.iastore, 1) := by decide +kernel
theorem dX1_make_196 : decode cX1_make 196 = .ok (.aload_n 0, 1) := by decide +kernel
theorem dX1_make_197 : decode cX1_make 197 = .ok (.getfield 7, 3) := by decide +kernel
theorem dX1_make_200 : decode cX1_make 200 = .ok (.iload_n 2, 1) := by decide +kernel
theorem dX1_make_201 : decode cX1_make 201 = .ok (.iconst 0, 1) := by decide +kernel
theorem dX1_make_202 : decode cX1_make 202 = .ok (.iastore, 1) := by decide +kernel
theorem dX1_make_203 : decode cX1_make 203 = .ok (.aload_n 0, 1) := by decide +kernel
theorem dX1_make_204 : decode cX1_make 204 = .ok (.getfield 7, 3) := by decide +kernel
theorem dX1_make_207 : decode cX1_make 207 = .ok (.iload_n 3, 1) := by decide +kernel
theorem dX1_make_208 : decode cX1_make 208 = .ok (.iload 4, 2) := by decide +kernel
theorem dX1_make_210 : decode cX1_make 210 = .ok (.ifCond .le 16, 3) := by decide +kernel
theorem dX1_make_213 : decode cX1_make 213 = .ok (.iload 4, 2) := by decide +kernel
theorem dX1_make_215 : decode cX1_make 215 = .ok (.bipush 6, 2) := by decide +kernel
theorem dX1_make_217 : decode cX1_make 217 = .ok (.aload_n 0, 1) := by decide +kernel
theorem dX1_make_218 : decode cX1_make 218 = .ok (.getfield 34, 3) := by decide +kernel
theorem dX1_make_221 : decode cX1_make 221 = .ok (.imul, 1) := by decide +kernel
theorem dX1_make_222 : decode cX1_make 222 = .ok (.iadd, 1) := by decide +kernel
theorem dX1_make_223 : decode cX1_make 223 = .ok (.goto 5, 3) := by decide +kernel
theorem dX1_make_226 : decode cX1_make 226 = .ok (.iload 5, 2) := by decide +kernel
theorem dX1_make_228 : decode cX1_make 228 = .ok (.iastore, 1) := by decide +kernel
theorem dX1_make_229 : decode cX1_make 229 = .ok (.iload 7, 2) := by decide +kernel
theorem dX1_make_231 : decode cX1_make 231 = .ok (.ifCond .eq 44, 3) := by decide +kernel
theorem dX1_make_234 : decode cX1_make 234 = .ok (.iload_n 3, 1) := by decide +kernel
theorem dX1_make_235 : decode cX1_make 235 = .ok (.iload_n 2, 1) := by decide +kernel
theorem dX1_make_236 : decode cX1_make 236 = .ok (.if_icmp .le 9, 3) := by decide +kernel
theorem dX1_make_239 : decode cX1_make 239 = .ok (.iload_n 2, 1) := by decide +kernel
theorem dX1_make_240 : decode cX1_make 240 = .ok (.iconst 3, 1) := by decide +kernel
theorem dX1_make_241 : decode cX1_make 241 = .ok (.iadd, 1) := by decide +kernel
theorem dX1_make_242 : decode cX1_make 242 = .ok (.goto 6, 3) := by decide +kernel
theorem dX1_make_245 : decode cX1_make 245 = .ok (.iload_n 2, 1) := by decide +kernel
theorem dX1_make_246 : decode cX1_make 246 = .ok (.iconst 4, 1) := by decide +kernel
theorem dX1_make_247 : decode cX1_make 247 = .ok (.isub, 1) := by decide +kernel
theorem dX1_make_248 : decode cX1_make 248 = .ok (.istore 11, 2) := by decide +kernel
theorem dX1_make_250 : decode cX1_make 250 = .ok (.aload_n 0, 1) := by decide +kernel
theorem dX1_make_251 : decode cX1_make 251 = .ok (.getfield 7, 3) := by decide +kernel
theorem dX1_make_254 : decode cX1_make 254 = .ok (.iload_n 2, 1) := by decide +kernel
theorem dX1_make_255 : decode cX1_make 255 = .ok (.iload_n 3, 1) := by decide +kernel
theorem dX1_make_256 : decode cX1_make 256 = .ok (.iadd, 1) := by decide +kernel
theorem dX1_make_257 : decode cX1_make 257 = .ok (.iconst 2, 1) := by decide +kernel
theorem dX1_make_258 : decode cX1_make 258 = .ok (.idiv, 1) := by decide +kernel
theorem dX1_make_259 : decode cX1_make 259 = .ok (.aload_n 0, 1) := by decide +kernel
theorem dX1_make_260 : decode cX1_make 260 = .ok (.getfield 7, 3) := by decide +kernel
theorem dX1_make_263 : decode cX1_make 263 = .ok (.iload 11, 2) := by decide +kernel
theorem dX1_make_265 : decode cX1_make 265 = .ok (.iaload, 1) := by decide +kernel
theorem dX1_make_266 : decode cX1_make 266 = .ok (.iastore, 1) := by decide +kernel
theorem dX1_make_267 : decode cX1_make 267 = .ok (.aload_n 0, 1) := by decide +kernel
theorem dX1_make_268 : decode cX1_make 268 = .ok (.getfield 7, 3) := by decide +kernel
theorem dX1_make_271 : decode cX1_make 271 = .ok (.iload 11, 2) := by decide +kernel
theorem dX1_make_273 : decode cX1_make 273 = .ok (.iconst 0, 1) := by decide +kernel
theorem dX1_make_274 : decode cX1_make 274 = .ok (.iastore, 1) := by decide +kernel
theorem dX1_make_275 : decode cX1_make 275 = .ok (.aload_n 0, 1) := by decide +kernel
theorem dX1_make_276 : decode cX1_make 276 = .ok (.iload 5, 2) := by decide +kernel
theorem dX1_make_278 : decode cX1_make 278 = .ok (.invokestatic 61, 3) := by decide +kernel
theorem dX1_make_281 : decode cX1_make 281 = .ok (.bipush 6, 2) := by decide +kernel
theorem dX1_make_283 : decode cX1_make 283 = .ok (.if_icmp .ne 21, 3) := by decide +kernel
theorem dX1_make_286 : decode cX1_make 286 = .ok (.aload_n 0, 1) := by decide +kernel
theorem dX1_make_287 : decode cX1_make 287 = .ok (.getfield 37, 3) := by decide +kernel
theorem dX1_make_290 : decode cX1_make 290 = .ok (.iconst 3, 1) := by decide +kernel
theorem dX1_make_291 : decode cX1_make 291 = .ok (.iconst 2, 1) := by decide +kernel
theorem dX1_make_292 : decode cX1_make 292 = .ok (.aload_n 0, 1) := by decide +kernel
theorem dX1_make_293 : decode cX1_make 293 = .ok (.getfield 34, 3) := by decide +kernel
theorem dX1_make_296 : decode cX1_make 296 = .ok (.imul, 1) := by decide +kernel
theorem dX1_make_297 : decode cX1_make 297 = .ok (.ishl, 1) := by decide +kernel
theorem dX1_make_298 : decode cX1_make 298 = .ok (.iconst (-1), 1) := by decide +kernel
theorem dX1_make_299 : decode cX1_make 299 = .ok (.ixor, 1) := by decide +kernel
theorem dX1_make_300 : decode cX1_make 300 = .ok (.iand, 1) := by decide +kernel
theorem dX1_make_301 : decode cX1_make 301 = .ok (.goto 7, 3) := by decide +kernel
theorem dX1_make_304 : decode cX1_make 304 = .ok (.aload_n 0, 1) := by decide +kernel
theorem dX1_make_305 : decode cX1_make 305 = .ok (.getfield 37, 3) := by decide +kernel
theorem dX1_make_308 : decode cX1_make 308 = .ok (.putfield 37, 3) := by decide +kernel
theorem dX1_make_311 : decode cX1_make 311 = .ok (.aload_n 0, 1) := by decide +kernel
theorem dX1_make_312 : decode cX1_make 312 = .ok (.aload_n 0, 1) := by decide +kernel
theorem dX1_make_313 : decode cX1_make 313 = .ok (.getfield 37, 3) := by decide +kernel
theorem dX1_make_316 : decode cX1_make 316 = .ok (.iload_n 2, 1) := by decide +kernel
theorem dX1_make_317 : decode cX1_make 317 = .ok (.invokestatic 97, 3) := by decide +kernel
theorem dX1_make_320 : decode cX1_make 320 = .ok (.iconst (-1), 1) := by decide +kernel
theorem dX1_make_321 : decode cX1_make 321 = .ok (.ixor, 1) := by decide +kernel
theorem dX1_make_322 : decode cX1_make 322 = .ok (.iand, 1) := by decide +kernel
theorem dX1_make_323 : decode cX1_make 323 = .ok (.iload_n 3, 1) := by decide +kernel
theorem dX1_make_324 : decode cX1_make 324 = .ok (.invokestatic 97, 3) := by decide +kernel
theorem dX1_make_327 : decode cX1_make 327 = .ok (.iconst (-1), 1) := by decide +kernel
theorem dX1_make_328 : decode cX1_make 328 = .ok (.ixor, 1) := by decide +kernel
theorem dX1_make_329 : decode cX1_make 329 = .ok (.iand, 1) := by decide +kernel
theorem dX1_make_330 : decode cX1_make 330 = .ok (.putfield 37, 3) := by decide +kernel
theorem dX1_make_333 : decode cX1_make 333 = .ok (.iload 6, 2) := by decide +kernel
theorem dX1_make_335 : decode cX1_make 335 = .ok (.ifCond .eq 22, 3) := by decide +kernel
theorem dX1_make_338 : decode cX1_make 338 = .ok (.iload_n 2, 1) := by decide +kernel
theorem dX1_make_339 : decode cX1_make 339 = .ok (.bipush 8, 2) := by decide +kernel
theorem dX1_make_341 : decode cX1_make 341 = .ok (.idiv, 1) := by decide +kernel
theorem dX1_make_342 : decode cX1_make 342 = .ok (.iload_n 3, 1) := by decide +kernel
theorem dX1_make_343 : decode cX1_make 343 = .ok (.bipush 8, 2) := by decide +kernel
theorem dX1_make_345 : decode cX1_make 345 = .ok (.idiv, 1) := by decide +kernel
theorem dX1_make_346 : decode cX1_make 346 = .ok (.invokestatic 64, 3) := by decide +kernel
theorem dX1_make_349 : decode cX1_make 349 = .ok (.iconst 2, 1) := by decide +kernel
theorem dX1_make_350 : decode cX1_make 350 = .ok (.if_icmp .ne 7, 3) := by decide +kernel
theorem dX1_make_353 : decode cX1_make 353 = .ok (.iconst 1, 1) := by decide +kernel
theorem dX1_make_354 : decode cX1_make 354 = .ok (.goto 4, 3) := by decide +kernel
theorem dX1_make_357 : decode cX1_make 357 = .ok (.iconst 0, 1) := by decide +kernel
theorem dX1_make_358 : decode cX1_make 358 = .ok (.istore 11, 2) := by decide +kernel
theorem dX1_make_360 : decode cX1_make 360 = .ok (.aload_n 0, 1) := by decide +kernel
theorem dX1_make_361 : decode cX1_make 361 = .ok (.iload 11, 2) := by decide +kernel
theorem dX1_make_363 : decode cX1_make 363 = .ok (.ifCond .eq 29, 3) := by decide +kernel
theorem dX1_make_366 : decode cX1_make 366 = .ok (.aload_n 0, 1) := by decide +kernel
theorem dX1_make_367 : decode cX1_make 367 = .ok (.iload_n 2, 1) := by decide +kernel
theorem dX1_make_368 : decode cX1_make 368 = .ok (.iload_n 3, 1) := by decide +kernel
theorem dX1_make_369 : decode cX1_make 369 = .ok (.iadd, 1) := by decide +kernel
theorem dX1_make_370 : decode cX1_make 370 = .ok (.iconst 2, 1) := by decide +kernel
theorem dX1_make_371 : decode cX1_make 371 = .ok (.idiv, 1) := by decide +kernel
theorem dX1_make_372 : decode cX1_make 372 = .ok (.iconst 1, 1) := by decide +kernel
theorem dX1_make_373 : decode cX1_make 373 = .ok (.aload_n 0, 1) := by decide +kernel
theorem dX1_make_374 : decode cX1_make 374 = .ok (.getfield 34, 3) := by decide +kernel
theorem dX1_make_377 : decode cX1_make 377 = .ok (.isub, 1) := by decide +kernel
theorem dX1_make_378 : decode cX1_make 378 = .ok (.invokevirtual 100, 3) := by decide +kernel
theorem dX1_make_381 : decode cX1_make 381 = .ok (.ifCond .eq 11, 3) := by decide +kernel
theorem dX1_make_384 : decode cX1_make 384 = .ok (.iload_n 2, 1) := by decide +kernel
theorem dX1_make_385 : decode cX1_make 385 = .ok (.iload_n 3, 1) := by decide +kernel
theorem dX1_make_386 : decode cX1_make 386 = .ok (.iadd, 1) := by decide +kernel
theorem dX1_make_387 : decode cX1_make 387 = .ok (.iconst 2, 1) := by decide +kernel
theorem dX1_make_388 : decode cX1_make 388 = .ok (.idiv, 1) := by decide +kernel
theorem dX1_make_389 : decode cX1_make 389 = .ok (.goto 4, 3) := by decide +kernel
theorem dX1_make_392 : decode cX1_make 392 = .ok (.iconst (-1), 1) := by decide +kernel
theorem dX1_make_393 : decode cX1_make 393 = .ok (.putfield 13, 3) := by decide +kernel
theorem dX1_make_396 : decode cX1_make 396 = .ok (.aload_n 0, 1) := by decide +kernel
theorem dX1_make_397 : decode cX1_make 397 = .ok (.iload 6, 2) := by decide +kernel
theorem dX1_make_399 : decode cX1_make 399 = .ok (.ifCond .ne 8, 3) := by decide +kernel
theorem dX1_make_402 : decode cX1_make 402 = .ok (.iload 10, 2) := by decide +kernel
theorem dX1_make_404 : decode cX1_make 404 = .ok (.ifCond .le 7, 3) := by decide +kernel
theorem dX1_make_407 : decode cX1_make 407 = .ok (.iconst 0, 1) := by decide +kernel
theorem dX1_make_408 : decode cX1_make 408 = .ok (.goto 9, 3) := by decide +kernel
theorem dX1_make_411 : decode cX1_make 411 = .ok (.aload_n 0, 1) := by decide +kernel
theorem dX1_make_412 : decode cX1_make 412 = .ok (.getfield 40, 3) := by decide +kernel
theorem dX1_make_415 : decode cX1_make 415 = .ok (.iconst 1, 1) := by decide +kernel
theorem dX1_make_416 : decode cX1_make 416 = .ok (.iadd, 1) := by decide +kernel
theorem dX1_make_417 : decode cX1_make 417 = .ok (.putfield 40, 3) := by decide +kernel
theorem dX1_make_420 : decode cX1_make 420 = .ok (.aload_n 0, 1) := by decide +kernel
theorem dX1_make_421 : decode cX1_make 421 = .ok (.dup, 1) := by decide +kernel
theorem dX1_make_422 : decode cX1_make 422 = .ok (.getfield 17, 3) := by decide +kernel
theorem dX1_make_425 : decode cX1_make 425 = .ok (.aload_n 0, 1) := by decide +kernel
theorem dX1_make_426 : decode cX1_make 426 = .ok (.getfield 34, 3) := by decide +kernel
theorem dX1_make_429 : decode cX1_make 429 = .ok (.iadd, 1) := by decide +kernel
theorem dX1_make_430 : decode cX1_make 430 = .ok (.putfield 17, 3) := by decide +kernel
theorem dX1_make_433 : decode cX1_make 433 = .ok (.aload_n 0, 1) := by decide +kernel
theorem dX1_make_434 : decode cX1_make 434 = .ok (.iconst 1, 1) := by decide +kernel
theorem dX1_make_435 : decode cX1_make 435 = .ok (.aload_n 0, 1) := by decide +kernel
theorem dX1_make_436 : decode cX1_make 436 = .ok (.getfield 34, 3) := by decide +kernel
theorem dX1_make_439 : decode cX1_make 439 = .ok (.isub, 1) := by decide +kernel
theorem dX1_make_440 : decode cX1_make 440 = .ok (.putfield 34, 3) := by decide +kernel
theorem dX1_make_443 : decode cX1_make 443 = .ok (.iload 10, 2) := by decide +kernel
theorem dX1_make_445 : decode cX1_make 445 = .ok (.ireturn, 1) := by decide +kernel
set_option maxRecDepth 20000 in
theorem ggX1_pawnAttacks_X1_attacks : GoodIn wsX1_pawnAttacks wsX1_attacks := goodIn_r _ [6, 1, 7, 8, 5, 9, 10, 11, 12, 13, 14, 15, 16, 17, 18, 19, 20, 21, 22, 23, 24, 25, 26, 27, 28, 29, 30] (by decide +kernel) (by decide +kernel)
set_option maxRecDepth 20000 in
theorem gX1_pawnAttacks_X1_attacks : GoodIn wsX1_pawnAttacks (wsV RX1 75 RX1 yX1_attacks wsX1_attacks) := goodIn_app (goodIn_of _ (by decide +kernel)) ggX1_pawnAttacks_X1_attacks
theorem dX1_pawnAttacks_0 : decode cX1_pawnAttacks 0 = .ok (.iconst 0, 1) := by decide +kernel
theorem dX1_pawnAttacks_1 : decode cX1_pawnAttacks 1 = .ok (.istore_n 3, 1) := by decide +kernel
theorem dX1_pawnAttacks_2 : decode cX1_pawnAttacks 2 = .ok (.iconst 0, 1) := by decide +kernel
theorem dX1_pawnAttacks_3 : decode cX1_pawnAttacks 3 = .ok (.istore 4, 2) := by decide +kernel
theorem dX1_pawnAttacks_5 : decode cX1_pawnAttacks 5 = .ok (.iload 4, 2) := by decide +kernel
theorem dX1_pawnAttacks_7 : decode cX1_pawnAttacks 7 = .ok (.bipush 64, 2) := by decide +kernel
theorem dX1_pawnAttacks_9 : decode cX1_pawnAttacks 9 = .ok (.if_icmp .ge 45, 3) := by decide +kernel
theorem dX1_pawnAttacks_12 : decode cX1_pawnAttacks 12 = .ok (.iload_n 3, 1) := by decide +kernel
theorem dX1_pawnAttacks_13 : decode cX1_pawnAttacks 13 = .ok (.ifCond .ne 29, 3) := by decide +kernel
theorem dX1_pawnAttacks_16 : decode cX1_pawnAttacks 16 = .ok (.aload_n 0, 1) := by decide +kernel
theorem dX1_pawnAttacks_17 : decode cX1_pawnAttacks 17 = .ok (.getfield 7, 3) := by decide +kernel
theorem dX1_pawnAttacks_20 : decode cX1_pawnAttacks 20 = .ok (.iload 4, 2) := by decide +kernel
theorem dX1_pawnAttacks_22 : decode cX1_pawnAttacks 22 = .ok (.iaload, 1) := by decide +kernel
theorem dX1_pawnAttacks_23 : decode cX1_pawnAttacks 23 = .ok (.iconst 1, 1) := by decide +kernel
theorem dX1_pawnAttacks_24 : decode cX1_pawnAttacks 24 = .ok (.bipush 6, 2) := by decide +kernel
theorem dX1_pawnAttacks_26 : decode cX1_pawnAttacks 26 = .ok (.iload_n 2, 1) := by decide +kernel
theorem dX1_pawnAttacks_27 : decode cX1_pawnAttacks 27 = .ok (.imul, 1) := by decide +kernel
theorem dX1_pawnAttacks_28 : decode cX1_pawnAttacks 28 = .ok (.iadd, 1) := by decide +kernel
theorem dX1_pawnAttacks_29 : decode cX1_pawnAttacks 29 = .ok (.if_icmp .ne 17, 3) := by decide +kernel
theorem dX1_pawnAttacks_32 : decode cX1_pawnAttacks 32 = .ok (.aload_n 0, 1) := by decide +kernel
theorem dX1_pawnAttacks_33 : decode cX1_pawnAttacks 33 = .ok (.iload 4, 2) := by decide +kernel
theorem dX1_pawnAttacks_35 : decode cX1_pawnAttacks 35 = .ok (.iload_n 1, 1) := by decide +kernel
theorem dX1_pawnAttacks_36 : decode cX1_pawnAttacks 36 = .ok (.invokevirtual 75, 3) := by decide +kernel
theorem dX1_pawnAttacks_39 : decode cX1_pawnAttacks 39 = .ok (.ifCond .eq 7, 3) := by decide +kernel
theorem dX1_pawnAttacks_42 : decode cX1_pawnAttacks 42 = .ok (.iconst 1, 1) := by decide +kernel
theorem dX1_pawnAttacks_43 : decode cX1_pawnAttacks 43 = .ok (.goto 4, 3) := by decide +kernel
theorem dX1_pawnAttacks_46 : decode cX1_pawnAttacks 46 = .ok (.iconst 0, 1) := by decide +kernel
theorem dX1_pawnAttacks_47 : decode cX1_pawnAttacks 47 = .ok (.istore_n 3, 1) := by decide +kernel
theorem dX1_pawnAttacks_48 : decode cX1_pawnAttacks 48 = .ok (.iinc 4 1, 3) := by decide +kernel
theorem dX1_pawnAttacks_51 : decode cX1_pawnAttacks 51 = .ok (.goto (-46), 3) := by decide +kernel
theorem dX1_pawnAttacks_54 : decode cX1_pawnAttacks 54 = .ok (.iload_n 3, 1) := by decide +kernel
theorem dX1_pawnAttacks_55 : decode cX1_pawnAttacks 55 = .ok (.ireturn, 1) := by decide +kernel
theorem dX1_unmake_0 : decode cX1_unmake 0 = .ok (.aload_n 0, 1) := by decide +kernel
theorem dX1_unmake_1 : decode cX1_unmake 1 = .ok (.aload_n 0, 1) := by decide +kernel
theorem dX1_unmake_2 : decode cX1_unmake 2 = .ok (.getfield 43, 3) := by decide +kernel
theorem dX1_unmake_5 : decode cX1_unmake 5 = .ok (.ifCond .ne 7, 3) := by decide +kernel
theorem dX1_unmake_8 : decode cX1_unmake 8 = .ok (.iconst 1, 1) := by decide +kernel
theorem dX1_unmake_9 : decode cX1_unmake 9 = .ok (.goto 4, 3) := by decide +kernel
theorem dX1_unmake_12 : decode cX1_unmake 12 = .ok (.iconst 0, 1) := by decide +kernel
theorem dX1_unmake_13 : decode cX1_unmake 13 = .ok (.putfield 31, 3) := by decide +kernel
theorem dX1_unmake_16 : decode cX1_unmake 16 = .ok (.aload_n 0, 1) := by decide +kernel
theorem dX1_unmake_17 : decode cX1_unmake 17 = .ok (.getfield 31, 3) := by decide +kernel
theorem dX1_unmake_20 : decode cX1_unmake 20 = .ok (.ifCond .le 5, 3) := by decide +kernel
theorem dX1_unmake_23 : decode cX1_unmake 23 = .ok (.iconst 0, 1) := by decide +kernel
theorem dX1_unmake_24 : decode cX1_unmake 24 = .ok (.ireturn, 1) := by decide +kernel
theorem dX1_unmake_25 : decode cX1_unmake 25 = .ok (.aload_n 0, 1) := by decide +kernel
theorem dX1_unmake_26 : decode cX1_unmake 26 = .ok (.dup, 1) := by decide +kernel
theorem dX1_unmake_27 : decode cX1_unmake 27 = .ok (.getfield 43, 3) := by decide +kernel
theorem dX1_unmake_30 : decode cX1_unmake 30 = .ok (.iconst 1, 1) := by decide +kernel
theorem dX1_unmake_31 : decode cX1_unmake 31 = .ok (.isub, 1) := by decide +kernel
theorem dX1_unmake_32 : decode cX1_unmake 32 = .ok (.putfield 43, 3) := by decide +kernel
theorem dX1_unmake_35 : decode cX1_unmake 35 = .ok (.iconst 0, 1) := by decide +kernel
theorem dX1_unmake_36 : decode cX1_unmake 36 = .ok (.istore_n 1, 1) := by decide +kernel
theorem dX1_unmake_37 : decode cX1_unmake 37 = .ok (.iload_n 1, 1) := by decide +kernel
theorem dX1_unmake_38 : decode cX1_unmake 38 = .ok (.bipush 64, 2) := by decide +kernel
theorem dX1_unmake_40 : decode cX1_unmake 40 = .ok (.if_icmp .ge 29, 3) := by decide +kernel
theorem dX1_unmake_43 : decode cX1_unmake 43 = .ok (.aload_n 0, 1) := by decide +kernel
theorem dX1_unmake_44 : decode cX1_unmake 44 = .ok (.getfield 7, 3) := by decide +kernel
theorem dX1_unmake_47 : decode cX1_unmake 47 = .ok (.iload_n 1, 1) := by decide +kernel
theorem dX1_unmake_48 : decode cX1_unmake 48 = .ok (.aload_n 0, 1) := by decide +kernel
theorem dX1_unmake_49 : decode cX1_unmake 49 = .ok (.getfield 24, 3) := by decide +kernel
theorem dX1_unmake_52 : decode cX1_unmake 52 = .ok (.bipush 64, 2) := by decide +kernel
theorem dX1_unmake_54 : decode cX1_unmake 54 = .ok (.aload_n 0, 1) := by decide +kernel
theorem dX1_unmake_55 : decode cX1_unmake 55 = .ok (.getfield 43, 3) := by decide +kernel
theorem dX1_unmake_58 : decode cX1_unmake 58 = .ok (.imul, 1) := by decide +kernel
theorem dX1_unmake_59 : decode cX1_unmake 59 = .ok (.iload_n 1, 1) := by decide +kernel
theorem dX1_unmake_60 : decode cX1_unmake 60 = .ok (.iadd, 1) := by decide +kernel
theorem dX1_unmake_61 : decode cX1_unmake 61 = .ok (.baload, 1) := by decide +kernel
theorem dX1_unmake_62 : decode cX1_unmake 62 = .ok (.iastore, 1) := by decide +kernel
theorem dX1_unmake_63 : decode cX1_unmake 63 = .ok (.iinc 1 1, 3) := by decide +kernel
theorem dX1_unmake_66 : decode cX1_unmake 66 = .ok (.goto (-29), 3) := by decide +kernel
theorem dX1_unmake_69 : decode cX1_unmake 69 = .ok (.aload_n 0, 1) := by decide +kernel
theorem dX1_unmake_70 : decode cX1_unmake 70 = .ok (.aload_n 0, 1) := by decide +kernel
theorem dX1_unmake_71 : decode cX1_unmake 71 = .ok (.getfield 28, 3) := by decide +kernel
theorem dX1_unmake_74 : decode cX1_unmake 74 = .ok (.iconst 5, 1) := by decide +kernel
theorem dX1_unmake_75 : decode cX1_unmake 75 = .ok (.aload_n 0, 1) := by decide +kernel
theorem dX1_unmake_76 : decode cX1_unmake 76 = .ok (.getfield 43, 3) := by decide +kernel
theorem dX1_unmake_79 : decode cX1_unmake 79 = .ok (.imul, 1) := by decide +kernel
theorem dX1_unmake_80 : decode cX1_unmake 80 = .ok (.iaload, 1) := by decide +kernel
theorem dX1_unmake_81 : decode cX1_unmake 81 = .ok (.putfield 34, 3) := by decide +kernel
theorem dX1_unmake_84 : decode cX1_unmake 84 = .ok (.aload_n 0, 1) := by decide +kernel
theorem dX1_unmake_85 : decode cX1_unmake 85 = .ok (.aload_n 0, 1) := by decide +kernel
theorem dX1_unmake_86 : decode cX1_unmake 86 = .ok (.getfield 28, 3) := by decide +kernel
theorem dX1_unmake_89 : decode cX1_unmake 89 = .ok (.iconst 5, 1) := by decide +kernel
theorem dX1_unmake_90 : decode cX1_unmake 90 = .ok (.aload_n 0, 1) := by decide +kernel
theorem dX1_unmake_91 : decode cX1_unmake 91 = .ok (.getfield 43, 3) := by decide +kernel
theorem dX1_unmake_94 : decode cX1_unmake 94 = .ok (.imul, 1) := by decide +kernel
theorem dX1_unmake_95 : decode cX1_unmake 95 = .ok (.iconst 1, 1) := by decide +kernel
theorem dX1_unmake_96 : decode cX1_unmake 96 = .ok (.iadd, 1) := by decide +kernel
theorem dX1_unmake_97 : decode cX1_unmake 97 = .ok (.iaload, 1) := by decide +kernel
theorem dX1_unmake_98 : decode cX1_unmake 98 = .ok (.putfield 37, 3) := by decide +kernel
theorem dX1_unmake_101 : decode cX1_unmake 101 = .ok (.aload_n 0, 1) := by decide +kernel
theorem dX1_unmake_102 : decode cX1_unmake 102 = .ok (.aload_n 0, 1) := by decide +kernel
theorem dX1_unmake_103 : decode cX1_unmake 103 = .ok (.getfield 28, 3) := by decide +kernel
theorem dX1_unmake_106 : decode cX1_unmake 106 = .ok (.iconst 5, 1) := by decide +kernel
theorem dX1_unmake_107 : decode cX1_unmake 107 = .ok (.aload_n 0, 1) := by decide +kernel
theorem dX1_unmake_108 : decode cX1_unmake 108 = .ok (.getfield 43, 3) := by decide +kernel
theorem dX1_unmake_111 : decode cX1_unmake 111 = .ok (.imul, 1) := by decide +kernel
theorem dX1_unmake_112 : decode cX1_unmake 112 = .ok (.iconst 2, 1) := by decide +kernel
theorem dX1_unmake_113 : decode cX1_unmake 113 = .ok (.iadd, 1) := by decide +kernel
theorem dX1_unmake_114 : decode cX1_unmake 114 = .ok (.iaload, 1) := by decide +kernel
theorem dX1_unmake_115 : decode cX1_unmake 115 = .ok (.putfield 13, 3) := by decide +kernel
theorem dX1_unmake_118 : decode cX1_unmake 118 = .ok (.aload_n 0, 1) := by decide +kernel
theorem dX1_unmake_119 : decode cX1_unmake 119 = .ok (.aload_n 0, 1) := by decide +kernel
theorem dX1_unmake_120 : decode cX1_unmake 120 = .ok (.getfield 28, 3) := by decide +kernel
theorem dX1_unmake_123 : decode cX1_unmake 123 = .ok (.iconst 5, 1) := by decide +kernel
theorem dX1_unmake_124 : decode cX1_unmake 124 = .ok (.aload_n 0, 1) := by decide +kernel
theorem dX1_unmake_125 : decode cX1_unmake 125 = .ok (.getfield 43, 3) := by decide +kernel
theorem dX1_unmake_128 : decode cX1_unmake 128 = .ok (.imul, 1) := by decide +kernel
theorem dX1_unmake_129 : decode cX1_unmake 129 = .ok (.iconst 3, 1) := by decide +kernel
theorem dX1_unmake_130 : decode cX1_unmake 130 = .ok (.iadd, 1) := by decide +kernel
theorem dX1_unmake_131 : decode cX1_unmake 131 = .ok (.iaload, 1) := by decide +kernel
theorem dX1_unmake_132 : decode cX1_unmake 132 = .ok (.putfield 40, 3) := by decide +kernel
theorem dX1_unmake_135 : decode cX1_unmake 135 = .ok (.aload_n 0, 1) := by decide +kernel
theorem dX1_unmake_136 : decode cX1_unmake 136 = .ok (.aload_n 0, 1) := by decide +kernel
theorem dX1_unmake_137 : decode cX1_unmake 137 = .ok (.getfield 28, 3) := by decide +kernel
theorem dX1_unmake_140 : decode cX1_unmake 140 = .ok (.iconst 5, 1) := by decide +kernel
theorem dX1_unmake_141 : decode cX1_unmake 141 = .ok (.aload_n 0, 1) := by decide +kernel
theorem dX1_unmake_142 : decode cX1_unmake 142 = .ok (.getfield 43, 3) := by decide +kernel
theorem dX1_unmake_145 : decode cX1_unmake 145 = .ok (.imul, 1) := by decide +kernel
theorem dX1_unmake_146 : decode cX1_unmake 146 = .ok (.iconst 4, 1) := by decide +kernel
theorem dX1_unmake_147 : decode cX1_unmake 147 = .ok (.iadd, 1) := by decide +kernel
theorem dX1_unmake_148 : decode cX1_unmake 148 = .ok (.iaload, 1) := by decide +kernel
theorem dX1_unmake_149 : decode cX1_unmake 149 = .ok (.putfield 17, 3) := by decide +kernel
theorem dX1_unmake_152 : decode cX1_unmake 152 = .ok (.aload_n 0, 1) := by decide +kernel
theorem dX1_unmake_153 : decode cX1_unmake 153 = .ok (.getfield 20, 3) := by decide +kernel
theorem dX1_unmake_156 : decode cX1_unmake 156 = .ok (.aload_n 0, 1) := by decide +kernel
theorem dX1_unmake_157 : decode cX1_unmake 157 = .ok (.getfield 43, 3) := by decide +kernel
theorem dX1_unmake_160 : decode cX1_unmake 160 = .ok (.iaload, 1) := by decide +kernel
theorem dX1_unmake_161 : decode cX1_unmake 161 = .ok (.ireturn, 1) := by decide +kernel
set_option maxRecDepth 20000 in
theorem ggX1_at_X1_isSquare : GoodIn wsX1_at wsX1_isSquare := goodIn_r _ [6] (by decide +kernel) (by decide +kernel)
set_option maxRecDepth 20000 in
theorem gX1_at_X1_isSquare : GoodIn wsX1_at (va_wsS RX1 53 yX1_isSquare wsX1_isSquare) := goodIn_app (goodIn_of _ (by decide +kernel)) ggX1_at_X1_isSquare
theorem dX1_at_0 : decode cX1_at 0 = .ok (.aload_n 0, 1) := by decide +kernel
theorem dX1_at_1 : decode cX1_at 1 = .ok (.iload_n 1, 1) := by decide +kernel
theorem dX1_at_2 : decode cX1_at 2 = .ok (.invokestatic 53, 3) := by decide +kernel
theorem dX1_at_5 : decode cX1_at 5 = .ok (.ifCond .eq 7, 3) := by decide +kernel
theorem dX1_at_8 : decode cX1_at 8 = .ok (.iconst 0, 1) := by decide +kernel
theorem dX1_at_9 : decode cX1_at 9 = .ok (.goto 4, 3) := by decide +kernel
theorem dX1_at_12 : decode cX1_at 12 = .ok (.iconst 1, 1) := by decide +kernel
theorem dX1_at_13 : decode cX1_at 13 = .ok (.putfield 31, 3) := by decide +kernel
theorem dX1_at_16 : decode cX1_at 16 = .ok (.aload_n 0, 1) := by decide +kernel
theorem dX1_at_17 : decode cX1_at 17 = .ok (.getfield 31, 3) := by decide +kernel
theorem dX1_at_20 : decode cX1_at 20 = .ok (.ifCond .le 7, 3) := by decide +kernel
theorem dX1_at_23 : decode cX1_at 23 = .ok (.iconst 0, 1) := by decide +kernel
theorem dX1_at_24 : decode cX1_at 24 = .ok (.goto 9, 3) := by decide +kernel
theorem dX1_at_27 : decode cX1_at 27 = .ok (.aload_n 0, 1) := by decide +kernel
theorem dX1_at_28 : decode cX1_at 28 = .ok (.getfield 7, 3) := by decide +kernel
theorem dX1_at_31 : decode cX1_at 31 = .ok (.iload_n 1, 1) := by decide +kernel
theorem dX1_at_32 : decode cX1_at 32 = .ok (.iaload, 1) := by decide +kernel
theorem dX1_at_33 : decode cX1_at 33 = .ok (.ireturn, 1) := by decide +kernel
theorem dX1_where_0 : decode cX1_where 0 = .ok (.aload_n 0, 1) := by decide +kernel
theorem dX1_where_1 : decode cX1_where 1 = .ok (.iconst 0, 1) := by decide +kernel
theorem dX1_where_2 : decode cX1_where 2 = .ok (.putfield 31, 3) := by decide +kernel
theorem dX1_where_5 : decode cX1_where 5 = .ok (.lconst 0, 1) := by decide +kernel
theorem dX1_where_6 : decode cX1_where 6 = .ok (.lstore_n 2, 1) := by decide +kernel
theorem dX1_where_7 : decode cX1_where 7 = .ok (.iconst 0, 1) := by decide +kernel
theorem dX1_where_8 : decode cX1_where 8 = .ok (.istore 4, 2) := by decide +kernel
theorem dX1_where_10 : decode cX1_where 10 = .ok (.iload 4, 2) := by decide +kernel
theorem dX1_where_12 : decode cX1_where 12 = .ok (.bipush 64, 2) := by decide +kernel
theorem dX1_where_14 : decode cX1_where 14 = .ok (.if_icmp .ge 31, 3) := by decide +kernel
theorem dX1_where_17 : decode cX1_where 17 = .ok (.aload_n 0, 1) := by decide +kernel
theorem dX1_where_18 : decode cX1_where 18 = .ok (.getfield 7, 3) := by decide +kernel
theorem dX1_where_21 : decode cX1_where 21 = .ok (.iload 4, 2) := by decide +kernel
theorem dX1_where_23 : decode cX1_where 23 = .ok (.iaload, 1) := by decide +kernel
theorem dX1_where_24 : decode cX1_where 24 = .ok (.iload_n 1, 1) := by decide +kernel
theorem dX1_where_25 : decode cX1_where 25 = .ok (.if_icmp .ne 12, 3) := by decide +kernel
theorem dX1_where_28 : decode cX1_where 28 = .ok (.lload_n 2, 1) := by decide +kernel
theorem dX1_where_29 : decode cX1_where 29 = .ok (.lconst 1, 1) := by decide +kernel
theorem dX1_where_30 : decode cX1_where 30 = .ok (.iload 4, 2) := by decide +kernel
theorem dX1_where_32 : decode cX1_where 32 = .ok (.lshl, 1) := by decide +kernel
theorem dX1_where_33 : decode cX1_where 33 = .ok (.lor, 1) := by decide +kernel
theorem dX1_where_34 : decode cX1_where 34 = .ok (.goto 4, 3) := by decide +kernel
theorem dX1_where_37 : decode cX1_where 37 = .ok (.lload_n 2, 1) := by decide +kernel
theorem dX1_where_38 : decode cX1_where 38 = .ok (.lstore_n 2, 1) := by decide +kernel
theorem dX1_where_39 : decode cX1_where 39 = .ok (.iinc 4 1, 3) := by decide +kernel
theorem dX1_where_42 : decode cX1_where 42 = .ok (.goto (-32), 3) := by decide +kernel
theorem dX1_where_45 : decode cX1_where 45 = .ok (.lload_n 2, 1) := by decide +kernel
theorem dX1_where_46 : decode cX1_where 46 = .ok (.lreturn, 1) := by decide +kernel
theorem dX1_mixed_0 : decode cX1_mixed 0 = .ok (.lload_n 0, 1) := by decide +kernel
theorem dX1_mixed_1 : decode cX1_mixed 1 = .ok (.ldc2_w 103, 3) := by decide +kernel
theorem dX1_mixed_4 : decode cX1_mixed 4 = .ok (.ladd, 1) := by decide +kernel
theorem dX1_mixed_5 : decode cX1_mixed 5 = .ok (.lstore_n 2, 1) := by decide +kernel
theorem dX1_mixed_6 : decode cX1_mixed 6 = .ok (.lload_n 2, 1) := by decide +kernel
theorem dX1_mixed_7 : decode cX1_mixed 7 = .ok (.lload_n 2, 1) := by decide +kernel
theorem dX1_mixed_8 : decode cX1_mixed 8 = .ok (.bipush 30, 2) := by decide +kernel
theorem dX1_mixed_10 : decode cX1_mixed 10 = .ok (.lushr, 1) := by decide +kernel
theorem dX1_mixed_11 : decode cX1_mixed 11 = .ok (.lxor, 1) := by decide +kernel
theorem dX1_mixed_12 : decode cX1_mixed 12 = .ok (.ldc2_w 105, 3) := by decide +kernel
theorem dX1_mixed_15 : decode cX1_mixed 15 = .ok (.lmul, 1) := by decide +kernel
theorem dX1_mixed_16 : decode cX1_mixed 16 = .ok (.lstore_n 2, 1) := by decide +kernel
theorem dX1_mixed_17 : decode cX1_mixed 17 = .ok (.lload_n 2, 1) := by decide +kernel
theorem dX1_mixed_18 : decode cX1_mixed 18 = .ok (.lload_n 2, 1) := by decide +kernel
theorem dX1_mixed_19 : decode cX1_mixed 19 = .ok (.bipush 27, 2) := by decide +kernel
theorem dX1_mixed_21 : decode cX1_mixed 21 = .ok (.lushr, 1) := by decide +kernel
theorem dX1_mixed_22 : decode cX1_mixed 22 = .ok (.lxor, 1) := by decide +kernel
theorem dX1_mixed_23 : decode cX1_mixed 23 = .ok (.ldc2_w 107, 3) := by decide +kernel
theorem dX1_mixed_26 : decode cX1_mixed 26 = .ok (.lmul, 1) := by decide +kernel
theorem dX1_mixed_27 : decode cX1_mixed 27 = .ok (.lstore_n 2, 1) := by decide +kernel
theorem dX1_mixed_28 : decode cX1_mixed 28 = .ok (.lload_n 2, 1) := by decide +kernel
theorem dX1_mixed_29 : decode cX1_mixed 29 = .ok (.lload_n 2, 1) := by decide +kernel
theorem dX1_mixed_30 : decode cX1_mixed 30 = .ok (.bipush 31, 2) := by decide +kernel
theorem dX1_mixed_32 : decode cX1_mixed 32 = .ok (.lushr, 1) := by decide +kernel
theorem dX1_mixed_33 : decode cX1_mixed 33 = .ok (.lxor, 1) := by decide +kernel
theorem dX1_mixed_34 : decode cX1_mixed 34 = .ok (.lreturn, 1) := by decide +kernel
set_option maxRecDepth 20000 in
theorem ggX1_key_X1_mixed : GoodIn wsX1_key wsX1_mixed := goodIn_r _ [13, 14, 15, 16] (by decide +kernel) (by decide +kernel)
set_option maxRecDepth 20000 in
theorem gX1_key_X1_mixed : GoodIn wsX1_key (va_wsS RX1 111 yX1_mixed wsX1_mixed) := goodIn_app (goodIn_of _ (by decide +kernel)) ggX1_key_X1_mixed
theorem dX1_key_0 : decode cX1_key 0 = .ok (.aload_n 0, 1) := by decide +kernel
theorem dX1_key_1 : decode cX1_key 1 = .ok (.iconst 0, 1) := by decide +kernel
theorem dX1_key_2 : decode cX1_key 2 = .ok (.putfield 31, 3) := by decide +kernel
theorem dX1_key_5 : decode cX1_key 5 = .ok (.ldc2_w 109, 3) := by decide +kernel
theorem dX1_key_8 : decode cX1_key 8 = .ok (.aload_n 0, 1) := by decide +kernel
theorem dX1_key_9 : decode cX1_key 9 = .ok (.getfield 37, 3) := by decide +kernel
theorem dX1_key_12 : decode cX1_key 12 = .ok (.i2l, 1) := by decide +kernel
theorem dX1_key_13 : decode cX1_key 13 = .ok (.ladd, 1) := by decide +kernel
theorem dX1_key_14 : decode cX1_key 14 = .ok (.invokestatic 111, 3) := by decide +kernel
theorem dX1_key_17 : decode cX1_key 17 = .ok (.ldc2_w 115, 3) := by decide +kernel
theorem dX1_key_20 : decode cX1_key 20 = .ok (.aload_n 0, 1) := by decide +kernel
theorem dX1_key_21 : decode cX1_key 21 = .ok (.getfield 13, 3) := by decide +kernel
theorem dX1_key_24 : decode cX1_key 24 = .ok (.i2l, 1) := by decide +kernel
theorem dX1_key_25 : decode cX1_key 25 = .ok (.ladd, 1) := by decide +kernel
theorem dX1_key_26 : decode cX1_key 26 = .ok (.invokestatic 111, 3) := by decide +kernel
theorem dX1_key_29 : decode cX1_key 29 = .ok (.lxor, 1) := by decide +kernel
theorem dX1_key_30 : decode cX1_key 30 = .ok (.lstore_n 1, 1) := by decide +kernel
theorem dX1_key_31 : decode cX1_key 31 = .ok (.iconst 0, 1) := by decide +kernel
theorem dX1_key_32 : decode cX1_key 32 = .ok (.istore_n 3, 1) := by decide +kernel
theorem dX1_key_33 : decode cX1_key 33 = .ok (.iload_n 3, 1) := by decide +kernel
theorem dX1_key_34 : decode cX1_key 34 = .ok (.bipush 64, 2) := by decide +kernel
theorem dX1_key_36 : decode cX1_key 36 = .ok (.if_icmp .ge 42, 3) := by decide +kernel
theorem dX1_key_39 : decode cX1_key 39 = .ok (.aload_n 0, 1) := by decide +kernel
theorem dX1_key_40 : decode cX1_key 40 = .ok (.getfield 7, 3) := by decide +kernel
theorem dX1_key_43 : decode cX1_key 43 = .ok (.iload_n 3, 1) := by decide +kernel
theorem dX1_key_44 : decode cX1_key 44 = .ok (.iaload, 1) := by decide +kernel
theorem dX1_key_45 : decode cX1_key 45 = .ok (.ifCond .le 25, 3) := by decide +kernel
theorem dX1_key_48 : decode cX1_key 48 = .ok (.lload_n 1, 1) := by decide +kernel
theorem dX1_key_49 : decode cX1_key 49 = .ok (.ldc2_w 117, 3) := by decide +kernel
theorem dX1_key_52 : decode cX1_key 52 = .ok (.aload_n 0, 1) := by decide +kernel
theorem dX1_key_53 : decode cX1_key 53 = .ok (.getfield 7, 3) := by decide +kernel
theorem dX1_key_56 : decode cX1_key 56 = .ok (.iload_n 3, 1) := by decide +kernel
theorem dX1_key_57 : decode cX1_key 57 = .ok (.iaload, 1) := by decide +kernel
theorem dX1_key_58 : decode cX1_key 58 = .ok (.i2l, 1) := by decide +kernel
theorem dX1_key_59 : decode cX1_key 59 = .ok (.lmul, 1) := by decide +kernel
theorem dX1_key_60 : decode cX1_key 60 = .ok (.iload_n 3, 1) := by decide +kernel
theorem dX1_key_61 : decode cX1_key 61 = .ok (.i2l, 1) := by decide +kernel
theorem dX1_key_62 : decode cX1_key 62 = .ok (.ladd, 1) := by decide +kernel
theorem dX1_key_63 : decode cX1_key 63 = .ok (.invokestatic 111, 3) := by decide +kernel
theorem dX1_key_66 : decode cX1_key 66 = .ok (.lxor, 1) := by decide +kernel
theorem dX1_key_67 : decode cX1_key 67 = .ok (.goto 4, 3) := by decide +kernel
theorem dX1_key_70 : decode cX1_key 70 = .ok (.lload_n 1, 1) := by decide +kernel
theorem dX1_key_71 : decode cX1_key 71 = .ok (.lstore_n 1, 1) := by decide +kernel
theorem dX1_key_72 : decode cX1_key 72 = .ok (.iinc 3 1, 3) := by decide +kernel
theorem dX1_key_75 : decode cX1_key 75 = .ok (.goto (-42), 3) := by decide +kernel
theorem dX1_key_78 : decode cX1_key 78 = .ok (.aload_n 0, 1) := by decide +kernel
theorem dX1_key_79 : decode cX1_key 79 = .ok (.getfield 34, 3) := by decide +kernel
theorem dX1_key_82 : decode cX1_key 82 = .ok (.iconst 1, 1) := by decide +kernel
theorem dX1_key_83 : decode cX1_key 83 = .ok (.if_icmp .ne 14, 3) := by decide +kernel
theorem dX1_key_86 : decode cX1_key 86 = .ok (.lload_n 1, 1) := by decide +kernel
theorem dX1_key_87 : decode cX1_key 87 = .ok (.ldc2_w 119, 3) := by decide +kernel
