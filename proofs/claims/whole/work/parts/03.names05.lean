theorem dX0_shift_24 : decode cX0_shift 24 = .ok (.iaload, 1) := by decide +kernel
theorem dX0_shift_25 : decode cX0_shift 25 = .ok (.iastore, 1) := by decide +kernel
theorem dX0_shift_26 : decode cX0_shift 26 = .ok (.aload_n 0, 1) := by decide +kernel
theorem dX0_shift_27 : decode cX0_shift 27 = .ok (.getfield 9, 3) := by decide +kernel
theorem dX0_shift_30 : decode cX0_shift 30 = .ok (.iload_n 1, 1) := by decide +kernel
theorem dX0_shift_31 : decode cX0_shift 31 = .ok (.iconst 0, 1) := by decide +kernel
theorem dX0_shift_32 : decode cX0_shift 32 = .ok (.iastore, 1) := by decide +kernel
theorem dX0_shift_33 : decode cX0_shift 33 = .ok (.return_, 1) := by decide +kernel
set_option maxRecDepth 20000 in
theorem ggX0_isCastling_X0_typeOf : GoodIn wsX0_isCastling wsX0_typeOf := goodIn_r _ [4] (by decide +kernel) (by decide +kernel)
set_option maxRecDepth 20000 in
theorem gX0_isCastling_X0_typeOf : GoodIn wsX0_isCastling (va_wsS RX0 108 yX0_typeOf wsX0_typeOf) := goodIn_app (goodIn_of _ (by decide +kernel)) ggX0_isCastling_X0_typeOf
set_option maxRecDepth 20000 in
theorem ggX0_isCastling_X0_isTwoFilesAway : GoodIn wsX0_isCastling wsX0_isTwoFilesAway := goodIn_r _ [7, 8, 9, 10, 11, 12, 13, 3, 14] (by decide +kernel) (by decide +kernel)
set_option maxRecDepth 20000 in
theorem gX0_isCastling_X0_isTwoFilesAway : GoodIn wsX0_isCastling (va_wsS RX0 228 yX0_isTwoFilesAway wsX0_isTwoFilesAway) := goodIn_app (goodIn_of _ (by decide +kernel)) ggX0_isCastling_X0_isTwoFilesAway
theorem dX0_isCastling_0 : decode cX0_isCastling 0 = .ok (.iload_n 0, 1) := by decide +kernel
theorem dX0_isCastling_1 : decode cX0_isCastling 1 = .ok (.invokestatic 108, 3) := by decide +kernel
theorem dX0_isCastling_4 : decode cX0_isCastling 4 = .ok (.bipush 6, 2) := by decide +kernel
theorem dX0_isCastling_6 : decode cX0_isCastling 6 = .ok (.if_icmp .ne 15, 3) := by decide +kernel
theorem dX0_isCastling_9 : decode cX0_isCastling 9 = .ok (.iload_n 1, 1) := by decide +kernel
theorem dX0_isCastling_10 : decode cX0_isCastling 10 = .ok (.iload_n 2, 1) := by decide +kernel
theorem dX0_isCastling_11 : decode cX0_isCastling 11 = .ok (.invokestatic 228, 3) := by decide +kernel
theorem dX0_isCastling_14 : decode cX0_isCastling 14 = .ok (.ifCond .eq 7, 3) := by decide +kernel
theorem dX0_isCastling_17 : decode cX0_isCastling 17 = .ok (.iconst 1, 1) := by decide +kernel
theorem dX0_isCastling_18 : decode cX0_isCastling 18 = .ok (.goto 4, 3) := by decide +kernel
theorem dX0_isCastling_21 : decode cX0_isCastling 21 = .ok (.iconst 0, 1) := by decide +kernel
theorem dX0_isCastling_22 : decode cX0_isCastling 22 = .ok (.ireturn, 1) := by decide +kernel
set_option maxRecDepth 20000 in
theorem ggX0_passingBehind_X0_typeOf : GoodIn wsX0_passingBehind wsX0_typeOf := goodIn_r _ [10] (by decide +kernel) (by decide +kernel)
set_option maxRecDepth 20000 in
theorem gX0_passingBehind_X0_typeOf : GoodIn wsX0_passingBehind (va_wsS RX0 108 yX0_typeOf wsX0_typeOf) := goodIn_app (goodIn_of _ (by decide +kernel)) ggX0_passingBehind_X0_typeOf
set_option maxRecDepth 20000 in
theorem ggX0_passingBehind_X0_otherThan : GoodIn wsX0_passingBehind wsX0_otherThan := goodIn_r _ [13] (by decide +kernel) (by decide +kernel)
set_option maxRecDepth 20000 in
theorem gX0_passingBehind_X0_otherThan : GoodIn wsX0_passingBehind (va_wsS RX0 152 yX0_otherThan wsX0_otherThan) := goodIn_app (goodIn_of _ (by decide +kernel)) ggX0_passingBehind_X0_otherThan
set_option maxRecDepth 20000 in
theorem ggX0_passingBehind_X0_pieceOf : GoodIn wsX0_passingBehind wsX0_pieceOf := goodIn_r _ [16] (by decide +kernel) (by decide +kernel)
set_option maxRecDepth 20000 in
theorem gX0_passingBehind_X0_pieceOf : GoodIn wsX0_passingBehind (va_wsS RX0 37 yX0_pieceOf wsX0_pieceOf) := goodIn_app (goodIn_of _ (by decide +kernel)) ggX0_passingBehind_X0_pieceOf
set_option maxRecDepth 20000 in
theorem ggX0_passingBehind_X0_pawnAttacks : GoodIn wsX0_passingBehind wsX0_pawnAttacks := goodIn_r _ [19, 2, 3, 4, 5, 20, 21, 9, 22, 23, 24, 25, 26, 27, 28] (by decide +kernel) (by decide +kernel)
set_option maxRecDepth 20000 in
theorem gX0_passingBehind_X0_pawnAttacks : GoodIn wsX0_passingBehind (va_wsS RX0 213 yX0_pawnAttacks wsX0_pawnAttacks) := goodIn_app (goodIn_of _ (by decide +kernel)) ggX0_passingBehind_X0_pawnAttacks
theorem dX0_passingBehind_0 : decode cX0_passingBehind 0 = .ok (.aload_n 0, 1) := by decide +kernel
theorem dX0_passingBehind_1 : decode cX0_passingBehind 1 = .ok (.getfield 9, 3) := by decide +kernel
theorem dX0_passingBehind_4 : decode cX0_passingBehind 4 = .ok (.iload_n 2, 1) := by decide +kernel
theorem dX0_passingBehind_5 : decode cX0_passingBehind 5 = .ok (.iaload, 1) := by decide +kernel
theorem dX0_passingBehind_6 : decode cX0_passingBehind 6 = .ok (.invokestatic 108, 3) := by decide +kernel
theorem dX0_passingBehind_9 : decode cX0_passingBehind 9 = .ok (.iconst 1, 1) := by decide +kernel
theorem dX0_passingBehind_10 : decode cX0_passingBehind 10 = .ok (.if_icmp .ne 14, 3) := by decide +kernel
theorem dX0_passingBehind_13 : decode cX0_passingBehind 13 = .ok (.iload_n 2, 1) := by decide +kernel
theorem dX0_passingBehind_14 : decode cX0_passingBehind 14 = .ok (.iload_n 1, 1) := by decide +kernel
theorem dX0_passingBehind_15 : decode cX0_passingBehind 15 = .ok (.isub, 1) := by decide +kernel
theorem dX0_passingBehind_16 : decode cX0_passingBehind 16 = .ok (.invokestatic 240, 3) := by decide +kernel
theorem dX0_passingBehind_19 : decode cX0_passingBehind 19 = .ok (.bipush 16, 2) := by decide +kernel
theorem dX0_passingBehind_21 : decode cX0_passingBehind 21 = .ok (.if_icmp .eq 5, 3) := by decide +kernel
theorem dX0_passingBehind_24 : decode cX0_passingBehind 24 = .ok (.iconst (-1), 1) := by decide +kernel
theorem dX0_passingBehind_25 : decode cX0_passingBehind 25 = .ok (.ireturn, 1) := by decide +kernel
theorem dX0_passingBehind_26 : decode cX0_passingBehind 26 = .ok (.iload_n 1, 1) := by decide +kernel
theorem dX0_passingBehind_27 : decode cX0_passingBehind 27 = .ok (.iload_n 2, 1) := by decide +kernel
theorem dX0_passingBehind_28 : decode cX0_passingBehind 28 = .ok (.iadd, 1) := by decide +kernel
theorem dX0_passingBehind_29 : decode cX0_passingBehind 29 = .ok (.iconst 2, 1) := by decide +kernel
theorem dX0_passingBehind_30 : decode cX0_passingBehind 30 = .ok (.idiv, 1) := by decide +kernel
theorem dX0_passingBehind_31 : decode cX0_passingBehind 31 = .ok (.istore_n 3, 1) := by decide +kernel
theorem dX0_passingBehind_32 : decode cX0_passingBehind 32 = .ok (.aload_n 0, 1) := by decide +kernel
theorem dX0_passingBehind_33 : decode cX0_passingBehind 33 = .ok (.getfield 82, 3) := by decide +kernel
theorem dX0_passingBehind_36 : decode cX0_passingBehind 36 = .ok (.invokestatic 152, 3) := by decide +kernel
theorem dX0_passingBehind_39 : decode cX0_passingBehind 39 = .ok (.istore 4, 2) := by decide +kernel
theorem dX0_passingBehind_41 : decode cX0_passingBehind 41 = .ok (.iconst 0, 1) := by decide +kernel
theorem dX0_passingBehind_42 : decode cX0_passingBehind 42 = .ok (.istore 5, 2) := by decide +kernel
theorem dX0_passingBehind_44 : decode cX0_passingBehind 44 = .ok (.iload 5, 2) := by decide +kernel
theorem dX0_passingBehind_46 : decode cX0_passingBehind 46 = .ok (.bipush 64, 2) := by decide +kernel
theorem dX0_passingBehind_48 : decode cX0_passingBehind 48 = .ok (.if_icmp .ge 38, 3) := by decide +kernel
theorem dX0_passingBehind_51 : decode cX0_passingBehind 51 = .ok (.aload_n 0, 1) := by decide +kernel
theorem dX0_passingBehind_52 : decode cX0_passingBehind 52 = .ok (.getfield 9, 3) := by decide +kernel
theorem dX0_passingBehind_55 : decode cX0_passingBehind 55 = .ok (.iload 5, 2) := by decide +kernel
theorem dX0_passingBehind_57 : decode cX0_passingBehind 57 = .ok (.iaload, 1) := by decide +kernel
theorem dX0_passingBehind_58 : decode cX0_passingBehind 58 = .ok (.iconst 1, 1) := by decide +kernel
theorem dX0_passingBehind_59 : decode cX0_passingBehind 59 = .ok (.iload 4, 2) := by decide +kernel
theorem dX0_passingBehind_61 : decode cX0_passingBehind 61 = .ok (.invokestatic 37, 3) := by decide +kernel
theorem dX0_passingBehind_64 : decode cX0_passingBehind 64 = .ok (.if_icmp .ne 16, 3) := by decide +kernel
theorem dX0_passingBehind_67 : decode cX0_passingBehind 67 = .ok (.iload 4, 2) := by decide +kernel
theorem dX0_passingBehind_69 : decode cX0_passingBehind 69 = .ok (.iload 5, 2) := by decide +kernel
theorem dX0_passingBehind_71 : decode cX0_passingBehind 71 = .ok (.iload_n 3, 1) := by decide +kernel
theorem dX0_passingBehind_72 : decode cX0_passingBehind 72 = .ok (.invokestatic 213, 3) := by decide +kernel
theorem dX0_passingBehind_75 : decode cX0_passingBehind 75 = .ok (.ifCond .eq 5, 3) := by decide +kernel
theorem dX0_passingBehind_78 : decode cX0_passingBehind 78 = .ok (.iload_n 3, 1) := by decide +kernel
theorem dX0_passingBehind_79 : decode cX0_passingBehind 79 = .ok (.ireturn, 1) := by decide +kernel
theorem dX0_passingBehind_80 : decode cX0_passingBehind 80 = .ok (.iinc 5 1, 3) := by decide +kernel
theorem dX0_passingBehind_83 : decode cX0_passingBehind 83 = .ok (.goto (-39), 3) := by decide +kernel
theorem dX0_passingBehind_86 : decode cX0_passingBehind 86 = .ok (.iconst (-1), 1) := by decide +kernel
theorem dX0_passingBehind_87 : decode cX0_passingBehind 87 = .ok (.ireturn, 1) := by decide +kernel
set_option maxRecDepth 20000 in
theorem ggX0_isFree_X0_isSquare : GoodIn wsX0_isFree wsX0_isSquare := goodIn_r _ [5] (by decide +kernel) (by decide +kernel)
set_option maxRecDepth 20000 in
theorem gX0_isFree_X0_isSquare : GoodIn wsX0_isFree (va_wsS RX0 45 yX0_isSquare wsX0_isSquare) := goodIn_app (goodIn_of _ (by decide +kernel)) ggX0_isFree_X0_isSquare
theorem dX0_isFree_0 : decode cX0_isFree 0 = .ok (.iload_n 1, 1) := by decide +kernel
theorem dX0_isFree_1 : decode cX0_isFree 1 = .ok (.invokestatic 45, 3) := by decide +kernel
theorem dX0_isFree_4 : decode cX0_isFree 4 = .ok (.ifCond .eq 16, 3) := by decide +kernel
theorem dX0_isFree_7 : decode cX0_isFree 7 = .ok (.aload_n 0, 1) := by decide +kernel
theorem dX0_isFree_8 : decode cX0_isFree 8 = .ok (.getfield 9, 3) := by decide +kernel
theorem dX0_isFree_11 : decode cX0_isFree 11 = .ok (.iload_n 1, 1) := by decide +kernel
theorem dX0_isFree_12 : decode cX0_isFree 12 = .ok (.iaload, 1) := by decide +kernel
theorem dX0_isFree_13 : decode cX0_isFree 13 = .ok (.ifCond .ne 7, 3) := by decide +kernel
theorem dX0_isFree_16 : decode cX0_isFree 16 = .ok (.iconst 1, 1) := by decide +kernel
theorem dX0_isFree_17 : decode cX0_isFree 17 = .ok (.goto 4, 3) := by decide +kernel
theorem dX0_isFree_20 : decode cX0_isFree 20 = .ok (.iconst 0, 1) := by decide +kernel
theorem dX0_isFree_21 : decode cX0_isFree 21 = .ok (.ireturn, 1) := by decide +kernel
set_option maxRecDepth 20000 in
theorem ggX0_holds_X0_isSquare : GoodIn wsX0_holds wsX0_isSquare := goodIn_r _ [5] (by decide +kernel) (by decide +kernel)
set_option maxRecDepth 20000 in
theorem gX0_holds_X0_isSquare : GoodIn wsX0_holds (va_wsS RX0 45 yX0_isSquare wsX0_isSquare) := goodIn_app (goodIn_of _ (by decide +kernel)) ggX0_holds_X0_isSquare
theorem dX0_holds_0 : decode cX0_holds 0 = .ok (.iload_n 1, 1) := by decide +kernel
theorem dX0_holds_1 : decode cX0_holds 1 = .ok (.invokestatic 45, 3) := by decide +kernel
theorem dX0_holds_4 : decode cX0_holds 4 = .ok (.ifCond .eq 17, 3) := by decide +kernel
theorem dX0_holds_7 : decode cX0_holds 7 = .ok (.aload_n 0, 1) := by decide +kernel
theorem dX0_holds_8 : decode cX0_holds 8 = .ok (.getfield 9, 3) := by decide +kernel
theorem dX0_holds_11 : decode cX0_holds 11 = .ok (.iload_n 1, 1) := by decide +kernel
theorem dX0_holds_12 : decode cX0_holds 12 = .ok (.iaload, 1) := by decide +kernel
theorem dX0_holds_13 : decode cX0_holds 13 = .ok (.iload_n 2, 1) := by decide +kernel
theorem dX0_holds_14 : decode cX0_holds 14 = .ok (.if_icmp .ne 7, 3) := by decide +kernel
theorem dX0_holds_17 : decode cX0_holds 17 = .ok (.iconst 1, 1) := by decide +kernel
theorem dX0_holds_18 : decode cX0_holds 18 = .ok (.goto 4, 3) := by decide +kernel
theorem dX0_holds_21 : decode cX0_holds 21 = .ok (.iconst 0, 1) := by decide +kernel
theorem dX0_holds_22 : decode cX0_holds 22 = .ok (.ireturn, 1) := by decide +kernel
theorem dX0_isSquare_0 : decode cX0_isSquare 0 = .ok (.iload_n 0, 1) := by decide +kernel
theorem dX0_isSquare_1 : decode cX0_isSquare 1 = .ok (.ifCond .lt 13, 3) := by decide +kernel
theorem dX0_isSquare_4 : decode cX0_isSquare 4 = .ok (.iload_n 0, 1) := by decide +kernel
theorem dX0_isSquare_5 : decode cX0_isSquare 5 = .ok (.bipush 64, 2) := by decide +kernel
theorem dX0_isSquare_7 : decode cX0_isSquare 7 = .ok (.if_icmp .ge 7, 3) := by decide +kernel
theorem dX0_isSquare_10 : decode cX0_isSquare 10 = .ok (.iconst 1, 1) := by decide +kernel
theorem dX0_isSquare_11 : decode cX0_isSquare 11 = .ok (.goto 4, 3) := by decide +kernel
theorem dX0_isSquare_14 : decode cX0_isSquare 14 = .ok (.iconst 0, 1) := by decide +kernel
theorem dX0_isSquare_15 : decode cX0_isSquare 15 = .ok (.ireturn, 1) := by decide +kernel
theorem dX0_fileOf_0 : decode cX0_fileOf 0 = .ok (.iload_n 0, 1) := by decide +kernel
theorem dX0_fileOf_1 : decode cX0_fileOf 1 = .ok (.bipush 7, 2) := by decide +kernel
theorem dX0_fileOf_3 : decode cX0_fileOf 3 = .ok (.iand, 1) := by decide +kernel
theorem dX0_fileOf_4 : decode cX0_fileOf 4 = .ok (.ireturn, 1) := by decide +kernel
theorem dX0_rankOf_0 : decode cX0_rankOf 0 = .ok (.iload_n 0, 1) := by decide +kernel
theorem dX0_rankOf_1 : decode cX0_rankOf 1 = .ok (.iconst 3, 1) := by decide +kernel
theorem dX0_rankOf_2 : decode cX0_rankOf 2 = .ok (.ishr, 1) := by decide +kernel
theorem dX0_rankOf_3 : decode cX0_rankOf 3 = .ok (.ireturn, 1) := by decide +kernel
set_option maxRecDepth 20000 in
theorem ggX0_isTwoFilesAway_X0_rankOf : GoodIn wsX0_isTwoFilesAway wsX0_rankOf := goodIn_r _ [8] (by decide +kernel) (by decide +kernel)
set_option maxRecDepth 20000 in
theorem gX0_isTwoFilesAway_X0_rankOf : GoodIn wsX0_isTwoFilesAway (va_wsS RX0 189 yX0_rankOf wsX0_rankOf) := goodIn_app (goodIn_of _ (by decide +kernel)) ggX0_isTwoFilesAway_X0_rankOf
theorem dX0_isTwoFilesAway_0 : decode cX0_isTwoFilesAway 0 = .ok (.iload_n 0, 1) := by decide +kernel
theorem dX0_isTwoFilesAway_1 : decode cX0_isTwoFilesAway 1 = .ok (.invokestatic 189, 3) := by decide +kernel
theorem dX0_isTwoFilesAway_4 : decode cX0_isTwoFilesAway 4 = .ok (.iload_n 1, 1) := by decide +kernel
theorem dX0_isTwoFilesAway_5 : decode cX0_isTwoFilesAway 5 = .ok (.invokestatic 189, 3) := by decide +kernel
theorem dX0_isTwoFilesAway_8 : decode cX0_isTwoFilesAway 8 = .ok (.if_icmp .ne 17, 3) := by decide +kernel
theorem dX0_isTwoFilesAway_11 : decode cX0_isTwoFilesAway 11 = .ok (.iload_n 1, 1) := by decide +kernel
theorem dX0_isTwoFilesAway_12 : decode cX0_isTwoFilesAway 12 = .ok (.iload_n 0, 1) := by decide +kernel
theorem dX0_isTwoFilesAway_13 : decode cX0_isTwoFilesAway 13 = .ok (.isub, 1) := by decide +kernel
theorem dX0_isTwoFilesAway_14 : decode cX0_isTwoFilesAway 14 = .ok (.invokestatic 240, 3) := by decide +kernel
theorem dX0_isTwoFilesAway_17 : decode cX0_isTwoFilesAway 17 = .ok (.iconst 2, 1) := by decide +kernel
theorem dX0_isTwoFilesAway_18 : decode cX0_isTwoFilesAway 18 = .ok (.if_icmp .ne 7, 3) := by decide +kernel
theorem dX0_isTwoFilesAway_21 : decode cX0_isTwoFilesAway 21 = .ok (.iconst 1, 1) := by decide +kernel
theorem dX0_isTwoFilesAway_22 : decode cX0_isTwoFilesAway 22 = .ok (.goto 4, 3) := by decide +kernel
theorem dX0_isTwoFilesAway_25 : decode cX0_isTwoFilesAway 25 = .ok (.iconst 0, 1) := by decide +kernel
theorem dX0_isTwoFilesAway_26 : decode cX0_isTwoFilesAway 26 = .ok (.ireturn, 1) := by decide +kernel
theorem dX0_cornerBeyond_0 : decode cX0_cornerBeyond 0 = .ok (.iload_n 1, 1) := by decide +kernel
theorem dX0_cornerBeyond_1 : decode cX0_cornerBeyond 1 = .ok (.iload_n 0, 1) := by decide +kernel
theorem dX0_cornerBeyond_2 : decode cX0_cornerBeyond 2 = .ok (.if_icmp .le 9, 3) := by decide +kernel
theorem dX0_cornerBeyond_5 : decode cX0_cornerBeyond 5 = .ok (.iload_n 0, 1) := by decide +kernel
theorem dX0_cornerBeyond_6 : decode cX0_cornerBeyond 6 = .ok (.iconst 3, 1) := by decide +kernel
theorem dX0_cornerBeyond_7 : decode cX0_cornerBeyond 7 = .ok (.iadd, 1) := by decide +kernel
theorem dX0_cornerBeyond_8 : decode cX0_cornerBeyond 8 = .ok (.goto 6, 3) := by decide +kernel
theorem dX0_cornerBeyond_11 : decode cX0_cornerBeyond 11 = .ok (.iload_n 0, 1) := by decide +kernel
theorem dX0_cornerBeyond_12 : decode cX0_cornerBeyond 12 = .ok (.iconst 4, 1) := by decide +kernel
theorem dX0_cornerBeyond_13 : decode cX0_cornerBeyond 13 = .ok (.isub, 1) := by decide +kernel
theorem dX0_cornerBeyond_14 : decode cX0_cornerBeyond 14 = .ok (.ireturn, 1) := by decide +kernel
theorem dX0_rightOfCorner_0 : decode cX0_rightOfCorner 0 = .ok (.iload_n 0, 1) := by decide +kernel
theorem dX0_rightOfCorner_1 : decode cX0_rightOfCorner 1 = .ok (.lookupswitch 52 #[(0, 45), (7, 43), (56, 49), (63, 47)], 43) := by decide +kernel
theorem dX0_rightOfCorner_44 : decode cX0_rightOfCorner 44 = .ok (.iconst 1, 1) := by decide +kernel
theorem dX0_rightOfCorner_45 : decode cX0_rightOfCorner 45 = .ok (.ireturn, 1) := by decide +kernel
theorem dX0_rightOfCorner_46 : decode cX0_rightOfCorner 46 = .ok (.iconst 2, 1) := by decide +kernel
theorem dX0_rightOfCorner_47 : decode cX0_rightOfCorner 47 = .ok (.ireturn, 1) := by decide +kernel
theorem dX0_rightOfCorner_48 : decode cX0_rightOfCorner 48 = .ok (.iconst 4, 1) := by decide +kernel
theorem dX0_rightOfCorner_49 : decode cX0_rightOfCorner 49 = .ok (.ireturn, 1) := by decide +kernel
theorem dX0_rightOfCorner_50 : decode cX0_rightOfCorner 50 = .ok (.bipush 8, 2) := by decide +kernel
theorem dX0_rightOfCorner_52 : decode cX0_rightOfCorner 52 = .ok (.ireturn, 1) := by decide +kernel
theorem dX0_rightOfCorner_53 : decode cX0_rightOfCorner 53 = .ok (.iconst 0, 1) := by decide +kernel
theorem dX0_rightOfCorner_54 : decode cX0_rightOfCorner 54 = .ok (.ireturn, 1) := by decide +kernel
theorem dX0_isSide_0 : decode cX0_isSide 0 = .ok (.iload_n 0, 1) := by decide +kernel
theorem dX0_isSide_1 : decode cX0_isSide 1 = .ok (.ifCond .eq 8, 3) := by decide +kernel
theorem dX0_isSide_4 : decode cX0_isSide 4 = .ok (.iload_n 0, 1) := by decide +kernel
theorem dX0_isSide_5 : decode cX0_isSide 5 = .ok (.iconst 1, 1) := by decide +kernel
theorem dX0_isSide_6 : decode cX0_isSide 6 = .ok (.if_icmp .ne 7, 3) := by decide +kernel
theorem dX0_isSide_9 : decode cX0_isSide 9 = .ok (.iconst 1, 1) := by decide +kernel
theorem dX0_isSide_10 : decode cX0_isSide 10 = .ok (.goto 4, 3) := by decide +kernel
theorem dX0_isSide_13 : decode cX0_isSide 13 = .ok (.iconst 0, 1) := by decide +kernel
theorem dX0_isSide_14 : decode cX0_isSide 14 = .ok (.ireturn, 1) := by decide +kernel
theorem dX0_otherThan_0 : decode cX0_otherThan 0 = .ok (.iconst 1, 1) := by decide +kernel
theorem dX0_otherThan_1 : decode cX0_otherThan 1 = .ok (.iload_n 0, 1) := by decide +kernel
theorem dX0_otherThan_2 : decode cX0_otherThan 2 = .ok (.isub, 1) := by decide +kernel
theorem dX0_otherThan_3 : decode cX0_otherThan 3 = .ok (.ireturn, 1) := by decide +kernel
theorem dX0_onward_0 : decode cX0_onward 0 = .ok (.iload_n 0, 1) := by decide +kernel
theorem dX0_onward_1 : decode cX0_onward 1 = .ok (.ifCond .ne 7, 3) := by decide +kernel
theorem dX0_onward_4 : decode cX0_onward 4 = .ok (.iconst 1, 1) := by decide +kernel
theorem dX0_onward_5 : decode cX0_onward 5 = .ok (.goto 4, 3) := by decide +kernel
theorem dX0_onward_8 : decode cX0_onward 8 = .ok (.iconst (-1), 1) := by decide +kernel
theorem dX0_onward_9 : decode cX0_onward 9 = .ok (.ireturn, 1) := by decide +kernel
theorem dX0_secondRankOf_0 : decode cX0_secondRankOf 0 = .ok (.iload_n 0, 1) := by decide +kernel
theorem dX0_secondRankOf_1 : decode cX0_secondRankOf 1 = .ok (.ifCond .ne 7, 3) := by decide +kernel
theorem dX0_secondRankOf_4 : decode cX0_secondRankOf 4 = .ok (.iconst 1, 1) := by decide +kernel
theorem dX0_secondRankOf_5 : decode cX0_secondRankOf 5 = .ok (.goto 5, 3) := by decide +kernel
theorem dX0_secondRankOf_8 : decode cX0_secondRankOf 8 = .ok (.bipush 6, 2) := by decide +kernel
theorem dX0_secondRankOf_10 : decode cX0_secondRankOf 10 = .ok (.ireturn, 1) := by decide +kernel
theorem dX0_lastRankOf_0 : decode cX0_lastRankOf 0 = .ok (.iload_n 0, 1) := by decide +kernel
theorem dX0_lastRankOf_1 : decode cX0_lastRankOf 1 = .ok (.ifCond .ne 8, 3) := by decide +kernel
theorem dX0_lastRankOf_4 : decode cX0_lastRankOf 4 = .ok (.bipush 7, 2) := by decide +kernel
theorem dX0_lastRankOf_6 : decode cX0_lastRankOf 6 = .ok (.goto 4, 3) := by decide +kernel
theorem dX0_lastRankOf_9 : decode cX0_lastRankOf 9 = .ok (.iconst 0, 1) := by decide +kernel
theorem dX0_lastRankOf_10 : decode cX0_lastRankOf 10 = .ok (.ireturn, 1) := by decide +kernel
theorem dX0_homeOfKing_0 : decode cX0_homeOfKing 0 = .ok (.iload_n 0, 1) := by decide +kernel
theorem dX0_homeOfKing_1 : decode cX0_homeOfKing 1 = .ok (.ifCond .ne 7, 3) := by decide +kernel
theorem dX0_homeOfKing_4 : decode cX0_homeOfKing 4 = .ok (.iconst 4, 1) := by decide +kernel
theorem dX0_homeOfKing_5 : decode cX0_homeOfKing 5 = .ok (.goto 5, 3) := by decide +kernel
theorem dX0_homeOfKing_8 : decode cX0_homeOfKing 8 = .ok (.bipush 60, 2) := by decide +kernel
theorem dX0_homeOfKing_10 : decode cX0_homeOfKing 10 = .ok (.ireturn, 1) := by decide +kernel
theorem dX0_pieceOf_0 : decode cX0_pieceOf 0 = .ok (.iload_n 0, 1) := by decide +kernel
theorem dX0_pieceOf_1 : decode cX0_pieceOf 1 = .ok (.bipush 6, 2) := by decide +kernel
theorem dX0_pieceOf_3 : decode cX0_pieceOf 3 = .ok (.iload_n 1, 1) := by decide +kernel
theorem dX0_pieceOf_4 : decode cX0_pieceOf 4 = .ok (.imul, 1) := by decide +kernel
theorem dX0_pieceOf_5 : decode cX0_pieceOf 5 = .ok (.iadd, 1) := by decide +kernel
theorem dX0_pieceOf_6 : decode cX0_pieceOf 6 = .ok (.ireturn, 1) := by decide +kernel
theorem dX0_typeOf_0 : decode cX0_typeOf 0 = .ok (.iload_n 0, 1) := by decide +kernel
theorem dX0_typeOf_1 : decode cX0_typeOf 1 = .ok (.bipush 6, 2) := by decide +kernel
theorem dX0_typeOf_3 : decode cX0_typeOf 3 = .ok (.if_icmp .le 10, 3) := by decide +kernel
theorem dX0_typeOf_6 : decode cX0_typeOf 6 = .ok (.iload_n 0, 1) := by decide +kernel
theorem dX0_typeOf_7 : decode cX0_typeOf 7 = .ok (.bipush 6, 2) := by decide +kernel
theorem dX0_typeOf_9 : decode cX0_typeOf 9 = .ok (.isub, 1) := by decide +kernel
theorem dX0_typeOf_10 : decode cX0_typeOf 10 = .ok (.goto 4, 3) := by decide +kernel
theorem dX0_typeOf_13 : decode cX0_typeOf 13 = .ok (.iload_n 0, 1) := by decide +kernel
theorem dX0_typeOf_14 : decode cX0_typeOf 14 = .ok (.ireturn, 1) := by decide +kernel
theorem dX0_sideOf_0 : decode cX0_sideOf 0 = .ok (.iload_n 0, 1) := by decide +kernel
theorem dX0_sideOf_1 : decode cX0_sideOf 1 = .ok (.ifCond .ne 5, 3) := by decide +kernel
theorem dX0_sideOf_4 : decode cX0_sideOf 4 = .ok (.iconst (-1), 1) := by decide +kernel
theorem dX0_sideOf_5 : decode cX0_sideOf 5 = .ok (.ireturn, 1) := by decide +kernel
theorem dX0_sideOf_6 : decode cX0_sideOf 6 = .ok (.iload_n 0, 1) := by decide +kernel
theorem dX0_sideOf_7 : decode cX0_sideOf 7 = .ok (.bipush 6, 2) := by decide +kernel
theorem dX0_sideOf_9 : decode cX0_sideOf 9 = .ok (.if_icmp .le 7, 3) := by decide +kernel
theorem dX0_sideOf_12 : decode cX0_sideOf 12 = .ok (.iconst 1, 1) := by decide +kernel
theorem dX0_sideOf_13 : decode cX0_sideOf 13 = .ok (.goto 4, 3) := by decide +kernel
theorem dX0_sideOf_16 : decode cX0_sideOf 16 = .ok (.iconst 0, 1) := by decide +kernel
theorem dX0_sideOf_17 : decode cX0_sideOf 17 = .ok (.ireturn, 1) := by decide +kernel
theorem dX0_worthOf_0 : decode cX0_worthOf 0 = .ok (.iload_n 0, 1) := by decide +kernel
theorem dX0_worthOf_1 : decode cX0_worthOf 1 = .ok (.tableswitch 44 1 5 #[35, 37, 37, 39, 41], 35) := by decide +kernel
theorem dX0_worthOf_36 : decode cX0_worthOf 36 = .ok (.iconst 1, 1) := by decide +kernel
theorem dX0_worthOf_37 : decode cX0_worthOf 37 = .ok (.ireturn, 1) := by decide +kernel
theorem dX0_worthOf_38 : decode cX0_worthOf 38 = .ok (.iconst 3, 1) := by decide +kernel
theorem dX0_worthOf_39 : decode cX0_worthOf 39 = .ok (.ireturn, 1) := by decide +kernel
theorem dX0_worthOf_40 : decode cX0_worthOf 40 = .ok (.iconst 5, 1) := by decide +kernel
theorem dX0_worthOf_41 : decode cX0_worthOf 41 = .ok (.ireturn, 1) := by decide +kernel
theorem dX0_worthOf_42 : decode cX0_worthOf 42 = .ok (.bipush 9, 2) := by decide +kernel
theorem dX0_worthOf_44 : decode cX0_worthOf 44 = .ok (.ireturn, 1) := by decide +kernel
theorem dX0_worthOf_45 : decode cX0_worthOf 45 = .ok (.iconst 0, 1) := by decide +kernel
theorem dX0_worthOf_46 : decode cX0_worthOf 46 = .ok (.ireturn, 1) := by decide +kernel
set_option maxRecDepth 20000 in
theorem ggX0_rightsOfKing_X0_typeOf : GoodIn wsX0_rightsOfKing wsX0_typeOf := goodIn_r _ [4] (by decide +kernel) (by decide +kernel)
set_option maxRecDepth 20000 in
theorem gX0_rightsOfKing_X0_typeOf : GoodIn wsX0_rightsOfKing (va_wsS RX0 108 yX0_typeOf wsX0_typeOf) := goodIn_app (goodIn_of _ (by decide +kernel)) ggX0_rightsOfKing_X0_typeOf
set_option maxRecDepth 20000 in
theorem ggX0_rightsOfKing_X0_sideOf : GoodIn wsX0_rightsOfKing wsX0_sideOf := goodIn_r _ [7] (by decide +kernel) (by decide +kernel)
set_option maxRecDepth 20000 in
theorem gX0_rightsOfKing_X0_sideOf : GoodIn wsX0_rightsOfKing (va_wsS RX0 105 yX0_sideOf wsX0_sideOf) := goodIn_app (goodIn_of _ (by decide +kernel)) ggX0_rightsOfKing_X0_sideOf
theorem dX0_rightsOfKing_0 : decode cX0_rightsOfKing 0 = .ok (.iload_n 0, 1) := by decide +kernel
theorem dX0_rightsOfKing_1 : decode cX0_rightsOfKing 1 = .ok (.invokestatic 108, 3) := by decide +kernel
theorem dX0_rightsOfKing_4 : decode cX0_rightsOfKing 4 = .ok (.bipush 6, 2) := by decide +kernel
theorem dX0_rightsOfKing_6 : decode cX0_rightsOfKing 6 = .ok (.if_icmp .eq 5, 3) := by decide +kernel
theorem dX0_rightsOfKing_9 : decode cX0_rightsOfKing 9 = .ok (.iconst 0, 1) := by decide +kernel
theorem dX0_rightsOfKing_10 : decode cX0_rightsOfKing 10 = .ok (.ireturn, 1) := by decide +kernel
theorem dX0_rightsOfKing_11 : decode cX0_rightsOfKing 11 = .ok (.iload_n 0, 1) := by decide +kernel
theorem dX0_rightsOfKing_12 : decode cX0_rightsOfKing 12 = .ok (.invokestatic 105, 3) := by decide +kernel
theorem dX0_rightsOfKing_15 : decode cX0_rightsOfKing 15 = .ok (.ifCond .ne 7, 3) := by decide +kernel
theorem dX0_rightsOfKing_18 : decode cX0_rightsOfKing 18 = .ok (.iconst 3, 1) := by decide +kernel
theorem dX0_rightsOfKing_19 : decode cX0_rightsOfKing 19 = .ok (.goto 5, 3) := by decide +kernel
theorem dX0_rightsOfKing_22 : decode cX0_rightsOfKing 22 = .ok (.bipush 12, 2) := by decide +kernel
theorem dX0_rightsOfKing_24 : decode cX0_rightsOfKing 24 = .ok (.ireturn, 1) := by decide +kernel
theorem dX0_fromOf_0 : decode cX0_fromOf 0 = .ok (.iload_n 0, 1) := by decide +kernel
theorem dX0_fromOf_1 : decode cX0_fromOf 1 = .ok (.bipush 63, 2) := by decide +kernel
theorem dX0_fromOf_3 : decode cX0_fromOf 3 = .ok (.iand, 1) := by decide +kernel
theorem dX0_fromOf_4 : decode cX0_fromOf 4 = .ok (.ireturn, 1) := by decide +kernel
theorem dX0_toOf_0 : decode cX0_toOf 0 = .ok (.iload_n 0, 1) := by decide +kernel
theorem dX0_toOf_1 : decode cX0_toOf 1 = .ok (.bipush 6, 2) := by decide +kernel
theorem dX0_toOf_3 : decode cX0_toOf 3 = .ok (.ishr, 1) := by decide +kernel
theorem dX0_toOf_4 : decode cX0_toOf 4 = .ok (.bipush 63, 2) := by decide +kernel
theorem dX0_toOf_6 : decode cX0_toOf 6 = .ok (.iand, 1) := by decide +kernel
theorem dX0_toOf_7 : decode cX0_toOf 7 = .ok (.ireturn, 1) := by decide +kernel
theorem dX0_kindOf_0 : decode cX0_kindOf 0 = .ok (.iload_n 0, 1) := by decide +kernel
theorem dX0_kindOf_1 : decode cX0_kindOf 1 = .ok (.bipush 12, 2) := by decide +kernel
theorem dX0_kindOf_3 : decode cX0_kindOf 3 = .ok (.ishr, 1) := by decide +kernel
theorem dX0_kindOf_4 : decode cX0_kindOf 4 = .ok (.ireturn, 1) := by decide +kernel
theorem dX0_mixed_0 : decode cX0_mixed 0 = .ok (.lload_n 0, 1) := by decide +kernel
theorem dX0_mixed_1 : decode cX0_mixed 1 = .ok (.ldc2_w 259, 3) := by decide +kernel
theorem dX0_mixed_4 : decode cX0_mixed 4 = .ok (.ladd, 1) := by decide +kernel
theorem dX0_mixed_5 : decode cX0_mixed 5 = .ok (.lstore_n 0, 1) := by decide +kernel
theorem dX0_mixed_6 : decode cX0_mixed 6 = .ok (.lload_n 0, 1) := by decide +kernel
theorem dX0_mixed_7 : decode cX0_mixed 7 = .ok (.lload_n 0, 1) := by decide +kernel
theorem dX0_mixed_8 : decode cX0_mixed 8 = .ok (.bipush 30, 2) := by decide +kernel
theorem dX0_mixed_10 : decode cX0_mixed 10 = .ok (.lushr, 1) := by decide +kernel
theorem dX0_mixed_11 : decode cX0_mixed 11 = .ok (.lxor, 1) := by decide +kernel
theorem dX0_mixed_12 : decode cX0_mixed 12 = .ok (.ldc2_w 261, 3) := by decide +kernel
theorem dX0_mixed_15 : decode cX0_mixed 15 = .ok (.lmul, 1) := by decide +kernel
theorem dX0_mixed_16 : decode cX0_mixed 16 = .ok (.lstore_n 0, 1) := by decide +kernel
theorem dX0_mixed_17 : decode cX0_mixed 17 = .ok (.lload_n 0, 1) := by decide +kernel
theorem dX0_mixed_18 : decode cX0_mixed 18 = .ok (.lload_n 0, 1) := by decide +kernel
theorem dX0_mixed_19 : decode cX0_mixed 19 = .ok (.bipush 27, 2) := by decide +kernel
theorem dX0_mixed_21 : decode cX0_mixed 21 = .ok (.lushr, 1) := by decide +kernel
theorem dX0_mixed_22 : decode cX0_mixed 22 = .ok (.lxor, 1) := by decide +kernel
theorem dX0_mixed_23 : decode cX0_mixed 23 = .ok (.ldc2_w 263, 3) := by decide +kernel
theorem dX0_mixed_26 : decode cX0_mixed 26 = .ok (.lmul, 1) := by decide +kernel
theorem dX0_mixed_27 : decode cX0_mixed 27 = .ok (.lstore_n 0, 1) := by decide +kernel
theorem dX0_mixed_28 : decode cX0_mixed 28 = .ok (.lload_n 0, 1) := by decide +kernel
theorem dX0_mixed_29 : decode cX0_mixed 29 = .ok (.lload_n 0, 1) := by decide +kernel
theorem dX0_mixed_30 : decode cX0_mixed 30 = .ok (.bipush 31, 2) := by decide +kernel
theorem dX0_mixed_32 : decode cX0_mixed 32 = .ok (.lushr, 1) := by decide +kernel
theorem dX0_mixed_33 : decode cX0_mixed 33 = .ok (.lxor, 1) := by decide +kernel
theorem dX0_mixed_34 : decode cX0_mixed 34 = .ok (.lreturn, 1) := by decide +kernel
theorem dX1_init_0 : decode cX1_init 0 = .ok (.aload_n 0, 1) := by decide +kernel
theorem dX1_init_1 : decode cX1_init 1 = .ok (.invokespecial 1, 3) := by decide +kernel
theorem dX1_init_4 : decode cX1_init 4 = .ok (.aload_n 0, 1) := by decide +kernel
theorem dX1_init_5 : decode cX1_init 5 = .ok (.bipush 64, 2) := by decide +kernel
theorem dX1_init_7 : decode cX1_init 7 = .ok (.newarray .int, 2) := by decide +kernel
theorem dX1_init_9 : decode cX1_init 9 = .ok (.putfield 7, 3) := by decide +kernel
theorem dX1_init_12 : decode cX1_init 12 = .ok (.aload_n 0, 1) := by decide +kernel
theorem dX1_init_13 : decode cX1_init 13 = .ok (.iconst (-1), 1) := by decide +kernel
theorem dX1_init_14 : decode cX1_init 14 = .ok (.putfield 13, 3) := by decide +kernel
theorem dX1_init_17 : decode cX1_init 17 = .ok (.aload_n 0, 1) := by decide +kernel
theorem dX1_init_18 : decode cX1_init 18 = .ok (.iconst 1, 1) := by decide +kernel
theorem dX1_init_19 : decode cX1_init 19 = .ok (.putfield 17, 3) := by decide +kernel
theorem dX1_init_22 : decode cX1_init 22 = .ok (.aload_n 0, 1) := by decide +kernel
theorem dX1_init_23 : decode cX1_init 23 = .ok (.sipush 600, 3) := by decide +kernel
theorem dX1_init_26 : decode cX1_init 26 = .ok (.newarray .int, 2) := by decide +kernel
theorem dX1_init_28 : decode cX1_init 28 = .ok (.putfield 20, 3) := by decide +kernel
theorem dX1_init_31 : decode cX1_init 31 = .ok (.aload_n 0, 1) := by decide +kernel
theorem dX1_init_32 : decode cX1_init 32 = .ok (.ldc 23, 2) := by decide +kernel
theorem dX1_init_34 : decode cX1_init 34 = .ok (.newarray .byte, 2) := by decide +kernel
theorem dX1_init_36 : decode cX1_init 36 = .ok (.putfield 24, 3) := by decide +kernel
theorem dX1_init_39 : decode cX1_init 39 = .ok (.aload_n 0, 1) := by decide +kernel
theorem dX1_init_40 : decode cX1_init 40 = .ok (.sipush 3000, 3) := by decide +kernel
theorem dX1_init_43 : decode cX1_init 43 = .ok (.newarray .int, 2) := by decide +kernel
theorem dX1_init_45 : decode cX1_init 45 = .ok (.putfield 28, 3) := by decide +kernel
theorem dX1_init_48 : decode cX1_init 48 = .ok (.return_, 1) := by decide +kernel
theorem dX1_thrown_0 : decode cX1_thrown 0 = .ok (.aload_n 0, 1) := by decide +kernel
theorem dX1_thrown_1 : decode cX1_thrown 1 = .ok (.getfield 31, 3) := by decide +kernel
theorem dX1_thrown_4 : decode cX1_thrown 4 = .ok (.ireturn, 1) := by decide +kernel
theorem dX1_isSquare_0 : decode cX1_isSquare 0 = .ok (.iload_n 0, 1) := by decide +kernel
theorem dX1_isSquare_1 : decode cX1_isSquare 1 = .ok (.ifCond .lt 13, 3) := by decide +kernel
theorem dX1_isSquare_4 : decode cX1_isSquare 4 = .ok (.iload_n 0, 1) := by decide +kernel
theorem dX1_isSquare_5 : decode cX1_isSquare 5 = .ok (.bipush 64, 2) := by decide +kernel
theorem dX1_isSquare_7 : decode cX1_isSquare 7 = .ok (.if_icmp .ge 7, 3) := by decide +kernel
theorem dX1_isSquare_10 : decode cX1_isSquare 10 = .ok (.iconst 1, 1) := by decide +kernel
theorem dX1_isSquare_11 : decode cX1_isSquare 11 = .ok (.goto 4, 3) := by decide +kernel
theorem dX1_isSquare_14 : decode cX1_isSquare 14 = .ok (.iconst 0, 1) := by decide +kernel
theorem dX1_isSquare_15 : decode cX1_isSquare 15 = .ok (.ireturn, 1) := by decide +kernel
theorem dX1_sideOf_0 : decode cX1_sideOf 0 = .ok (.iload_n 0, 1) := by decide +kernel
theorem dX1_sideOf_1 : decode cX1_sideOf 1 = .ok (.ifCond .ne 7, 3) := by decide +kernel
theorem dX1_sideOf_4 : decode cX1_sideOf 4 = .ok (.iconst (-1), 1) := by decide +kernel
theorem dX1_sideOf_5 : decode cX1_sideOf 5 = .ok (.goto 14, 3) := by decide +kernel
theorem dX1_sideOf_8 : decode cX1_sideOf 8 = .ok (.iload_n 0, 1) := by decide +kernel
theorem dX1_sideOf_9 : decode cX1_sideOf 9 = .ok (.bipush 7, 2) := by decide +kernel
theorem dX1_sideOf_11 : decode cX1_sideOf 11 = .ok (.if_icmp .ge 7, 3) := by decide +kernel
theorem dX1_sideOf_14 : decode cX1_sideOf 14 = .ok (.iconst 0, 1) := by decide +kernel
theorem dX1_sideOf_15 : decode cX1_sideOf 15 = .ok (.goto 4, 3) := by decide +kernel
theorem dX1_sideOf_18 : decode cX1_sideOf 18 = .ok (.iconst 1, 1) := by decide +kernel
theorem dX1_sideOf_19 : decode cX1_sideOf 19 = .ok (.ireturn, 1) := by decide +kernel
theorem dX1_kindOf_0 : decode cX1_kindOf 0 = .ok (.iload_n 0, 1) := by decide +kernel
theorem dX1_kindOf_1 : decode cX1_kindOf 1 = .ok (.bipush 7, 2) := by decide +kernel
theorem dX1_kindOf_3 : decode cX1_kindOf 3 = .ok (.if_icmp .ge 7, 3) := by decide +kernel
theorem dX1_kindOf_6 : decode cX1_kindOf 6 = .ok (.iload_n 0, 1) := by decide +kernel
theorem dX1_kindOf_7 : decode cX1_kindOf 7 = .ok (.goto 7, 3) := by decide +kernel
theorem dX1_kindOf_10 : decode cX1_kindOf 10 = .ok (.iload_n 0, 1) := by decide +kernel
theorem dX1_kindOf_11 : decode cX1_kindOf 11 = .ok (.bipush 6, 2) := by decide +kernel
theorem dX1_kindOf_13 : decode cX1_kindOf 13 = .ok (.isub, 1) := by decide +kernel
theorem dX1_kindOf_14 : decode cX1_kindOf 14 = .ok (.ireturn, 1) := by decide +kernel
theorem dX1_apart_0 : decode cX1_apart 0 = .ok (.iload_n 0, 1) := by decide +kernel
theorem dX1_apart_1 : decode cX1_apart 1 = .ok (.iload_n 1, 1) := by decide +kernel
theorem dX1_apart_2 : decode cX1_apart 2 = .ok (.if_icmp .le 9, 3) := by decide +kernel
theorem dX1_apart_5 : decode cX1_apart 5 = .ok (.iload_n 0, 1) := by decide +kernel
theorem dX1_apart_6 : decode cX1_apart 6 = .ok (.iload_n 1, 1) := by decide +kernel
theorem dX1_apart_7 : decode cX1_apart 7 = .ok (.isub, 1) := by decide +kernel
theorem dX1_apart_8 : decode cX1_apart 8 = .ok (.goto 6, 3) := by decide +kernel
theorem dX1_apart_11 : decode cX1_apart 11 = .ok (.iload_n 1, 1) := by decide +kernel
theorem dX1_apart_12 : decode cX1_apart 12 = .ok (.iload_n 0, 1) := by decide +kernel
theorem dX1_apart_13 : decode cX1_apart 13 = .ok (.isub, 1) := by decide +kernel
theorem dX1_apart_14 : decode cX1_apart 14 = .ok (.ireturn, 1) := by decide +kernel
theorem dX1_clear_0 : decode cX1_clear 0 = .ok (.aload_n 0, 1) := by decide +kernel
theorem dX1_clear_1 : decode cX1_clear 1 = .ok (.iconst 0, 1) := by decide +kernel
theorem dX1_clear_2 : decode cX1_clear 2 = .ok (.putfield 31, 3) := by decide +kernel
theorem dX1_clear_5 : decode cX1_clear 5 = .ok (.iconst 0, 1) := by decide +kernel
theorem dX1_clear_6 : decode cX1_clear 6 = .ok (.istore_n 1, 1) := by decide +kernel
theorem dX1_clear_7 : decode cX1_clear 7 = .ok (.iload_n 1, 1) := by decide +kernel
theorem dX1_clear_8 : decode cX1_clear 8 = .ok (.bipush 64, 2) := by decide +kernel
theorem dX1_clear_10 : decode cX1_clear 10 = .ok (.if_icmp .ge 16, 3) := by decide +kernel
theorem dX1_clear_13 : decode cX1_clear 13 = .ok (.aload_n 0, 1) := by decide +kernel
theorem dX1_clear_14 : decode cX1_clear 14 = .ok (.getfield 7, 3) := by decide +kernel
theorem dX1_clear_17 : decode cX1_clear 17 = .ok (.iload_n 1, 1) := by decide +kernel
theorem dX1_clear_18 : decode cX1_clear 18 = .ok (.iconst 0, 1) := by decide +kernel
theorem dX1_clear_19 : decode cX1_clear 19 = .ok (.iastore, 1) := by decide +kernel
theorem dX1_clear_20 : decode cX1_clear 20 = .ok (.iinc 1 1, 3) := by decide +kernel
theorem dX1_clear_23 : decode cX1_clear 23 = .ok (.goto (-16), 3) := by decide +kernel
theorem dX1_clear_26 : decode cX1_clear 26 = .ok (.aload_n 0, 1) := by decide +kernel
theorem dX1_clear_27 : decode cX1_clear 27 = .ok (.iconst 0, 1) := by decide +kernel
theorem dX1_clear_28 : decode cX1_clear 28 = .ok (.putfield 34, 3) := by decide +kernel
theorem dX1_clear_31 : decode cX1_clear 31 = .ok (.aload_n 0, 1) := by decide +kernel
theorem dX1_clear_32 : decode cX1_clear 32 = .ok (.iconst 0, 1) := by decide +kernel
theorem dX1_clear_33 : decode cX1_clear 33 = .ok (.putfield 37, 3) := by decide +kernel
theorem dX1_clear_36 : decode cX1_clear 36 = .ok (.aload_n 0, 1) := by decide +kernel
theorem dX1_clear_37 : decode cX1_clear 37 = .ok (.iconst (-1), 1) := by decide +kernel
theorem dX1_clear_38 : decode cX1_clear 38 = .ok (.putfield 13, 3) := by decide +kernel
theorem dX1_clear_41 : decode cX1_clear 41 = .ok (.aload_n 0, 1) := by decide +kernel
theorem dX1_clear_42 : decode cX1_clear 42 = .ok (.iconst 0, 1) := by decide +kernel
theorem dX1_clear_43 : decode cX1_clear 43 = .ok (.putfield 40, 3) := by decide +kernel
theorem dX1_clear_46 : decode cX1_clear 46 = .ok (.aload_n 0, 1) := by decide +kernel
theorem dX1_clear_47 : decode cX1_clear 47 = .ok (.iconst 1, 1) := by decide +kernel
theorem dX1_clear_48 : decode cX1_clear 48 = .ok (.putfield 17, 3) := by decide +kernel
theorem dX1_clear_51 : decode cX1_clear 51 = .ok (.aload_n 0, 1) := by decide +kernel
theorem dX1_clear_52 : decode cX1_clear 52 = .ok (.iconst 0, 1) := by decide +kernel
theorem dX1_clear_53 : decode cX1_clear 53 = .ok (.putfield 43, 3) := by decide +kernel
theorem dX1_clear_56 : decode cX1_clear 56 = .ok (.return_, 1) := by decide +kernel
theorem dX1_home_0 : decode cX1_home 0 = .ok (.iload_n 0, 1) := by decide +kernel
theorem dX1_home_1 : decode cX1_home 1 = .ok (.ifCond .eq 9, 3) := by decide +kernel
theorem dX1_home_4 : decode cX1_home 4 = .ok (.iload_n 0, 1) := by decide +kernel
theorem dX1_home_5 : decode cX1_home 5 = .ok (.bipush 7, 2) := by decide +kernel
theorem dX1_home_7 : decode cX1_home 7 = .ok (.if_icmp .ne 7, 3) := by decide +kernel
theorem dX1_home_10 : decode cX1_home 10 = .ok (.iconst 4, 1) := by decide +kernel
theorem dX1_home_11 : decode cX1_home 11 = .ok (.goto 43, 3) := by decide +kernel
theorem dX1_home_14 : decode cX1_home 14 = .ok (.iload_n 0, 1) := by decide +kernel
theorem dX1_home_15 : decode cX1_home 15 = .ok (.iconst 1, 1) := by decide +kernel
theorem dX1_home_16 : decode cX1_home 16 = .ok (.if_icmp .eq 9, 3) := by decide +kernel
theorem dX1_home_19 : decode cX1_home 19 = .ok (.iload_n 0, 1) := by decide +kernel
theorem dX1_home_20 : decode cX1_home 20 = .ok (.bipush 6, 2) := by decide +kernel
theorem dX1_home_22 : decode cX1_home 22 = .ok (.if_icmp .ne 7, 3) := by decide +kernel
theorem dX1_home_25 : decode cX1_home 25 = .ok (.iconst 2, 1) := by decide +kernel
theorem dX1_home_26 : decode cX1_home 26 = .ok (.goto 28, 3) := by decide +kernel
theorem dX1_home_29 : decode cX1_home 29 = .ok (.iload_n 0, 1) := by decide +kernel
theorem dX1_home_30 : decode cX1_home 30 = .ok (.iconst 2, 1) := by decide +kernel
theorem dX1_home_31 : decode cX1_home 31 = .ok (.if_icmp .eq 8, 3) := by decide +kernel
theorem dX1_home_34 : decode cX1_home 34 = .ok (.iload_n 0, 1) := by decide +kernel
theorem dX1_home_35 : decode cX1_home 35 = .ok (.iconst 5, 1) := by decide +kernel
theorem dX1_home_36 : decode cX1_home 36 = .ok (.if_icmp .ne 7, 3) := by decide +kernel
theorem dX1_home_39 : decode cX1_home 39 = .ok (.iconst 3, 1) := by decide +kernel
theorem dX1_home_40 : decode cX1_home 40 = .ok (.goto 14, 3) := by decide +kernel
theorem dX1_home_43 : decode cX1_home 43 = .ok (.iload_n 0, 1) := by decide +kernel
theorem dX1_home_44 : decode cX1_home 44 = .ok (.iconst 3, 1) := by decide +kernel
theorem dX1_home_45 : decode cX1_home 45 = .ok (.if_icmp .ne 7, 3) := by decide +kernel
theorem dX1_home_48 : decode cX1_home 48 = .ok (.iconst 5, 1) := by decide +kernel
theorem dX1_home_49 : decode cX1_home 49 = .ok (.goto 5, 3) := by decide +kernel
theorem dX1_home_52 : decode cX1_home 52 = .ok (.bipush 6, 2) := by decide +kernel
theorem dX1_home_54 : decode cX1_home 54 = .ok (.ireturn, 1) := by decide +kernel
set_option maxRecDepth 20000 in
theorem ggX1_begin_X1_clear : GoodIn wsX1_begin wsX1_clear := goodIn_r _ [7, 8, 1, 9, 2, 10, 11, 12, 13, 17, 18, 19, 20, 21, 22, 23, 24, 25, 26, 27] (by decide +kernel) (by decide +kernel)
set_option maxRecDepth 20000 in
theorem gX1_begin_X1_clear : GoodIn wsX1_begin (wsV RX1 46 RX1 yX1_clear wsX1_clear) := goodIn_app (goodIn_of _ (by decide +kernel)) ggX1_begin_X1_clear
set_option maxRecDepth 20000 in
theorem ggX1_begin_X1_home : GoodIn wsX1_begin wsX1_home := goodIn_r _ [16] (by decide +kernel) (by decide +kernel)
set_option maxRecDepth 20000 in
theorem gX1_begin_X1_home : GoodIn wsX1_begin (va_wsS RX1 49 yX1_home wsX1_home) := goodIn_app (goodIn_of _ (by decide +kernel)) ggX1_begin_X1_home
theorem dX1_begin_0 : decode cX1_begin 0 = .ok (.aload_n 0, 1) := by decide +kernel
theorem dX1_begin_1 : decode cX1_begin 1 = .ok (.invokevirtual 46, 3) := by decide +kernel
theorem dX1_begin_4 : decode cX1_begin 4 = .ok (.iconst 0, 1) := by decide +kernel
theorem dX1_begin_5 : decode cX1_begin 5 = .ok (.istore_n 1, 1) := by decide +kernel
theorem dX1_begin_6 : decode cX1_begin 6 = .ok (.iload_n 1, 1) := by decide +kernel
theorem dX1_begin_7 : decode cX1_begin 7 = .ok (.bipush 8, 2) := by decide +kernel
theorem dX1_begin_9 : decode cX1_begin 9 = .ok (.if_icmp .ge 56, 3) := by decide +kernel
theorem dX1_begin_12 : decode cX1_begin 12 = .ok (.aload_n 0, 1) := by decide +kernel
theorem dX1_begin_13 : decode cX1_begin 13 = .ok (.getfield 7, 3) := by decide +kernel
theorem dX1_begin_16 : decode cX1_begin 16 = .ok (.iload_n 1, 1) := by decide +kernel
theorem dX1_begin_17 : decode cX1_begin 17 = .ok (.iload_n 1, 1) := by decide +kernel
theorem dX1_begin_18 : decode cX1_begin 18 = .ok (.invokestatic 49, 3) := by decide +kernel
theorem dX1_begin_21 : decode cX1_begin 21 = .ok (.iastore, 1) := by decide +kernel
theorem dX1_begin_22 : decode cX1_begin 22 = .ok (.aload_n 0, 1) := by decide +kernel
theorem dX1_begin_23 : decode cX1_begin 23 = .ok (.getfield 7, 3) := by decide +kernel
theorem dX1_begin_26 : decode cX1_begin 26 = .ok (.bipush 8, 2) := by decide +kernel
theorem dX1_begin_28 : decode cX1_begin 28 = .ok (.iload_n 1, 1) := by decide +kernel
theorem dX1_begin_29 : decode cX1_begin 29 = .ok (.iadd, 1) := by decide +kernel
theorem dX1_begin_30 : decode cX1_begin 30 = .ok (.iconst 1, 1) := by decide +kernel
theorem dX1_begin_31 : decode cX1_begin 31 = .ok (.iastore, 1) := by decide +kernel
theorem dX1_begin_32 : decode cX1_begin 32 = .ok (.aload_n 0, 1) := by decide +kernel
theorem dX1_begin_33 : decode cX1_begin 33 = .ok (.getfield 7, 3) := by decide +kernel
theorem dX1_begin_36 : decode cX1_begin 36 = .ok (.bipush 48, 2) := by decide +kernel
theorem dX1_begin_38 : decode cX1_begin 38 = .ok (.iload_n 1, 1) := by decide +kernel
theorem dX1_begin_39 : decode cX1_begin 39 = .ok (.iadd, 1) := by decide +kernel
theorem dX1_begin_40 : decode cX1_begin 40 = .ok (.bipush 7, 2) := by decide +kernel
theorem dX1_begin_42 : decode cX1_begin 42 = .ok (.iastore, 1) := by decide +kernel
theorem dX1_begin_43 : decode cX1_begin 43 = .ok (.aload_n 0, 1) := by decide +kernel
theorem dX1_begin_44 : decode cX1_begin 44 = .ok (.getfield 7, 3) := by decide +kernel
theorem dX1_begin_47 : decode cX1_begin 47 = .ok (.bipush 56, 2) := by decide +kernel
theorem dX1_begin_49 : decode cX1_begin 49 = .ok (.iload_n 1, 1) := by decide +kernel
theorem dX1_begin_50 : decode cX1_begin 50 = .ok (.iadd, 1) := by decide +kernel
theorem dX1_begin_51 : decode cX1_begin 51 = .ok (.bipush 6, 2) := by decide +kernel
theorem dX1_begin_53 : decode cX1_begin 53 = .ok (.iload_n 1, 1) := by decide +kernel
theorem dX1_begin_54 : decode cX1_begin 54 = .ok (.invokestatic 49, 3) := by decide +kernel
theorem dX1_begin_57 : decode cX1_begin 57 = .ok (.iadd, 1) := by decide +kernel
theorem dX1_begin_58 : decode cX1_begin 58 = .ok (.iastore, 1) := by decide +kernel
theorem dX1_begin_59 : decode cX1_begin 59 = .ok (.iinc 1 1, 3) := by decide +kernel
theorem dX1_begin_62 : decode cX1_begin 62 = .ok (.goto (-56), 3) := by decide +kernel
theorem dX1_begin_65 : decode cX1_begin 65 = .ok (.aload_n 0, 1) := by decide +kernel
theorem dX1_begin_66 : decode cX1_begin 66 = .ok (.bipush 15, 2) := by decide +kernel
theorem dX1_begin_68 : decode cX1_begin 68 = .ok (.putfield 37, 3) := by decide +kernel
theorem dX1_begin_71 : decode cX1_begin 71 = .ok (.return_, 1) := by decide +kernel
theorem dX1_pieces_0 : decode cX1_pieces 0 = .ok (.iconst 0, 1) := by decide +kernel
theorem dX1_pieces_1 : decode cX1_pieces 1 = .ok (.istore_n 1, 1) := by decide +kernel
theorem dX1_pieces_2 : decode cX1_pieces 2 = .ok (.iconst 0, 1) := by decide +kernel
theorem dX1_pieces_3 : decode cX1_pieces 3 = .ok (.istore_n 2, 1) := by decide +kernel
theorem dX1_pieces_4 : decode cX1_pieces 4 = .ok (.iload_n 2, 1) := by decide +kernel
theorem dX1_pieces_5 : decode cX1_pieces 5 = .ok (.bipush 64, 2) := by decide +kernel
theorem dX1_pieces_7 : decode cX1_pieces 7 = .ok (.if_icmp .ge 26, 3) := by decide +kernel
theorem dX1_pieces_10 : decode cX1_pieces 10 = .ok (.iload_n 1, 1) := by decide +kernel
theorem dX1_pieces_11 : decode cX1_pieces 11 = .ok (.aload_n 0, 1) := by decide +kernel
theorem dX1_pieces_12 : decode cX1_pieces 12 = .ok (.getfield 7, 3) := by decide +kernel
theorem dX1_pieces_15 : decode cX1_pieces 15 = .ok (.iload_n 2, 1) := by decide +kernel
theorem dX1_pieces_16 : decode cX1_pieces 16 = .ok (.iaload, 1) := by decide +kernel
theorem dX1_pieces_17 : decode cX1_pieces 17 = .ok (.ifCond .le 7, 3) := by decide +kernel
theorem dX1_pieces_20 : decode cX1_pieces 20 = .ok (.iconst 1, 1) := by decide +kernel
theorem dX1_pieces_21 : decode cX1_pieces 21 = .ok (.goto 4, 3) := by decide +kernel
theorem dX1_pieces_24 : decode cX1_pieces 24 = .ok (.iconst 0, 1) := by decide +kernel
theorem dX1_pieces_25 : decode cX1_pieces 25 = .ok (.iadd, 1) := by decide +kernel
theorem dX1_pieces_26 : decode cX1_pieces 26 = .ok (.istore_n 1, 1) := by decide +kernel
theorem dX1_pieces_27 : decode cX1_pieces 27 = .ok (.iinc 2 1, 3) := by decide +kernel
theorem dX1_pieces_30 : decode cX1_pieces 30 = .ok (.goto (-26), 3) := by decide +kernel
theorem dX1_pieces_33 : decode cX1_pieces 33 = .ok (.iload_n 1, 1) := by decide +kernel
theorem dX1_pieces_34 : decode cX1_pieces 34 = .ok (.ireturn, 1) := by decide +kernel
set_option maxRecDepth 20000 in
theorem ggX1_put_X1_isSquare : GoodIn wsX1_put wsX1_isSquare := goodIn_r _ [7] (by decide +kernel) (by decide +kernel)
set_option maxRecDepth 20000 in
theorem gX1_put_X1_isSquare : GoodIn wsX1_put (va_wsS RX1 53 yX1_isSquare wsX1_isSquare) := goodIn_app (goodIn_of _ (by decide +kernel)) ggX1_put_X1_isSquare
set_option maxRecDepth 20000 in
theorem ggX1_put_X1_pieces : GoodIn wsX1_put wsX1_pieces := goodIn_r _ [11, 2, 12, 13, 14, 15, 16, 17, 18, 19, 20, 21, 22] (by decide +kernel) (by decide +kernel)
set_option maxRecDepth 20000 in
theorem gX1_put_X1_pieces : GoodIn wsX1_put (wsV RX1 57 RX1 yX1_pieces wsX1_pieces) := goodIn_app (goodIn_of _ (by decide +kernel)) ggX1_put_X1_pieces
theorem dX1_put_0 : decode cX1_put 0 = .ok (.aload_n 0, 1) := by decide +kernel
theorem dX1_put_1 : decode cX1_put 1 = .ok (.iload_n 1, 1) := by decide +kernel
theorem dX1_put_2 : decode cX1_put 2 = .ok (.invokestatic 53, 3) := by decide +kernel
theorem dX1_put_5 : decode cX1_put 5 = .ok (.ifCond .ne 7, 3) := by decide +kernel
theorem dX1_put_8 : decode cX1_put 8 = .ok (.iconst 1, 1) := by decide +kernel
theorem dX1_put_9 : decode cX1_put 9 = .ok (.goto 18, 3) := by decide +kernel
theorem dX1_put_12 : decode cX1_put 12 = .ok (.iload_n 2, 1) := by decide +kernel
theorem dX1_put_13 : decode cX1_put 13 = .ok (.ifCond .lt 9, 3) := by decide +kernel
theorem dX1_put_16 : decode cX1_put 16 = .ok (.iload_n 2, 1) := by decide +kernel
theorem dX1_put_17 : decode cX1_put 17 = .ok (.bipush 12, 2) := by decide +kernel
theorem dX1_put_19 : decode cX1_put 19 = .ok (.if_icmp .le 7, 3) := by decide +kernel
theorem dX1_put_22 : decode cX1_put 22 = .ok (.iconst 2, 1) := by decide +kernel
theorem dX1_put_23 : decode cX1_put 23 = .ok (.goto 4, 3) := by decide +kernel
theorem dX1_put_26 : decode cX1_put 26 = .ok (.iconst 0, 1) := by decide +kernel
theorem dX1_put_27 : decode cX1_put 27 = .ok (.putfield 31, 3) := by decide +kernel
theorem dX1_put_30 : decode cX1_put 30 = .ok (.aload_n 0, 1) := by decide +kernel
theorem dX1_put_31 : decode cX1_put 31 = .ok (.getfield 31, 3) := by decide +kernel
theorem dX1_put_34 : decode cX1_put 34 = .ok (.ifCond .le 4, 3) := by decide +kernel
theorem dX1_put_37 : decode cX1_put 37 = .ok (.return_, 1) := by decide +kernel
theorem dX1_put_38 : decode cX1_put 38 = .ok (.aload_n 0, 1) := by decide +kernel
theorem dX1_put_39 : decode cX1_put 39 = .ok (.iload_n 2, 1) := by decide +kernel
theorem dX1_put_40 : decode cX1_put 40 = .ok (.ifCond .le 25, 3) := by decide +kernel
theorem dX1_put_43 : decode cX1_put 43 = .ok (.aload_n 0, 1) := by decide +kernel
theorem dX1_put_44 : decode cX1_put 44 = .ok (.getfield 7, 3) := by decide +kernel
theorem dX1_put_47 : decode cX1_put 47 = .ok (.iload_n 1, 1) := by decide +kernel
theorem dX1_put_48 : decode cX1_put 48 = .ok (.iaload, 1) := by decide +kernel
theorem dX1_put_49 : decode cX1_put 49 = .ok (.ifCond .ne 16, 3) := by decide +kernel
theorem dX1_put_52 : decode cX1_put 52 = .ok (.aload_n 0, 1) := by decide +kernel
theorem dX1_put_53 : decode cX1_put 53 = .ok (.invokevirtual 57, 3) := by decide +kernel
theorem dX1_put_56 : decode cX1_put 56 = .ok (.bipush 32, 2) := by decide +kernel
theorem dX1_put_58 : decode cX1_put 58 = .ok (.if_icmp .ne 7, 3) := by decide +kernel
theorem dX1_put_61 : decode cX1_put 61 = .ok (.iconst 3, 1) := by decide +kernel
theorem dX1_put_62 : decode cX1_put 62 = .ok (.goto 4, 3) := by decide +kernel
theorem dX1_put_65 : decode cX1_put 65 = .ok (.iconst 0, 1) := by decide +kernel
theorem dX1_put_66 : decode cX1_put 66 = .ok (.putfield 31, 3) := by decide +kernel
theorem dX1_put_69 : decode cX1_put 69 = .ok (.aload_n 0, 1) := by decide +kernel
theorem dX1_put_70 : decode cX1_put 70 = .ok (.getfield 31, 3) := by decide +kernel
theorem dX1_put_73 : decode cX1_put 73 = .ok (.ifCond .le 4, 3) := by decide +kernel
theorem dX1_put_76 : decode cX1_put 76 = .ok (.return_, 1) := by decide +kernel
theorem dX1_put_77 : decode cX1_put 77 = .ok (.aload_n 0, 1) := by decide +kernel
theorem dX1_put_78 : decode cX1_put 78 = .ok (.getfield 7, 3) := by decide +kernel
theorem dX1_put_81 : decode cX1_put 81 = .ok (.iload_n 1, 1) := by decide +kernel
theorem dX1_put_82 : decode cX1_put 82 = .ok (.iload_n 2, 1) := by decide +kernel
theorem dX1_put_83 : decode cX1_put 83 = .ok (.iastore, 1) := by decide +kernel
theorem dX1_put_84 : decode cX1_put 84 = .ok (.aload_n 0, 1) := by decide +kernel
theorem dX1_put_85 : decode cX1_put 85 = .ok (.iconst 0, 1) := by decide +kernel
theorem dX1_put_86 : decode cX1_put 86 = .ok (.putfield 43, 3) := by decide +kernel
theorem dX1_put_89 : decode cX1_put 89 = .ok (.return_, 1) := by decide +kernel
theorem dX1_state_0 : decode cX1_state 0 = .ok (.aload_n 0, 1) := by decide +kernel
theorem dX1_state_1 : decode cX1_state 1 = .ok (.iload_n 1, 1) := by decide +kernel
theorem dX1_state_2 : decode cX1_state 2 = .ok (.ifCond .lt 29, 3) := by decide +kernel
theorem dX1_state_5 : decode cX1_state 5 = .ok (.iload_n 1, 1) := by decide +kernel
theorem dX1_state_6 : decode cX1_state 6 = .ok (.iconst 1, 1) := by decide +kernel
theorem dX1_state_7 : decode cX1_state 7 = .ok (.if_icmp .gt 24, 3) := by decide +kernel
theorem dX1_state_10 : decode cX1_state 10 = .ok (.iload_n 2, 1) := by decide +kernel
theorem dX1_state_11 : decode cX1_state 11 = .ok (.ifCond .lt 20, 3) := by decide +kernel
theorem dX1_state_14 : decode cX1_state 14 = .ok (.iload_n 2, 1) := by decide +kernel
theorem dX1_state_15 : decode cX1_state 15 = .ok (.bipush 15, 2) := by decide +kernel
theorem dX1_state_17 : decode cX1_state 17 = .ok (.if_icmp .gt 14, 3) := by decide +kernel
theorem dX1_state_20 : decode cX1_state 20 = .ok (.iload_n 3, 1) := by decide +kernel
theorem dX1_state_21 : decode cX1_state 21 = .ok (.iconst (-1), 1) := by decide +kernel
theorem dX1_state_22 : decode cX1_state 22 = .ok (.if_icmp .lt 9, 3) := by decide +kernel
theorem dX1_state_25 : decode cX1_state 25 = .ok (.iload_n 3, 1) := by decide +kernel
theorem dX1_state_26 : decode cX1_state 26 = .ok (.bipush 63, 2) := by decide +kernel
theorem dX1_state_28 : decode cX1_state 28 = .ok (.if_icmp .le 7, 3) := by decide +kernel
theorem dX1_state_31 : decode cX1_state 31 = .ok (.iconst 1, 1) := by decide +kernel
theorem dX1_state_32 : decode cX1_state 32 = .ok (.goto 4, 3) := by decide +kernel
theorem dX1_state_35 : decode cX1_state 35 = .ok (.iconst 0, 1) := by decide +kernel
theorem dX1_state_36 : decode cX1_state 36 = .ok (.putfield 31, 3) := by decide +kernel
theorem dX1_state_39 : decode cX1_state 39 = .ok (.aload_n 0, 1) := by decide +kernel
theorem dX1_state_40 : decode cX1_state 40 = .ok (.getfield 31, 3) := by decide +kernel
theorem dX1_state_43 : decode cX1_state 43 = .ok (.ifCond .le 4, 3) := by decide +kernel
theorem dX1_state_46 : decode cX1_state 46 = .ok (.return_, 1) := by decide +kernel
theorem dX1_state_47 : decode cX1_state 47 = .ok (.aload_n 0, 1) := by decide +kernel
theorem dX1_state_48 : decode cX1_state 48 = .ok (.iload_n 1, 1) := by decide +kernel
theorem dX1_state_49 : decode cX1_state 49 = .ok (.putfield 34, 3) := by decide +kernel
theorem dX1_state_52 : decode cX1_state 52 = .ok (.aload_n 0, 1) := by decide +kernel
theorem dX1_state_53 : decode cX1_state 53 = .ok (.iload_n 2, 1) := by decide +kernel
theorem dX1_state_54 : decode cX1_state 54 = .ok (.putfield 37, 3) := by decide +kernel
theorem dX1_state_57 : decode cX1_state 57 = .ok (.aload_n 0, 1) := by decide +kernel
theorem dX1_state_58 : decode cX1_state 58 = .ok (.iload_n 3, 1) := by decide +kernel
theorem dX1_state_59 : decode cX1_state 59 = .ok (.putfield 13, 3) := by decide +kernel
theorem dX1_state_62 : decode cX1_state 62 = .ok (.aload_n 0, 1) := by decide +kernel
theorem dX1_state_63 : decode cX1_state 63 = .ok (.iconst 0, 1) := by decide +kernel
theorem dX1_state_64 : decode cX1_state 64 = .ok (.putfield 43, 3) := by decide +kernel
theorem dX1_state_67 : decode cX1_state 67 = .ok (.return_, 1) := by decide +kernel
theorem dX1_clocks_0 : decode cX1_clocks 0 = .ok (.aload_n 0, 1) := by decide +kernel
theorem dX1_clocks_1 : decode cX1_clocks 1 = .ok (.iload_n 1, 1) := by decide +kernel
theorem dX1_clocks_2 : decode cX1_clocks 2 = .ok (.ifCond .lt 22, 3) := by decide +kernel
theorem dX1_clocks_5 : decode cX1_clocks 5 = .ok (.iload_n 1, 1) := by decide +kernel
theorem dX1_clocks_6 : decode cX1_clocks 6 = .ok (.sipush 9999, 3) := by decide +kernel
theorem dX1_clocks_9 : decode cX1_clocks 9 = .ok (.if_icmp .gt 15, 3) := by decide +kernel
theorem dX1_clocks_12 : decode cX1_clocks 12 = .ok (.iload_n 2, 1) := by decide +kernel
theorem dX1_clocks_13 : decode cX1_clocks 13 = .ok (.iconst 1, 1) := by decide +kernel
theorem dX1_clocks_14 : decode cX1_clocks 14 = .ok (.if_icmp .lt 10, 3) := by decide +kernel
theorem dX1_clocks_17 : decode cX1_clocks 17 = .ok (.iload_n 2, 1) := by decide +kernel
theorem dX1_clocks_18 : decode cX1_clocks 18 = .ok (.sipush 9999, 3) := by decide +kernel
theorem dX1_clocks_21 : decode cX1_clocks 21 = .ok (.if_icmp .le 7, 3) := by decide +kernel
theorem dX1_clocks_24 : decode cX1_clocks 24 = .ok (.iconst 1, 1) := by decide +kernel
theorem dX1_clocks_25 : decode cX1_clocks 25 = .ok (.goto 4, 3) := by decide +kernel
theorem dX1_clocks_28 : decode cX1_clocks 28 = .ok (.iconst 0, 1) := by decide +kernel
theorem dX1_clocks_29 : decode cX1_clocks 29 = .ok (.putfield 31, 3) := by decide +kernel
theorem dX1_clocks_32 : decode cX1_clocks 32 = .ok (.aload_n 0, 1) := by decide +kernel
theorem dX1_clocks_33 : decode cX1_clocks 33 = .ok (.getfield 31, 3) := by decide +kernel
theorem dX1_clocks_36 : decode cX1_clocks 36 = .ok (.ifCond .le 4, 3) := by decide +kernel
theorem dX1_clocks_39 : decode cX1_clocks 39 = .ok (.return_, 1) := by decide +kernel
theorem dX1_clocks_40 : decode cX1_clocks 40 = .ok (.aload_n 0, 1) := by decide +kernel
theorem dX1_clocks_41 : decode cX1_clocks 41 = .ok (.iload_n 1, 1) := by decide +kernel
theorem dX1_clocks_42 : decode cX1_clocks 42 = .ok (.putfield 40, 3) := by decide +kernel
theorem dX1_clocks_45 : decode cX1_clocks 45 = .ok (.aload_n 0, 1) := by decide +kernel
theorem dX1_clocks_46 : decode cX1_clocks 46 = .ok (.iload_n 2, 1) := by decide +kernel
theorem dX1_clocks_47 : decode cX1_clocks 47 = .ok (.putfield 17, 3) := by decide +kernel
theorem dX1_clocks_50 : decode cX1_clocks 50 = .ok (.aload_n 0, 1) := by decide +kernel
theorem dX1_clocks_51 : decode cX1_clocks 51 = .ok (.iconst 0, 1) := by decide +kernel
theorem dX1_clocks_52 : decode cX1_clocks 52 = .ok (.putfield 43, 3) := by decide +kernel
theorem dX1_clocks_55 : decode cX1_clocks 55 = .ok (.return_, 1) := by decide +kernel
theorem dX1_isFree_0 : decode cX1_isFree 0 = .ok (.iload_n 2, 1) := by decide +kernel
theorem dX1_isFree_1 : decode cX1_isFree 1 = .ok (.bipush 8, 2) := by decide +kernel
theorem dX1_isFree_3 : decode cX1_isFree 3 = .ok (.irem, 1) := by decide +kernel
theorem dX1_isFree_4 : decode cX1_isFree 4 = .ok (.iload_n 1, 1) := by decide +kernel
theorem dX1_isFree_5 : decode cX1_isFree 5 = .ok (.bipush 8, 2) := by decide +kernel
theorem dX1_isFree_7 : decode cX1_isFree 7 = .ok (.irem, 1) := by decide +kernel
theorem dX1_isFree_8 : decode cX1_isFree 8 = .ok (.if_icmp .le 7, 3) := by decide +kernel
theorem dX1_isFree_11 : decode cX1_isFree 11 = .ok (.iconst 1, 1) := by decide +kernel
theorem dX1_isFree_12 : decode cX1_isFree 12 = .ok (.goto 19, 3) := by decide +kernel
theorem dX1_isFree_15 : decode cX1_isFree 15 = .ok (.iload_n 2, 1) := by decide +kernel
theorem dX1_isFree_16 : decode cX1_isFree 16 = .ok (.bipush 8, 2) := by decide +kernel
theorem dX1_isFree_18 : decode cX1_isFree 18 = .ok (.irem, 1) := by decide +kernel
theorem dX1_isFree_19 : decode cX1_isFree 19 = .ok (.iload_n 1, 1) := by decide +kernel
theorem dX1_isFree_20 : decode cX1_isFree 20 = .ok (.bipush 8, 2) := by decide +kernel
theorem dX1_isFree_22 : decode cX1_isFree 22 = .ok (.irem, 1) := by decide +kernel
theorem dX1_isFree_23 : decode cX1_isFree 23 = .ok (.if_icmp .ge 7, 3) := by decide +kernel
theorem dX1_isFree_26 : decode cX1_isFree 26 = .ok (.iconst (-1), 1) := by decide +kernel
theorem dX1_isFree_27 : decode cX1_isFree 27 = .ok (.goto 4, 3) := by decide +kernel
theorem dX1_isFree_30 : decode cX1_isFree 30 = .ok (.iconst 0, 1) := by decide +kernel
theorem dX1_isFree_31 : decode cX1_isFree 31 = .ok (.istore_n 3, 1) := by decide +kernel
theorem dX1_isFree_32 : decode cX1_isFree 32 = .ok (.iload_n 2, 1) := by decide +kernel
theorem dX1_isFree_33 : decode cX1_isFree 33 = .ok (.bipush 8, 2) := by decide +kernel
theorem dX1_isFree_35 : decode cX1_isFree 35 = .ok (.idiv, 1) := by decide +kernel
theorem dX1_isFree_36 : decode cX1_isFree 36 = .ok (.iload_n 1, 1) := by decide +kernel
theorem dX1_isFree_37 : decode cX1_isFree 37 = .ok (.bipush 8, 2) := by decide +kernel
theorem dX1_isFree_39 : decode cX1_isFree 39 = .ok (.idiv, 1) := by decide +kernel
theorem dX1_isFree_40 : decode cX1_isFree 40 = .ok (.if_icmp .le 7, 3) := by decide +kernel
theorem dX1_isFree_43 : decode cX1_isFree 43 = .ok (.iconst 1, 1) := by decide +kernel
theorem dX1_isFree_44 : decode cX1_isFree 44 = .ok (.goto 19, 3) := by decide +kernel
