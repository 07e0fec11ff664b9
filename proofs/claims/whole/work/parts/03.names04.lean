theorem dX0_pawnTakes_0 : decode cX0_pawnTakes 0 = .ok (.aload_n 0, 1) := by decide +kernel
theorem dX0_pawnTakes_1 : decode cX0_pawnTakes 1 = .ok (.getfield 82, 3) := by decide +kernel
theorem dX0_pawnTakes_4 : decode cX0_pawnTakes 4 = .ok (.iload_n 1, 1) := by decide +kernel
theorem dX0_pawnTakes_5 : decode cX0_pawnTakes 5 = .ok (.iload_n 2, 1) := by decide +kernel
theorem dX0_pawnTakes_6 : decode cX0_pawnTakes 6 = .ok (.invokestatic 213, 3) := by decide +kernel
theorem dX0_pawnTakes_9 : decode cX0_pawnTakes 9 = .ok (.ifCond .eq 34, 3) := by decide +kernel
theorem dX0_pawnTakes_12 : decode cX0_pawnTakes 12 = .ok (.aload_n 0, 1) := by decide +kernel
theorem dX0_pawnTakes_13 : decode cX0_pawnTakes 13 = .ok (.getfield 9, 3) := by decide +kernel
theorem dX0_pawnTakes_16 : decode cX0_pawnTakes 16 = .ok (.iload_n 2, 1) := by decide +kernel
theorem dX0_pawnTakes_17 : decode cX0_pawnTakes 17 = .ok (.iaload, 1) := by decide +kernel
theorem dX0_pawnTakes_18 : decode cX0_pawnTakes 18 = .ok (.invokestatic 105, 3) := by decide +kernel
theorem dX0_pawnTakes_21 : decode cX0_pawnTakes 21 = .ok (.aload_n 0, 1) := by decide +kernel
theorem dX0_pawnTakes_22 : decode cX0_pawnTakes 22 = .ok (.getfield 82, 3) := by decide +kernel
theorem dX0_pawnTakes_25 : decode cX0_pawnTakes 25 = .ok (.invokestatic 152, 3) := by decide +kernel
theorem dX0_pawnTakes_28 : decode cX0_pawnTakes 28 = .ok (.if_icmp .eq 11, 3) := by decide +kernel
theorem dX0_pawnTakes_31 : decode cX0_pawnTakes 31 = .ok (.aload_n 0, 1) := by decide +kernel
theorem dX0_pawnTakes_32 : decode cX0_pawnTakes 32 = .ok (.iload_n 2, 1) := by decide +kernel
theorem dX0_pawnTakes_33 : decode cX0_pawnTakes 33 = .ok (.invokevirtual 216, 3) := by decide +kernel
theorem dX0_pawnTakes_36 : decode cX0_pawnTakes 36 = .ok (.ifCond .eq 7, 3) := by decide +kernel
theorem dX0_pawnTakes_39 : decode cX0_pawnTakes 39 = .ok (.iconst 1, 1) := by decide +kernel
theorem dX0_pawnTakes_40 : decode cX0_pawnTakes 40 = .ok (.goto 4, 3) := by decide +kernel
theorem dX0_pawnTakes_43 : decode cX0_pawnTakes 43 = .ok (.iconst 0, 1) := by decide +kernel
theorem dX0_pawnTakes_44 : decode cX0_pawnTakes 44 = .ok (.ireturn, 1) := by decide +kernel
set_option maxRecDepth 20000 in
theorem ggX0_canBeTakenInPassing_X0_isFree : GoodIn wsX0_canBeTakenInPassing wsX0_isFree := goodIn_r _ [7, 8, 9, 10, 6, 11, 29, 30, 31, 32, 33, 34, 35, 36, 37, 38, 39, 40, 41] (by decide +kernel) (by decide +kernel)
set_option maxRecDepth 20000 in
theorem gX0_canBeTakenInPassing_X0_isFree : GoodIn wsX0_canBeTakenInPassing (wsV RX0 207 RX0 yX0_isFree wsX0_isFree) := goodIn_app (goodIn_of _ (by decide +kernel)) ggX0_canBeTakenInPassing_X0_isFree
set_option maxRecDepth 20000 in
theorem ggX0_canBeTakenInPassing_X0_squareBehind : GoodIn wsX0_canBeTakenInPassing wsX0_squareBehind := goodIn_r _ [15, 2, 16, 17, 6, 18, 29, 30, 31, 32, 33, 34, 35, 36, 37, 38, 39, 40, 41] (by decide +kernel) (by decide +kernel)
set_option maxRecDepth 20000 in
theorem gX0_canBeTakenInPassing_X0_squareBehind : GoodIn wsX0_canBeTakenInPassing (wsV RX0 219 RX0 yX0_squareBehind wsX0_squareBehind) := goodIn_app (goodIn_of _ (by decide +kernel)) ggX0_canBeTakenInPassing_X0_squareBehind
set_option maxRecDepth 20000 in
theorem ggX0_canBeTakenInPassing_X0_otherThan : GoodIn wsX0_canBeTakenInPassing wsX0_otherThan := goodIn_r _ [21] (by decide +kernel) (by decide +kernel)
set_option maxRecDepth 20000 in
theorem gX0_canBeTakenInPassing_X0_otherThan : GoodIn wsX0_canBeTakenInPassing (va_wsS RX0 152 yX0_otherThan wsX0_otherThan) := goodIn_app (goodIn_of _ (by decide +kernel)) ggX0_canBeTakenInPassing_X0_otherThan
set_option maxRecDepth 20000 in
theorem ggX0_canBeTakenInPassing_X0_pieceOf : GoodIn wsX0_canBeTakenInPassing wsX0_pieceOf := goodIn_r _ [24] (by decide +kernel) (by decide +kernel)
set_option maxRecDepth 20000 in
theorem gX0_canBeTakenInPassing_X0_pieceOf : GoodIn wsX0_canBeTakenInPassing (va_wsS RX0 37 yX0_pieceOf wsX0_pieceOf) := goodIn_app (goodIn_of _ (by decide +kernel)) ggX0_canBeTakenInPassing_X0_pieceOf
set_option maxRecDepth 20000 in
theorem ggX0_canBeTakenInPassing_X0_holds : GoodIn wsX0_canBeTakenInPassing wsX0_holds := goodIn_r _ [28, 8, 9, 10, 6, 11, 29, 30, 31, 32, 33, 34, 35, 36, 37, 38, 39, 40, 41] (by decide +kernel) (by decide +kernel)
set_option maxRecDepth 20000 in
theorem gX0_canBeTakenInPassing_X0_holds : GoodIn wsX0_canBeTakenInPassing (wsV RX0 222 RX0 yX0_holds wsX0_holds) := goodIn_app (goodIn_of _ (by decide +kernel)) ggX0_canBeTakenInPassing_X0_holds
theorem dX0_canBeTakenInPassing_0 : decode cX0_canBeTakenInPassing 0 = .ok (.iload_n 1, 1) := by decide +kernel
theorem dX0_canBeTakenInPassing_1 : decode cX0_canBeTakenInPassing 1 = .ok (.aload_n 0, 1) := by decide +kernel
theorem dX0_canBeTakenInPassing_2 : decode cX0_canBeTakenInPassing 2 = .ok (.getfield 85, 3) := by decide +kernel
theorem dX0_canBeTakenInPassing_5 : decode cX0_canBeTakenInPassing 5 = .ok (.if_icmp .ne 38, 3) := by decide +kernel
theorem dX0_canBeTakenInPassing_8 : decode cX0_canBeTakenInPassing 8 = .ok (.aload_n 0, 1) := by decide +kernel
theorem dX0_canBeTakenInPassing_9 : decode cX0_canBeTakenInPassing 9 = .ok (.iload_n 1, 1) := by decide +kernel
theorem dX0_canBeTakenInPassing_10 : decode cX0_canBeTakenInPassing 10 = .ok (.invokevirtual 207, 3) := by decide +kernel
theorem dX0_canBeTakenInPassing_13 : decode cX0_canBeTakenInPassing 13 = .ok (.ifCond .eq 30, 3) := by decide +kernel
theorem dX0_canBeTakenInPassing_16 : decode cX0_canBeTakenInPassing 16 = .ok (.aload_n 0, 1) := by decide +kernel
theorem dX0_canBeTakenInPassing_17 : decode cX0_canBeTakenInPassing 17 = .ok (.aload_n 0, 1) := by decide +kernel
theorem dX0_canBeTakenInPassing_18 : decode cX0_canBeTakenInPassing 18 = .ok (.iload_n 1, 1) := by decide +kernel
theorem dX0_canBeTakenInPassing_19 : decode cX0_canBeTakenInPassing 19 = .ok (.invokevirtual 219, 3) := by decide +kernel
theorem dX0_canBeTakenInPassing_22 : decode cX0_canBeTakenInPassing 22 = .ok (.iconst 1, 1) := by decide +kernel
theorem dX0_canBeTakenInPassing_23 : decode cX0_canBeTakenInPassing 23 = .ok (.aload_n 0, 1) := by decide +kernel
theorem dX0_canBeTakenInPassing_24 : decode cX0_canBeTakenInPassing 24 = .ok (.getfield 82, 3) := by decide +kernel
theorem dX0_canBeTakenInPassing_27 : decode cX0_canBeTakenInPassing 27 = .ok (.invokestatic 152, 3) := by decide +kernel
theorem dX0_canBeTakenInPassing_30 : decode cX0_canBeTakenInPassing 30 = .ok (.invokestatic 37, 3) := by decide +kernel
theorem dX0_canBeTakenInPassing_33 : decode cX0_canBeTakenInPassing 33 = .ok (.invokevirtual 222, 3) := by decide +kernel
theorem dX0_canBeTakenInPassing_36 : decode cX0_canBeTakenInPassing 36 = .ok (.ifCond .eq 7, 3) := by decide +kernel
theorem dX0_canBeTakenInPassing_39 : decode cX0_canBeTakenInPassing 39 = .ok (.iconst 1, 1) := by decide +kernel
theorem dX0_canBeTakenInPassing_40 : decode cX0_canBeTakenInPassing 40 = .ok (.goto 4, 3) := by decide +kernel
theorem dX0_canBeTakenInPassing_43 : decode cX0_canBeTakenInPassing 43 = .ok (.iconst 0, 1) := by decide +kernel
theorem dX0_canBeTakenInPassing_44 : decode cX0_canBeTakenInPassing 44 = .ok (.ireturn, 1) := by decide +kernel
set_option maxRecDepth 20000 in
theorem ggX0_squareBehind_X0_onward : GoodIn wsX0_squareBehind wsX0_onward := goodIn_r _ [5] (by decide +kernel) (by decide +kernel)
set_option maxRecDepth 20000 in
theorem gX0_squareBehind_X0_onward : GoodIn wsX0_squareBehind (va_wsS RX0 204 yX0_onward wsX0_onward) := goodIn_app (goodIn_of _ (by decide +kernel)) ggX0_squareBehind_X0_onward
theorem dX0_squareBehind_0 : decode cX0_squareBehind 0 = .ok (.iload_n 1, 1) := by decide +kernel
theorem dX0_squareBehind_1 : decode cX0_squareBehind 1 = .ok (.bipush 8, 2) := by decide +kernel
theorem dX0_squareBehind_3 : decode cX0_squareBehind 3 = .ok (.aload_n 0, 1) := by decide +kernel
theorem dX0_squareBehind_4 : decode cX0_squareBehind 4 = .ok (.getfield 82, 3) := by decide +kernel
theorem dX0_squareBehind_7 : decode cX0_squareBehind 7 = .ok (.invokestatic 204, 3) := by decide +kernel
theorem dX0_squareBehind_10 : decode cX0_squareBehind 10 = .ok (.imul, 1) := by decide +kernel
theorem dX0_squareBehind_11 : decode cX0_squareBehind 11 = .ok (.isub, 1) := by decide +kernel
theorem dX0_squareBehind_12 : decode cX0_squareBehind 12 = .ok (.ireturn, 1) := by decide +kernel
set_option maxRecDepth 20000 in
theorem ggX0_castles_X0_homeOfKing : GoodIn wsX0_castles wsX0_homeOfKing := goodIn_r _ [6] (by decide +kernel) (by decide +kernel)
set_option maxRecDepth 20000 in
theorem gX0_castles_X0_homeOfKing : GoodIn wsX0_castles (va_wsS RX0 225 yX0_homeOfKing wsX0_homeOfKing) := goodIn_app (goodIn_of _ (by decide +kernel)) ggX0_castles_X0_homeOfKing
set_option maxRecDepth 20000 in
theorem ggX0_castles_X0_isTwoFilesAway : GoodIn wsX0_castles wsX0_isTwoFilesAway := goodIn_r _ [9, 10, 11, 12, 13, 14, 15, 5, 16] (by decide +kernel) (by decide +kernel)
set_option maxRecDepth 20000 in
theorem gX0_castles_X0_isTwoFilesAway : GoodIn wsX0_castles (va_wsS RX0 228 yX0_isTwoFilesAway wsX0_isTwoFilesAway) := goodIn_app (goodIn_of _ (by decide +kernel)) ggX0_castles_X0_isTwoFilesAway
set_option maxRecDepth 20000 in
theorem ggX0_castles_X0_cornerBeyond : GoodIn wsX0_castles wsX0_cornerBeyond := goodIn_r _ [19] (by decide +kernel) (by decide +kernel)
set_option maxRecDepth 20000 in
theorem gX0_castles_X0_cornerBeyond : GoodIn wsX0_castles (va_wsS RX0 231 yX0_cornerBeyond wsX0_cornerBeyond) := goodIn_app (goodIn_of _ (by decide +kernel)) ggX0_castles_X0_cornerBeyond
set_option maxRecDepth 20000 in
theorem ggX0_castles_X0_rightOfCorner : GoodIn wsX0_castles wsX0_rightOfCorner := goodIn_r _ [22] (by decide +kernel) (by decide +kernel)
set_option maxRecDepth 20000 in
theorem gX0_castles_X0_rightOfCorner : GoodIn wsX0_castles (va_wsS RX0 146 yX0_rightOfCorner wsX0_rightOfCorner) := goodIn_app (goodIn_of _ (by decide +kernel)) ggX0_castles_X0_rightOfCorner
set_option maxRecDepth 20000 in
theorem ggX0_castles_X0_pieceOf : GoodIn wsX0_castles wsX0_pieceOf := goodIn_r _ [25] (by decide +kernel) (by decide +kernel)
set_option maxRecDepth 20000 in
theorem gX0_castles_X0_pieceOf : GoodIn wsX0_castles (va_wsS RX0 37 yX0_pieceOf wsX0_pieceOf) := goodIn_app (goodIn_of _ (by decide +kernel)) ggX0_castles_X0_pieceOf
set_option maxRecDepth 20000 in
theorem ggX0_castles_X0_holds : GoodIn wsX0_castles wsX0_holds := goodIn_r _ [29, 30, 31, 32, 5, 33, 52, 53, 54, 55, 56, 57, 58, 59, 60, 61, 62, 63, 64] (by decide +kernel) (by decide +kernel)
set_option maxRecDepth 20000 in
theorem gX0_castles_X0_holds : GoodIn wsX0_castles (wsV RX0 222 RX0 yX0_holds wsX0_holds) := goodIn_app (goodIn_of _ (by decide +kernel)) ggX0_castles_X0_holds
set_option maxRecDepth 20000 in
theorem ggX0_castles_X0_isOpen : GoodIn wsX0_castles wsX0_isOpen := goodIn_r _ [37, 10, 11, 12, 13, 38, 39, 40, 41, 42, 5, 43, 14, 15, 16, 44, 45, 46, 47, 48, 49, 50, 51, 30, 31, 32, 33, 52, 53, 54, 55, 56, 57, 58, 59, 60, 61, 62, 63, 64] (by decide +kernel) (by decide +kernel)
set_option maxRecDepth 20000 in
theorem gX0_castles_X0_isOpen : GoodIn wsX0_castles (wsV RX0 234 RX0 yX0_isOpen wsX0_isOpen) := goodIn_app (goodIn_of _ (by decide +kernel)) ggX0_castles_X0_isOpen
theorem dX0_castles_0 : decode cX0_castles 0 = .ok (.iload_n 1, 1) := by decide +kernel
theorem dX0_castles_1 : decode cX0_castles 1 = .ok (.aload_n 0, 1) := by decide +kernel
theorem dX0_castles_2 : decode cX0_castles 2 = .ok (.getfield 82, 3) := by decide +kernel
theorem dX0_castles_5 : decode cX0_castles 5 = .ok (.invokestatic 225, 3) := by decide +kernel
theorem dX0_castles_8 : decode cX0_castles 8 = .ok (.if_icmp .ne 11, 3) := by decide +kernel
theorem dX0_castles_11 : decode cX0_castles 11 = .ok (.iload_n 1, 1) := by decide +kernel
theorem dX0_castles_12 : decode cX0_castles 12 = .ok (.iload_n 2, 1) := by decide +kernel
theorem dX0_castles_13 : decode cX0_castles 13 = .ok (.invokestatic 228, 3) := by decide +kernel
theorem dX0_castles_16 : decode cX0_castles 16 = .ok (.ifCond .ne 5, 3) := by decide +kernel
theorem dX0_castles_19 : decode cX0_castles 19 = .ok (.iconst 0, 1) := by decide +kernel
theorem dX0_castles_20 : decode cX0_castles 20 = .ok (.ireturn, 1) := by decide +kernel
theorem dX0_castles_21 : decode cX0_castles 21 = .ok (.iload_n 1, 1) := by decide +kernel
theorem dX0_castles_22 : decode cX0_castles 22 = .ok (.iload_n 2, 1) := by decide +kernel
theorem dX0_castles_23 : decode cX0_castles 23 = .ok (.invokestatic 231, 3) := by decide +kernel
theorem dX0_castles_26 : decode cX0_castles 26 = .ok (.istore_n 3, 1) := by decide +kernel
theorem dX0_castles_27 : decode cX0_castles 27 = .ok (.aload_n 0, 1) := by decide +kernel
theorem dX0_castles_28 : decode cX0_castles 28 = .ok (.getfield 41, 3) := by decide +kernel
theorem dX0_castles_31 : decode cX0_castles 31 = .ok (.iload_n 3, 1) := by decide +kernel
theorem dX0_castles_32 : decode cX0_castles 32 = .ok (.invokestatic 146, 3) := by decide +kernel
theorem dX0_castles_35 : decode cX0_castles 35 = .ok (.iand, 1) := by decide +kernel
theorem dX0_castles_36 : decode cX0_castles 36 = .ok (.ifCond .eq 32, 3) := by decide +kernel
theorem dX0_castles_39 : decode cX0_castles 39 = .ok (.aload_n 0, 1) := by decide +kernel
theorem dX0_castles_40 : decode cX0_castles 40 = .ok (.iload_n 3, 1) := by decide +kernel
theorem dX0_castles_41 : decode cX0_castles 41 = .ok (.iconst 4, 1) := by decide +kernel
theorem dX0_castles_42 : decode cX0_castles 42 = .ok (.aload_n 0, 1) := by decide +kernel
theorem dX0_castles_43 : decode cX0_castles 43 = .ok (.getfield 82, 3) := by decide +kernel
theorem dX0_castles_46 : decode cX0_castles 46 = .ok (.invokestatic 37, 3) := by decide +kernel
theorem dX0_castles_49 : decode cX0_castles 49 = .ok (.invokevirtual 222, 3) := by decide +kernel
theorem dX0_castles_52 : decode cX0_castles 52 = .ok (.ifCond .eq 16, 3) := by decide +kernel
theorem dX0_castles_55 : decode cX0_castles 55 = .ok (.aload_n 0, 1) := by decide +kernel
theorem dX0_castles_56 : decode cX0_castles 56 = .ok (.iload_n 1, 1) := by decide +kernel
theorem dX0_castles_57 : decode cX0_castles 57 = .ok (.iload_n 3, 1) := by decide +kernel
theorem dX0_castles_58 : decode cX0_castles 58 = .ok (.invokevirtual 234, 3) := by decide +kernel
theorem dX0_castles_61 : decode cX0_castles 61 = .ok (.ifCond .eq 7, 3) := by decide +kernel
theorem dX0_castles_64 : decode cX0_castles 64 = .ok (.iconst 1, 1) := by decide +kernel
theorem dX0_castles_65 : decode cX0_castles 65 = .ok (.goto 4, 3) := by decide +kernel
theorem dX0_castles_68 : decode cX0_castles 68 = .ok (.iconst 0, 1) := by decide +kernel
theorem dX0_castles_69 : decode cX0_castles 69 = .ok (.ireturn, 1) := by decide +kernel
set_option maxRecDepth 20000 in
theorem ggX0_attacks_X0_fileOf : GoodIn wsX0_attacks wsX0_fileOf := goodIn_r _ [9] (by decide +kernel) (by decide +kernel)
set_option maxRecDepth 20000 in
theorem gX0_attacks_X0_fileOf : GoodIn wsX0_attacks (va_wsS RX0 237 yX0_fileOf wsX0_fileOf) := goodIn_app (goodIn_of _ (by decide +kernel)) ggX0_attacks_X0_fileOf
set_option maxRecDepth 20000 in
theorem ggX0_attacks_X0_rankOf : GoodIn wsX0_attacks wsX0_rankOf := goodIn_r _ [12] (by decide +kernel) (by decide +kernel)
set_option maxRecDepth 20000 in
theorem gX0_attacks_X0_rankOf : GoodIn wsX0_attacks (va_wsS RX0 189 yX0_rankOf wsX0_rankOf) := goodIn_app (goodIn_of _ (by decide +kernel)) ggX0_attacks_X0_rankOf
set_option maxRecDepth 20000 in
theorem ggX0_attacks_X0_typeOf : GoodIn wsX0_attacks wsX0_typeOf := goodIn_r _ [15] (by decide +kernel) (by decide +kernel)
set_option maxRecDepth 20000 in
theorem gX0_attacks_X0_typeOf : GoodIn wsX0_attacks (va_wsS RX0 108 yX0_typeOf wsX0_typeOf) := goodIn_app (goodIn_of _ (by decide +kernel)) ggX0_attacks_X0_typeOf
set_option maxRecDepth 20000 in
theorem ggX0_attacks_X0_sideOf : GoodIn wsX0_attacks wsX0_sideOf := goodIn_r _ [18] (by decide +kernel) (by decide +kernel)
set_option maxRecDepth 20000 in
theorem gX0_attacks_X0_sideOf : GoodIn wsX0_attacks (va_wsS RX0 105 yX0_sideOf wsX0_sideOf) := goodIn_app (goodIn_of _ (by decide +kernel)) ggX0_attacks_X0_sideOf
set_option maxRecDepth 20000 in
theorem ggX0_attacks_X0_pawnAttacks : GoodIn wsX0_attacks wsX0_pawnAttacks := goodIn_r _ [21, 2, 3, 4, 5, 10, 11, 8, 12, 22, 23, 24, 6, 7, 9] (by decide +kernel) (by decide +kernel)
set_option maxRecDepth 20000 in
theorem gX0_attacks_X0_pawnAttacks : GoodIn wsX0_attacks (va_wsS RX0 213 yX0_pawnAttacks wsX0_pawnAttacks) := goodIn_app (goodIn_of _ (by decide +kernel)) ggX0_attacks_X0_pawnAttacks
set_option maxRecDepth 20000 in
theorem ggX0_attacks_X0_isOpen : GoodIn wsX0_attacks wsX0_isOpen := goodIn_r _ [28, 2, 3, 4, 5, 29, 30, 31, 6, 7, 8, 9, 10, 11, 12, 32, 33, 34, 35, 36, 37, 38, 39, 1, 40, 41, 42, 43, 44, 45, 46, 47, 48, 49, 50, 51, 52, 53, 54, 55] (by decide +kernel) (by decide +kernel)
set_option maxRecDepth 20000 in
theorem gX0_attacks_X0_isOpen : GoodIn wsX0_attacks (wsV RX0 234 RX0 yX0_isOpen wsX0_isOpen) := goodIn_app (goodIn_of _ (by decide +kernel)) ggX0_attacks_X0_isOpen
theorem dX0_attacks_0 : decode cX0_attacks 0 = .ok (.iload_n 1, 1) := by decide +kernel
theorem dX0_attacks_1 : decode cX0_attacks 1 = .ok (.iload_n 2, 1) := by decide +kernel
theorem dX0_attacks_2 : decode cX0_attacks 2 = .ok (.if_icmp .ne 5, 3) := by decide +kernel
theorem dX0_attacks_5 : decode cX0_attacks 5 = .ok (.iconst 0, 1) := by decide +kernel
theorem dX0_attacks_6 : decode cX0_attacks 6 = .ok (.ireturn, 1) := by decide +kernel
theorem dX0_attacks_7 : decode cX0_attacks 7 = .ok (.aload_n 0, 1) := by decide +kernel
theorem dX0_attacks_8 : decode cX0_attacks 8 = .ok (.getfield 9, 3) := by decide +kernel
theorem dX0_attacks_11 : decode cX0_attacks 11 = .ok (.iload_n 1, 1) := by decide +kernel
theorem dX0_attacks_12 : decode cX0_attacks 12 = .ok (.iaload, 1) := by decide +kernel
theorem dX0_attacks_13 : decode cX0_attacks 13 = .ok (.istore_n 3, 1) := by decide +kernel
theorem dX0_attacks_14 : decode cX0_attacks 14 = .ok (.iload_n 2, 1) := by decide +kernel
theorem dX0_attacks_15 : decode cX0_attacks 15 = .ok (.invokestatic 237, 3) := by decide +kernel
theorem dX0_attacks_18 : decode cX0_attacks 18 = .ok (.iload_n 1, 1) := by decide +kernel
theorem dX0_attacks_19 : decode cX0_attacks 19 = .ok (.invokestatic 237, 3) := by decide +kernel
theorem dX0_attacks_22 : decode cX0_attacks 22 = .ok (.isub, 1) := by decide +kernel
theorem dX0_attacks_23 : decode cX0_attacks 23 = .ok (.invokestatic 240, 3) := by decide +kernel
theorem dX0_attacks_26 : decode cX0_attacks 26 = .ok (.istore 4, 2) := by decide +kernel
theorem dX0_attacks_28 : decode cX0_attacks 28 = .ok (.iload_n 2, 1) := by decide +kernel
theorem dX0_attacks_29 : decode cX0_attacks 29 = .ok (.invokestatic 189, 3) := by decide +kernel
theorem dX0_attacks_32 : decode cX0_attacks 32 = .ok (.iload_n 1, 1) := by decide +kernel
theorem dX0_attacks_33 : decode cX0_attacks 33 = .ok (.invokestatic 189, 3) := by decide +kernel
theorem dX0_attacks_36 : decode cX0_attacks 36 = .ok (.isub, 1) := by decide +kernel
theorem dX0_attacks_37 : decode cX0_attacks 37 = .ok (.invokestatic 240, 3) := by decide +kernel
theorem dX0_attacks_40 : decode cX0_attacks 40 = .ok (.istore 5, 2) := by decide +kernel
theorem dX0_attacks_42 : decode cX0_attacks 42 = .ok (.iload 4, 2) := by decide +kernel
theorem dX0_attacks_44 : decode cX0_attacks 44 = .ok (.ifCond .eq 8, 3) := by decide +kernel
theorem dX0_attacks_47 : decode cX0_attacks 47 = .ok (.iload 5, 2) := by decide +kernel
theorem dX0_attacks_49 : decode cX0_attacks 49 = .ok (.ifCond .ne 7, 3) := by decide +kernel
theorem dX0_attacks_52 : decode cX0_attacks 52 = .ok (.iconst 1, 1) := by decide +kernel
theorem dX0_attacks_53 : decode cX0_attacks 53 = .ok (.goto 4, 3) := by decide +kernel
theorem dX0_attacks_56 : decode cX0_attacks 56 = .ok (.iconst 0, 1) := by decide +kernel
theorem dX0_attacks_57 : decode cX0_attacks 57 = .ok (.istore 6, 2) := by decide +kernel
theorem dX0_attacks_59 : decode cX0_attacks 59 = .ok (.iload 4, 2) := by decide +kernel
theorem dX0_attacks_61 : decode cX0_attacks 61 = .ok (.iload 5, 2) := by decide +kernel
theorem dX0_attacks_63 : decode cX0_attacks 63 = .ok (.if_icmp .ne 7, 3) := by decide +kernel
theorem dX0_attacks_66 : decode cX0_attacks 66 = .ok (.iconst 1, 1) := by decide +kernel
theorem dX0_attacks_67 : decode cX0_attacks 67 = .ok (.goto 4, 3) := by decide +kernel
theorem dX0_attacks_70 : decode cX0_attacks 70 = .ok (.iconst 0, 1) := by decide +kernel
theorem dX0_attacks_71 : decode cX0_attacks 71 = .ok (.istore 7, 2) := by decide +kernel
theorem dX0_attacks_73 : decode cX0_attacks 73 = .ok (.iload_n 3, 1) := by decide +kernel
theorem dX0_attacks_74 : decode cX0_attacks 74 = .ok (.invokestatic 108, 3) := by decide +kernel
theorem dX0_attacks_77 : decode cX0_attacks 77 = .ok (.tableswitch 147 1 6 #[39, 49, 64, 84, 104, 129], 39) := by decide +kernel
theorem dX0_attacks_116 : decode cX0_attacks 116 = .ok (.iload_n 3, 1) := by decide +kernel
theorem dX0_attacks_117 : decode cX0_attacks 117 = .ok (.invokestatic 105, 3) := by decide +kernel
theorem dX0_attacks_120 : decode cX0_attacks 120 = .ok (.iload_n 1, 1) := by decide +kernel
theorem dX0_attacks_121 : decode cX0_attacks 121 = .ok (.iload_n 2, 1) := by decide +kernel
theorem dX0_attacks_122 : decode cX0_attacks 122 = .ok (.invokestatic 213, 3) := by decide +kernel
theorem dX0_attacks_125 : decode cX0_attacks 125 = .ok (.ireturn, 1) := by decide +kernel
theorem dX0_attacks_126 : decode cX0_attacks 126 = .ok (.iload 4, 2) := by decide +kernel
theorem dX0_attacks_128 : decode cX0_attacks 128 = .ok (.iload 5, 2) := by decide +kernel
theorem dX0_attacks_130 : decode cX0_attacks 130 = .ok (.imul, 1) := by decide +kernel
theorem dX0_attacks_131 : decode cX0_attacks 131 = .ok (.iconst 2, 1) := by decide +kernel
theorem dX0_attacks_132 : decode cX0_attacks 132 = .ok (.if_icmp .ne 7, 3) := by decide +kernel
theorem dX0_attacks_135 : decode cX0_attacks 135 = .ok (.iconst 1, 1) := by decide +kernel
theorem dX0_attacks_136 : decode cX0_attacks 136 = .ok (.goto 4, 3) := by decide +kernel
theorem dX0_attacks_139 : decode cX0_attacks 139 = .ok (.iconst 0, 1) := by decide +kernel
theorem dX0_attacks_140 : decode cX0_attacks 140 = .ok (.ireturn, 1) := by decide +kernel
theorem dX0_attacks_141 : decode cX0_attacks 141 = .ok (.iload 7, 2) := by decide +kernel
theorem dX0_attacks_143 : decode cX0_attacks 143 = .ok (.ifCond .eq 16, 3) := by decide +kernel
theorem dX0_attacks_146 : decode cX0_attacks 146 = .ok (.aload_n 0, 1) := by decide +kernel
theorem dX0_attacks_147 : decode cX0_attacks 147 = .ok (.iload_n 1, 1) := by decide +kernel
theorem dX0_attacks_148 : decode cX0_attacks 148 = .ok (.iload_n 2, 1) := by decide +kernel
theorem dX0_attacks_149 : decode cX0_attacks 149 = .ok (.invokevirtual 234, 3) := by decide +kernel
theorem dX0_attacks_152 : decode cX0_attacks 152 = .ok (.ifCond .eq 7, 3) := by decide +kernel
theorem dX0_attacks_155 : decode cX0_attacks 155 = .ok (.iconst 1, 1) := by decide +kernel
theorem dX0_attacks_156 : decode cX0_attacks 156 = .ok (.goto 4, 3) := by decide +kernel
theorem dX0_attacks_159 : decode cX0_attacks 159 = .ok (.iconst 0, 1) := by decide +kernel
theorem dX0_attacks_160 : decode cX0_attacks 160 = .ok (.ireturn, 1) := by decide +kernel
theorem dX0_attacks_161 : decode cX0_attacks 161 = .ok (.iload 6, 2) := by decide +kernel
theorem dX0_attacks_163 : decode cX0_attacks 163 = .ok (.ifCond .eq 16, 3) := by decide +kernel
theorem dX0_attacks_166 : decode cX0_attacks 166 = .ok (.aload_n 0, 1) := by decide +kernel
theorem dX0_attacks_167 : decode cX0_attacks 167 = .ok (.iload_n 1, 1) := by decide +kernel
theorem dX0_attacks_168 : decode cX0_attacks 168 = .ok (.iload_n 2, 1) := by decide +kernel
theorem dX0_attacks_169 : decode cX0_attacks 169 = .ok (.invokevirtual 234, 3) := by decide +kernel
theorem dX0_attacks_172 : decode cX0_attacks 172 = .ok (.ifCond .eq 7, 3) := by decide +kernel
theorem dX0_attacks_175 : decode cX0_attacks 175 = .ok (.iconst 1, 1) := by decide +kernel
theorem dX0_attacks_176 : decode cX0_attacks 176 = .ok (.goto 4, 3) := by decide +kernel
theorem dX0_attacks_179 : decode cX0_attacks 179 = .ok (.iconst 0, 1) := by decide +kernel
theorem dX0_attacks_180 : decode cX0_attacks 180 = .ok (.ireturn, 1) := by decide +kernel
theorem dX0_attacks_181 : decode cX0_attacks 181 = .ok (.iload 6, 2) := by decide +kernel
theorem dX0_attacks_183 : decode cX0_attacks 183 = .ok (.ifCond .ne 8, 3) := by decide +kernel
theorem dX0_attacks_186 : decode cX0_attacks 186 = .ok (.iload 7, 2) := by decide +kernel
theorem dX0_attacks_188 : decode cX0_attacks 188 = .ok (.ifCond .eq 16, 3) := by decide +kernel
theorem dX0_attacks_191 : decode cX0_attacks 191 = .ok (.aload_n 0, 1) := by decide +kernel
theorem dX0_attacks_192 : decode cX0_attacks 192 = .ok (.iload_n 1, 1) := by decide +kernel
theorem dX0_attacks_193 : decode cX0_attacks 193 = .ok (.iload_n 2, 1) := by decide +kernel
theorem dX0_attacks_194 : decode cX0_attacks 194 = .ok (.invokevirtual 234, 3) := by decide +kernel
theorem dX0_attacks_197 : decode cX0_attacks 197 = .ok (.ifCond .eq 7, 3) := by decide +kernel
theorem dX0_attacks_200 : decode cX0_attacks 200 = .ok (.iconst 1, 1) := by decide +kernel
theorem dX0_attacks_201 : decode cX0_attacks 201 = .ok (.goto 4, 3) := by decide +kernel
theorem dX0_attacks_204 : decode cX0_attacks 204 = .ok (.iconst 0, 1) := by decide +kernel
theorem dX0_attacks_205 : decode cX0_attacks 205 = .ok (.ireturn, 1) := by decide +kernel
theorem dX0_attacks_206 : decode cX0_attacks 206 = .ok (.iload 4, 2) := by decide +kernel
theorem dX0_attacks_208 : decode cX0_attacks 208 = .ok (.iconst 1, 1) := by decide +kernel
theorem dX0_attacks_209 : decode cX0_attacks 209 = .ok (.if_icmp .gt 13, 3) := by decide +kernel
theorem dX0_attacks_212 : decode cX0_attacks 212 = .ok (.iload 5, 2) := by decide +kernel
theorem dX0_attacks_214 : decode cX0_attacks 214 = .ok (.iconst 1, 1) := by decide +kernel
theorem dX0_attacks_215 : decode cX0_attacks 215 = .ok (.if_icmp .gt 7, 3) := by decide +kernel
theorem dX0_attacks_218 : decode cX0_attacks 218 = .ok (.iconst 1, 1) := by decide +kernel
theorem dX0_attacks_219 : decode cX0_attacks 219 = .ok (.goto 4, 3) := by decide +kernel
theorem dX0_attacks_222 : decode cX0_attacks 222 = .ok (.iconst 0, 1) := by decide +kernel
theorem dX0_attacks_223 : decode cX0_attacks 223 = .ok (.ireturn, 1) := by decide +kernel
theorem dX0_attacks_224 : decode cX0_attacks 224 = .ok (.iconst 0, 1) := by decide +kernel
theorem dX0_attacks_225 : decode cX0_attacks 225 = .ok (.ireturn, 1) := by decide +kernel
set_option maxRecDepth 20000 in
theorem ggX0_pawnAttacks_X0_rankOf : GoodIn wsX0_pawnAttacks wsX0_rankOf := goodIn_r _ [8] (by decide +kernel) (by decide +kernel)
set_option maxRecDepth 20000 in
theorem gX0_pawnAttacks_X0_rankOf : GoodIn wsX0_pawnAttacks (va_wsS RX0 189 yX0_rankOf wsX0_rankOf) := goodIn_app (goodIn_of _ (by decide +kernel)) ggX0_pawnAttacks_X0_rankOf
set_option maxRecDepth 20000 in
theorem ggX0_pawnAttacks_X0_onward : GoodIn wsX0_pawnAttacks wsX0_onward := goodIn_r _ [11] (by decide +kernel) (by decide +kernel)
set_option maxRecDepth 20000 in
theorem gX0_pawnAttacks_X0_onward : GoodIn wsX0_pawnAttacks (va_wsS RX0 204 yX0_onward wsX0_onward) := goodIn_app (goodIn_of _ (by decide +kernel)) ggX0_pawnAttacks_X0_onward
set_option maxRecDepth 20000 in
theorem ggX0_pawnAttacks_X0_fileOf : GoodIn wsX0_pawnAttacks wsX0_fileOf := goodIn_r _ [14] (by decide +kernel) (by decide +kernel)
set_option maxRecDepth 20000 in
theorem gX0_pawnAttacks_X0_fileOf : GoodIn wsX0_pawnAttacks (va_wsS RX0 237 yX0_fileOf wsX0_fileOf) := goodIn_app (goodIn_of _ (by decide +kernel)) ggX0_pawnAttacks_X0_fileOf
theorem dX0_pawnAttacks_0 : decode cX0_pawnAttacks 0 = .ok (.iload_n 2, 1) := by decide +kernel
theorem dX0_pawnAttacks_1 : decode cX0_pawnAttacks 1 = .ok (.invokestatic 189, 3) := by decide +kernel
theorem dX0_pawnAttacks_4 : decode cX0_pawnAttacks 4 = .ok (.iload_n 1, 1) := by decide +kernel
theorem dX0_pawnAttacks_5 : decode cX0_pawnAttacks 5 = .ok (.invokestatic 189, 3) := by decide +kernel
theorem dX0_pawnAttacks_8 : decode cX0_pawnAttacks 8 = .ok (.isub, 1) := by decide +kernel
theorem dX0_pawnAttacks_9 : decode cX0_pawnAttacks 9 = .ok (.iload_n 0, 1) := by decide +kernel
theorem dX0_pawnAttacks_10 : decode cX0_pawnAttacks 10 = .ok (.invokestatic 204, 3) := by decide +kernel
theorem dX0_pawnAttacks_13 : decode cX0_pawnAttacks 13 = .ok (.if_icmp .ne 23, 3) := by decide +kernel
theorem dX0_pawnAttacks_16 : decode cX0_pawnAttacks 16 = .ok (.iload_n 2, 1) := by decide +kernel
theorem dX0_pawnAttacks_17 : decode cX0_pawnAttacks 17 = .ok (.invokestatic 237, 3) := by decide +kernel
theorem dX0_pawnAttacks_20 : decode cX0_pawnAttacks 20 = .ok (.iload_n 1, 1) := by decide +kernel
theorem dX0_pawnAttacks_21 : decode cX0_pawnAttacks 21 = .ok (.invokestatic 237, 3) := by decide +kernel
theorem dX0_pawnAttacks_24 : decode cX0_pawnAttacks 24 = .ok (.isub, 1) := by decide +kernel
theorem dX0_pawnAttacks_25 : decode cX0_pawnAttacks 25 = .ok (.invokestatic 240, 3) := by decide +kernel
theorem dX0_pawnAttacks_28 : decode cX0_pawnAttacks 28 = .ok (.iconst 1, 1) := by decide +kernel
theorem dX0_pawnAttacks_29 : decode cX0_pawnAttacks 29 = .ok (.if_icmp .ne 7, 3) := by decide +kernel
theorem dX0_pawnAttacks_32 : decode cX0_pawnAttacks 32 = .ok (.iconst 1, 1) := by decide +kernel
theorem dX0_pawnAttacks_33 : decode cX0_pawnAttacks 33 = .ok (.goto 4, 3) := by decide +kernel
theorem dX0_pawnAttacks_36 : decode cX0_pawnAttacks 36 = .ok (.iconst 0, 1) := by decide +kernel
theorem dX0_pawnAttacks_37 : decode cX0_pawnAttacks 37 = .ok (.ireturn, 1) := by decide +kernel
set_option maxRecDepth 20000 in
theorem ggX0_isOpen_X0_fileOf : GoodIn wsX0_isOpen wsX0_fileOf := goodIn_r _ [11] (by decide +kernel) (by decide +kernel)
set_option maxRecDepth 20000 in
theorem gX0_isOpen_X0_fileOf : GoodIn wsX0_isOpen (va_wsS RX0 237 yX0_fileOf wsX0_fileOf) := goodIn_app (goodIn_of _ (by decide +kernel)) ggX0_isOpen_X0_fileOf
set_option maxRecDepth 20000 in
theorem ggX0_isOpen_X0_rankOf : GoodIn wsX0_isOpen wsX0_rankOf := goodIn_r _ [14] (by decide +kernel) (by decide +kernel)
set_option maxRecDepth 20000 in
theorem gX0_isOpen_X0_rankOf : GoodIn wsX0_isOpen (va_wsS RX0 189 yX0_rankOf wsX0_rankOf) := goodIn_app (goodIn_of _ (by decide +kernel)) ggX0_isOpen_X0_rankOf
set_option maxRecDepth 20000 in
theorem ggX0_isOpen_J6_compare_7cf53 : GoodIn wsX0_isOpen wsJ6_compare_7cf53 := goodIn_r _ [18] (by decide +kernel) (by decide +kernel)
set_option maxRecDepth 20000 in
theorem gX0_isOpen_J6_compare_7cf53 : GoodIn wsX0_isOpen (va_wsS RX0 245 yJ6_compare_7cf53 wsJ6_compare_7cf53) := goodIn_app (goodIn_of _ (by decide +kernel)) ggX0_isOpen_J6_compare_7cf53
set_option maxRecDepth 20000 in
theorem ggX0_isOpen_X0_isFree : GoodIn wsX0_isOpen wsX0_isFree := goodIn_r _ [22, 23, 24, 25, 10, 26, 27, 28, 29, 30, 31, 32, 33, 34, 35, 36, 37, 38, 39] (by decide +kernel) (by decide +kernel)
set_option maxRecDepth 20000 in
theorem gX0_isOpen_X0_isFree : GoodIn wsX0_isOpen (wsV RX0 207 RX0 yX0_isFree wsX0_isFree) := goodIn_app (goodIn_of _ (by decide +kernel)) ggX0_isOpen_X0_isFree
theorem dX0_isOpen_0 : decode cX0_isOpen 0 = .ok (.iload_n 2, 1) := by decide +kernel
theorem dX0_isOpen_1 : decode cX0_isOpen 1 = .ok (.invokestatic 237, 3) := by decide +kernel
theorem dX0_isOpen_4 : decode cX0_isOpen 4 = .ok (.iload_n 1, 1) := by decide +kernel
theorem dX0_isOpen_5 : decode cX0_isOpen 5 = .ok (.invokestatic 237, 3) := by decide +kernel
theorem dX0_isOpen_8 : decode cX0_isOpen 8 = .ok (.isub, 1) := by decide +kernel
theorem dX0_isOpen_9 : decode cX0_isOpen 9 = .ok (.istore_n 3, 1) := by decide +kernel
theorem dX0_isOpen_10 : decode cX0_isOpen 10 = .ok (.iload_n 2, 1) := by decide +kernel
theorem dX0_isOpen_11 : decode cX0_isOpen 11 = .ok (.invokestatic 189, 3) := by decide +kernel
theorem dX0_isOpen_14 : decode cX0_isOpen 14 = .ok (.iload_n 1, 1) := by decide +kernel
theorem dX0_isOpen_15 : decode cX0_isOpen 15 = .ok (.invokestatic 189, 3) := by decide +kernel
theorem dX0_isOpen_18 : decode cX0_isOpen 18 = .ok (.isub, 1) := by decide +kernel
theorem dX0_isOpen_19 : decode cX0_isOpen 19 = .ok (.istore 4, 2) := by decide +kernel
theorem dX0_isOpen_21 : decode cX0_isOpen 21 = .ok (.iload_n 3, 1) := by decide +kernel
theorem dX0_isOpen_22 : decode cX0_isOpen 22 = .ok (.iconst 0, 1) := by decide +kernel
theorem dX0_isOpen_23 : decode cX0_isOpen 23 = .ok (.invokestatic 245, 3) := by decide +kernel
theorem dX0_isOpen_26 : decode cX0_isOpen 26 = .ok (.bipush 8, 2) := by decide +kernel
theorem dX0_isOpen_28 : decode cX0_isOpen 28 = .ok (.iload 4, 2) := by decide +kernel
theorem dX0_isOpen_30 : decode cX0_isOpen 30 = .ok (.iconst 0, 1) := by decide +kernel
theorem dX0_isOpen_31 : decode cX0_isOpen 31 = .ok (.invokestatic 245, 3) := by decide +kernel
theorem dX0_isOpen_34 : decode cX0_isOpen 34 = .ok (.imul, 1) := by decide +kernel
theorem dX0_isOpen_35 : decode cX0_isOpen 35 = .ok (.iadd, 1) := by decide +kernel
theorem dX0_isOpen_36 : decode cX0_isOpen 36 = .ok (.istore 5, 2) := by decide +kernel
theorem dX0_isOpen_38 : decode cX0_isOpen 38 = .ok (.iload_n 3, 1) := by decide +kernel
theorem dX0_isOpen_39 : decode cX0_isOpen 39 = .ok (.invokestatic 240, 3) := by decide +kernel
theorem dX0_isOpen_42 : decode cX0_isOpen 42 = .ok (.iload 4, 2) := by decide +kernel
theorem dX0_isOpen_44 : decode cX0_isOpen 44 = .ok (.invokestatic 240, 3) := by decide +kernel
theorem dX0_isOpen_47 : decode cX0_isOpen 47 = .ok (.invokestatic 250, 3) := by decide +kernel
theorem dX0_isOpen_50 : decode cX0_isOpen 50 = .ok (.istore 6, 2) := by decide +kernel
theorem dX0_isOpen_52 : decode cX0_isOpen 52 = .ok (.iconst 1, 1) := by decide +kernel
theorem dX0_isOpen_53 : decode cX0_isOpen 53 = .ok (.istore 7, 2) := by decide +kernel
theorem dX0_isOpen_55 : decode cX0_isOpen 55 = .ok (.iload 7, 2) := by decide +kernel
theorem dX0_isOpen_57 : decode cX0_isOpen 57 = .ok (.iload 6, 2) := by decide +kernel
theorem dX0_isOpen_59 : decode cX0_isOpen 59 = .ok (.if_icmp .ge 25, 3) := by decide +kernel
theorem dX0_isOpen_62 : decode cX0_isOpen 62 = .ok (.aload_n 0, 1) := by decide +kernel
theorem dX0_isOpen_63 : decode cX0_isOpen 63 = .ok (.iload_n 1, 1) := by decide +kernel
theorem dX0_isOpen_64 : decode cX0_isOpen 64 = .ok (.iload 7, 2) := by decide +kernel
theorem dX0_isOpen_66 : decode cX0_isOpen 66 = .ok (.iload 5, 2) := by decide +kernel
theorem dX0_isOpen_68 : decode cX0_isOpen 68 = .ok (.imul, 1) := by decide +kernel
theorem dX0_isOpen_69 : decode cX0_isOpen 69 = .ok (.iadd, 1) := by decide +kernel
theorem dX0_isOpen_70 : decode cX0_isOpen 70 = .ok (.invokevirtual 207, 3) := by decide +kernel
theorem dX0_isOpen_73 : decode cX0_isOpen 73 = .ok (.ifCond .ne 5, 3) := by decide +kernel
theorem dX0_isOpen_76 : decode cX0_isOpen 76 = .ok (.iconst 0, 1) := by decide +kernel
theorem dX0_isOpen_77 : decode cX0_isOpen 77 = .ok (.ireturn, 1) := by decide +kernel
theorem dX0_isOpen_78 : decode cX0_isOpen 78 = .ok (.iinc 7 1, 3) := by decide +kernel
theorem dX0_isOpen_81 : decode cX0_isOpen 81 = .ok (.goto (-26), 3) := by decide +kernel
theorem dX0_isOpen_84 : decode cX0_isOpen 84 = .ok (.iconst 1, 1) := by decide +kernel
theorem dX0_isOpen_85 : decode cX0_isOpen 85 = .ok (.ireturn, 1) := by decide +kernel
set_option maxRecDepth 20000 in
theorem ggX0_squareTaken_X0_typeOf : GoodIn wsX0_squareTaken wsX0_typeOf := goodIn_r _ [6] (by decide +kernel) (by decide +kernel)
set_option maxRecDepth 20000 in
theorem gX0_squareTaken_X0_typeOf : GoodIn wsX0_squareTaken (va_wsS RX0 108 yX0_typeOf wsX0_typeOf) := goodIn_app (goodIn_of _ (by decide +kernel)) ggX0_squareTaken_X0_typeOf
set_option maxRecDepth 20000 in
theorem ggX0_squareTaken_X0_pawnAttacks : GoodIn wsX0_squareTaken wsX0_pawnAttacks := goodIn_r _ [9, 10, 11, 12, 13, 14, 15, 5, 16, 17, 18, 19, 20, 21, 22] (by decide +kernel) (by decide +kernel)
set_option maxRecDepth 20000 in
theorem gX0_squareTaken_X0_pawnAttacks : GoodIn wsX0_squareTaken (va_wsS RX0 213 yX0_pawnAttacks wsX0_pawnAttacks) := goodIn_app (goodIn_of _ (by decide +kernel)) ggX0_squareTaken_X0_pawnAttacks
set_option maxRecDepth 20000 in
theorem ggX0_squareTaken_X0_canBeTakenInPassing : GoodIn wsX0_squareTaken wsX0_canBeTakenInPassing := goodIn_r _ [26, 27, 2, 28, 29, 30, 5, 31, 1, 32, 33, 34, 35, 36, 37, 38, 17, 18, 19, 39, 40, 41, 42, 43, 44, 45, 46, 47, 48, 49, 50, 51, 52, 53, 54, 55, 56, 57, 58, 59, 60, 61] (by decide +kernel) (by decide +kernel)
set_option maxRecDepth 20000 in
theorem gX0_squareTaken_X0_canBeTakenInPassing : GoodIn wsX0_squareTaken (wsV RX0 216 RX0 yX0_canBeTakenInPassing wsX0_canBeTakenInPassing) := goodIn_app (goodIn_of _ (by decide +kernel)) ggX0_squareTaken_X0_canBeTakenInPassing
set_option maxRecDepth 20000 in
theorem ggX0_squareTaken_X0_squareBehind : GoodIn wsX0_squareTaken wsX0_squareBehind := goodIn_r _ [38, 2, 17, 18, 5, 19, 49, 50, 51, 52, 53, 54, 55, 56, 57, 58, 59, 60, 61] (by decide +kernel) (by decide +kernel)
set_option maxRecDepth 20000 in
theorem gX0_squareTaken_X0_squareBehind : GoodIn wsX0_squareTaken (wsV RX0 219 RX0 yX0_squareBehind wsX0_squareBehind) := goodIn_app (goodIn_of _ (by decide +kernel)) ggX0_squareTaken_X0_squareBehind
theorem dX0_squareTaken_0 : decode cX0_squareTaken 0 = .ok (.aload_n 0, 1) := by decide +kernel
theorem dX0_squareTaken_1 : decode cX0_squareTaken 1 = .ok (.getfield 9, 3) := by decide +kernel
theorem dX0_squareTaken_4 : decode cX0_squareTaken 4 = .ok (.iload_n 1, 1) := by decide +kernel
theorem dX0_squareTaken_5 : decode cX0_squareTaken 5 = .ok (.iaload, 1) := by decide +kernel
theorem dX0_squareTaken_6 : decode cX0_squareTaken 6 = .ok (.invokestatic 108, 3) := by decide +kernel
theorem dX0_squareTaken_9 : decode cX0_squareTaken 9 = .ok (.iconst 1, 1) := by decide +kernel
theorem dX0_squareTaken_10 : decode cX0_squareTaken 10 = .ok (.if_icmp .ne 19, 3) := by decide +kernel
theorem dX0_squareTaken_13 : decode cX0_squareTaken 13 = .ok (.aload_n 0, 1) := by decide +kernel
theorem dX0_squareTaken_14 : decode cX0_squareTaken 14 = .ok (.getfield 82, 3) := by decide +kernel
theorem dX0_squareTaken_17 : decode cX0_squareTaken 17 = .ok (.iload_n 1, 1) := by decide +kernel
theorem dX0_squareTaken_18 : decode cX0_squareTaken 18 = .ok (.iload_n 2, 1) := by decide +kernel
theorem dX0_squareTaken_19 : decode cX0_squareTaken 19 = .ok (.invokestatic 213, 3) := by decide +kernel
theorem dX0_squareTaken_22 : decode cX0_squareTaken 22 = .ok (.ifCond .eq 7, 3) := by decide +kernel
theorem dX0_squareTaken_25 : decode cX0_squareTaken 25 = .ok (.iconst 1, 1) := by decide +kernel
theorem dX0_squareTaken_26 : decode cX0_squareTaken 26 = .ok (.goto 4, 3) := by decide +kernel
theorem dX0_squareTaken_29 : decode cX0_squareTaken 29 = .ok (.iconst 0, 1) := by decide +kernel
theorem dX0_squareTaken_30 : decode cX0_squareTaken 30 = .ok (.istore_n 3, 1) := by decide +kernel
theorem dX0_squareTaken_31 : decode cX0_squareTaken 31 = .ok (.iload_n 3, 1) := by decide +kernel
theorem dX0_squareTaken_32 : decode cX0_squareTaken 32 = .ok (.ifCond .eq 19, 3) := by decide +kernel
theorem dX0_squareTaken_35 : decode cX0_squareTaken 35 = .ok (.aload_n 0, 1) := by decide +kernel
theorem dX0_squareTaken_36 : decode cX0_squareTaken 36 = .ok (.iload_n 2, 1) := by decide +kernel
theorem dX0_squareTaken_37 : decode cX0_squareTaken 37 = .ok (.invokevirtual 216, 3) := by decide +kernel
theorem dX0_squareTaken_40 : decode cX0_squareTaken 40 = .ok (.ifCond .eq 11, 3) := by decide +kernel
theorem dX0_squareTaken_43 : decode cX0_squareTaken 43 = .ok (.aload_n 0, 1) := by decide +kernel
theorem dX0_squareTaken_44 : decode cX0_squareTaken 44 = .ok (.iload_n 2, 1) := by decide +kernel
theorem dX0_squareTaken_45 : decode cX0_squareTaken 45 = .ok (.invokevirtual 219, 3) := by decide +kernel
theorem dX0_squareTaken_48 : decode cX0_squareTaken 48 = .ok (.goto 4, 3) := by decide +kernel
theorem dX0_squareTaken_51 : decode cX0_squareTaken 51 = .ok (.iload_n 2, 1) := by decide +kernel
theorem dX0_squareTaken_52 : decode cX0_squareTaken 52 = .ok (.ireturn, 1) := by decide +kernel
theorem dX0_remember_0 : decode cX0_remember 0 = .ok (.aload_n 0, 1) := by decide +kernel
theorem dX0_remember_1 : decode cX0_remember 1 = .ok (.getfield 13, 3) := by decide +kernel
theorem dX0_remember_4 : decode cX0_remember 4 = .ok (.aload_n 0, 1) := by decide +kernel
theorem dX0_remember_5 : decode cX0_remember 5 = .ok (.getfield 127, 3) := by decide +kernel
theorem dX0_remember_8 : decode cX0_remember 8 = .ok (.iload_n 1, 1) := by decide +kernel
theorem dX0_remember_9 : decode cX0_remember 9 = .ok (.iastore, 1) := by decide +kernel
theorem dX0_remember_10 : decode cX0_remember 10 = .ok (.aload_n 0, 1) := by decide +kernel
theorem dX0_remember_11 : decode cX0_remember 11 = .ok (.getfield 16, 3) := by decide +kernel
theorem dX0_remember_14 : decode cX0_remember 14 = .ok (.aload_n 0, 1) := by decide +kernel
theorem dX0_remember_15 : decode cX0_remember 15 = .ok (.getfield 127, 3) := by decide +kernel
theorem dX0_remember_18 : decode cX0_remember 18 = .ok (.iload_n 2, 1) := by decide +kernel
theorem dX0_remember_19 : decode cX0_remember 19 = .ok (.iastore, 1) := by decide +kernel
theorem dX0_remember_20 : decode cX0_remember 20 = .ok (.aload_n 0, 1) := by decide +kernel
theorem dX0_remember_21 : decode cX0_remember 21 = .ok (.getfield 19, 3) := by decide +kernel
theorem dX0_remember_24 : decode cX0_remember 24 = .ok (.aload_n 0, 1) := by decide +kernel
theorem dX0_remember_25 : decode cX0_remember 25 = .ok (.getfield 127, 3) := by decide +kernel
theorem dX0_remember_28 : decode cX0_remember 28 = .ok (.iload_n 3, 1) := by decide +kernel
theorem dX0_remember_29 : decode cX0_remember 29 = .ok (.iastore, 1) := by decide +kernel
theorem dX0_remember_30 : decode cX0_remember 30 = .ok (.aload_n 0, 1) := by decide +kernel
theorem dX0_remember_31 : decode cX0_remember 31 = .ok (.getfield 22, 3) := by decide +kernel
theorem dX0_remember_34 : decode cX0_remember 34 = .ok (.aload_n 0, 1) := by decide +kernel
theorem dX0_remember_35 : decode cX0_remember 35 = .ok (.getfield 127, 3) := by decide +kernel
theorem dX0_remember_38 : decode cX0_remember 38 = .ok (.aload_n 0, 1) := by decide +kernel
theorem dX0_remember_39 : decode cX0_remember 39 = .ok (.getfield 41, 3) := by decide +kernel
theorem dX0_remember_42 : decode cX0_remember 42 = .ok (.iastore, 1) := by decide +kernel
theorem dX0_remember_43 : decode cX0_remember 43 = .ok (.aload_n 0, 1) := by decide +kernel
theorem dX0_remember_44 : decode cX0_remember 44 = .ok (.getfield 25, 3) := by decide +kernel
theorem dX0_remember_47 : decode cX0_remember 47 = .ok (.aload_n 0, 1) := by decide +kernel
theorem dX0_remember_48 : decode cX0_remember 48 = .ok (.getfield 127, 3) := by decide +kernel
theorem dX0_remember_51 : decode cX0_remember 51 = .ok (.aload_n 0, 1) := by decide +kernel
theorem dX0_remember_52 : decode cX0_remember 52 = .ok (.getfield 85, 3) := by decide +kernel
theorem dX0_remember_55 : decode cX0_remember 55 = .ok (.iastore, 1) := by decide +kernel
theorem dX0_remember_56 : decode cX0_remember 56 = .ok (.aload_n 0, 1) := by decide +kernel
theorem dX0_remember_57 : decode cX0_remember 57 = .ok (.getfield 28, 3) := by decide +kernel
theorem dX0_remember_60 : decode cX0_remember 60 = .ok (.aload_n 0, 1) := by decide +kernel
theorem dX0_remember_61 : decode cX0_remember 61 = .ok (.getfield 127, 3) := by decide +kernel
theorem dX0_remember_64 : decode cX0_remember 64 = .ok (.aload_n 0, 1) := by decide +kernel
theorem dX0_remember_65 : decode cX0_remember 65 = .ok (.getfield 92, 3) := by decide +kernel
theorem dX0_remember_68 : decode cX0_remember 68 = .ok (.iastore, 1) := by decide +kernel
theorem dX0_remember_69 : decode cX0_remember 69 = .ok (.aload_n 0, 1) := by decide +kernel
theorem dX0_remember_70 : decode cX0_remember 70 = .ok (.dup, 1) := by decide +kernel
theorem dX0_remember_71 : decode cX0_remember 71 = .ok (.getfield 127, 3) := by decide +kernel
theorem dX0_remember_74 : decode cX0_remember 74 = .ok (.iconst 1, 1) := by decide +kernel
theorem dX0_remember_75 : decode cX0_remember 75 = .ok (.iadd, 1) := by decide +kernel
theorem dX0_remember_76 : decode cX0_remember 76 = .ok (.putfield 127, 3) := by decide +kernel
theorem dX0_remember_79 : decode cX0_remember 79 = .ok (.return_, 1) := by decide +kernel
set_option maxRecDepth 20000 in
theorem ggX0_carryOver_X0_fromOf : GoodIn wsX0_carryOver wsX0_fromOf := goodIn_r _ [6] (by decide +kernel) (by decide +kernel)
set_option maxRecDepth 20000 in
theorem gX0_carryOver_X0_fromOf : GoodIn wsX0_carryOver (va_wsS RX0 98 yX0_fromOf wsX0_fromOf) := goodIn_app (goodIn_of _ (by decide +kernel)) ggX0_carryOver_X0_fromOf
set_option maxRecDepth 20000 in
theorem ggX0_carryOver_X0_toOf : GoodIn wsX0_carryOver wsX0_toOf := goodIn_r _ [9] (by decide +kernel) (by decide +kernel)
set_option maxRecDepth 20000 in
theorem gX0_carryOver_X0_toOf : GoodIn wsX0_carryOver (va_wsS RX0 102 yX0_toOf wsX0_toOf) := goodIn_app (goodIn_of _ (by decide +kernel)) ggX0_carryOver_X0_toOf
set_option maxRecDepth 20000 in
theorem ggX0_carryOver_X0_kindOf : GoodIn wsX0_carryOver wsX0_kindOf := goodIn_r _ [12] (by decide +kernel) (by decide +kernel)
set_option maxRecDepth 20000 in
theorem gX0_carryOver_X0_kindOf : GoodIn wsX0_carryOver (va_wsS RX0 111 yX0_kindOf wsX0_kindOf) := goodIn_app (goodIn_of _ (by decide +kernel)) ggX0_carryOver_X0_kindOf
set_option maxRecDepth 20000 in
theorem ggX0_carryOver_X0_isCastling : GoodIn wsX0_carryOver wsX0_isCastling := goodIn_r _ [15, 16, 17, 5, 18, 19, 20, 21, 22, 23, 24, 25, 26, 27, 28] (by decide +kernel) (by decide +kernel)
set_option maxRecDepth 20000 in
theorem gX0_carryOver_X0_isCastling : GoodIn wsX0_carryOver (va_wsS RX0 253 yX0_isCastling wsX0_isCastling) := goodIn_app (goodIn_of _ (by decide +kernel)) ggX0_carryOver_X0_isCastling
set_option maxRecDepth 20000 in
theorem ggX0_carryOver_X0_cornerBeyond : GoodIn wsX0_carryOver wsX0_cornerBeyond := goodIn_r _ [31] (by decide +kernel) (by decide +kernel)
set_option maxRecDepth 20000 in
theorem gX0_carryOver_X0_cornerBeyond : GoodIn wsX0_carryOver (va_wsS RX0 231 yX0_cornerBeyond wsX0_cornerBeyond) := goodIn_app (goodIn_of _ (by decide +kernel)) ggX0_carryOver_X0_cornerBeyond
set_option maxRecDepth 20000 in
theorem ggX0_carryOver_X0_shift : GoodIn wsX0_carryOver wsX0_shift := goodIn_r _ [35, 1, 36, 37, 5, 38, 42, 43, 44, 45, 46, 47, 48, 49, 50, 51, 52, 53, 54] (by decide +kernel) (by decide +kernel)
set_option maxRecDepth 20000 in
theorem gX0_carryOver_X0_shift : GoodIn wsX0_carryOver (wsV RX0 256 RX0 yX0_shift wsX0_shift) := goodIn_app (goodIn_of _ (by decide +kernel)) ggX0_carryOver_X0_shift
set_option maxRecDepth 20000 in
theorem ggX0_carryOver_X0_pieceOf : GoodIn wsX0_carryOver wsX0_pieceOf := goodIn_r _ [41] (by decide +kernel) (by decide +kernel)
set_option maxRecDepth 20000 in
theorem gX0_carryOver_X0_pieceOf : GoodIn wsX0_carryOver (va_wsS RX0 37 yX0_pieceOf wsX0_pieceOf) := goodIn_app (goodIn_of _ (by decide +kernel)) ggX0_carryOver_X0_pieceOf
theorem dX0_carryOver_0 : decode cX0_carryOver 0 = .ok (.iload_n 1, 1) := by decide +kernel
theorem dX0_carryOver_1 : decode cX0_carryOver 1 = .ok (.invokestatic 98, 3) := by decide +kernel
theorem dX0_carryOver_4 : decode cX0_carryOver 4 = .ok (.istore_n 3, 1) := by decide +kernel
theorem dX0_carryOver_5 : decode cX0_carryOver 5 = .ok (.iload_n 1, 1) := by decide +kernel
theorem dX0_carryOver_6 : decode cX0_carryOver 6 = .ok (.invokestatic 102, 3) := by decide +kernel
theorem dX0_carryOver_9 : decode cX0_carryOver 9 = .ok (.istore 4, 2) := by decide +kernel
theorem dX0_carryOver_11 : decode cX0_carryOver 11 = .ok (.iload_n 1, 1) := by decide +kernel
theorem dX0_carryOver_12 : decode cX0_carryOver 12 = .ok (.invokestatic 111, 3) := by decide +kernel
theorem dX0_carryOver_15 : decode cX0_carryOver 15 = .ok (.istore 5, 2) := by decide +kernel
theorem dX0_carryOver_17 : decode cX0_carryOver 17 = .ok (.aload_n 0, 1) := by decide +kernel
theorem dX0_carryOver_18 : decode cX0_carryOver 18 = .ok (.getfield 9, 3) := by decide +kernel
theorem dX0_carryOver_21 : decode cX0_carryOver 21 = .ok (.iload_n 3, 1) := by decide +kernel
theorem dX0_carryOver_22 : decode cX0_carryOver 22 = .ok (.iaload, 1) := by decide +kernel
theorem dX0_carryOver_23 : decode cX0_carryOver 23 = .ok (.istore 6, 2) := by decide +kernel
theorem dX0_carryOver_25 : decode cX0_carryOver 25 = .ok (.iload 6, 2) := by decide +kernel
theorem dX0_carryOver_27 : decode cX0_carryOver 27 = .ok (.iload_n 3, 1) := by decide +kernel
theorem dX0_carryOver_28 : decode cX0_carryOver 28 = .ok (.iload 4, 2) := by decide +kernel
theorem dX0_carryOver_30 : decode cX0_carryOver 30 = .ok (.invokestatic 253, 3) := by decide +kernel
theorem dX0_carryOver_33 : decode cX0_carryOver 33 = .ok (.ifCond .eq 19, 3) := by decide +kernel
theorem dX0_carryOver_36 : decode cX0_carryOver 36 = .ok (.aload_n 0, 1) := by decide +kernel
theorem dX0_carryOver_37 : decode cX0_carryOver 37 = .ok (.iload_n 3, 1) := by decide +kernel
theorem dX0_carryOver_38 : decode cX0_carryOver 38 = .ok (.iload 4, 2) := by decide +kernel
theorem dX0_carryOver_40 : decode cX0_carryOver 40 = .ok (.invokestatic 231, 3) := by decide +kernel
theorem dX0_carryOver_43 : decode cX0_carryOver 43 = .ok (.iload_n 3, 1) := by decide +kernel
theorem dX0_carryOver_44 : decode cX0_carryOver 44 = .ok (.iload 4, 2) := by decide +kernel
theorem dX0_carryOver_46 : decode cX0_carryOver 46 = .ok (.iadd, 1) := by decide +kernel
theorem dX0_carryOver_47 : decode cX0_carryOver 47 = .ok (.iconst 2, 1) := by decide +kernel
theorem dX0_carryOver_48 : decode cX0_carryOver 48 = .ok (.idiv, 1) := by decide +kernel
theorem dX0_carryOver_49 : decode cX0_carryOver 49 = .ok (.invokevirtual 256, 3) := by decide +kernel
theorem dX0_carryOver_52 : decode cX0_carryOver 52 = .ok (.aload_n 0, 1) := by decide +kernel
theorem dX0_carryOver_53 : decode cX0_carryOver 53 = .ok (.getfield 9, 3) := by decide +kernel
theorem dX0_carryOver_56 : decode cX0_carryOver 56 = .ok (.iload_n 2, 1) := by decide +kernel
theorem dX0_carryOver_57 : decode cX0_carryOver 57 = .ok (.iconst 0, 1) := by decide +kernel
theorem dX0_carryOver_58 : decode cX0_carryOver 58 = .ok (.iastore, 1) := by decide +kernel
theorem dX0_carryOver_59 : decode cX0_carryOver 59 = .ok (.aload_n 0, 1) := by decide +kernel
theorem dX0_carryOver_60 : decode cX0_carryOver 60 = .ok (.getfield 9, 3) := by decide +kernel
theorem dX0_carryOver_63 : decode cX0_carryOver 63 = .ok (.iload_n 3, 1) := by decide +kernel
theorem dX0_carryOver_64 : decode cX0_carryOver 64 = .ok (.iconst 0, 1) := by decide +kernel
theorem dX0_carryOver_65 : decode cX0_carryOver 65 = .ok (.iastore, 1) := by decide +kernel
theorem dX0_carryOver_66 : decode cX0_carryOver 66 = .ok (.aload_n 0, 1) := by decide +kernel
theorem dX0_carryOver_67 : decode cX0_carryOver 67 = .ok (.getfield 9, 3) := by decide +kernel
theorem dX0_carryOver_70 : decode cX0_carryOver 70 = .ok (.iload 4, 2) := by decide +kernel
theorem dX0_carryOver_72 : decode cX0_carryOver 72 = .ok (.iload 5, 2) := by decide +kernel
theorem dX0_carryOver_74 : decode cX0_carryOver 74 = .ok (.ifCond .ne 8, 3) := by decide +kernel
theorem dX0_carryOver_77 : decode cX0_carryOver 77 = .ok (.iload 6, 2) := by decide +kernel
theorem dX0_carryOver_79 : decode cX0_carryOver 79 = .ok (.goto 12, 3) := by decide +kernel
theorem dX0_carryOver_82 : decode cX0_carryOver 82 = .ok (.iload 5, 2) := by decide +kernel
theorem dX0_carryOver_84 : decode cX0_carryOver 84 = .ok (.aload_n 0, 1) := by decide +kernel
theorem dX0_carryOver_85 : decode cX0_carryOver 85 = .ok (.getfield 82, 3) := by decide +kernel
theorem dX0_carryOver_88 : decode cX0_carryOver 88 = .ok (.invokestatic 37, 3) := by decide +kernel
theorem dX0_carryOver_91 : decode cX0_carryOver 91 = .ok (.iastore, 1) := by decide +kernel
theorem dX0_carryOver_92 : decode cX0_carryOver 92 = .ok (.return_, 1) := by decide +kernel
set_option maxRecDepth 20000 in
theorem ggX0_carryBack_X0_fromOf : GoodIn wsX0_carryBack wsX0_fromOf := goodIn_r _ [6] (by decide +kernel) (by decide +kernel)
set_option maxRecDepth 20000 in
theorem gX0_carryBack_X0_fromOf : GoodIn wsX0_carryBack (va_wsS RX0 98 yX0_fromOf wsX0_fromOf) := goodIn_app (goodIn_of _ (by decide +kernel)) ggX0_carryBack_X0_fromOf
set_option maxRecDepth 20000 in
theorem ggX0_carryBack_X0_toOf : GoodIn wsX0_carryBack wsX0_toOf := goodIn_r _ [9] (by decide +kernel) (by decide +kernel)
set_option maxRecDepth 20000 in
theorem gX0_carryBack_X0_toOf : GoodIn wsX0_carryBack (va_wsS RX0 102 yX0_toOf wsX0_toOf) := goodIn_app (goodIn_of _ (by decide +kernel)) ggX0_carryBack_X0_toOf
set_option maxRecDepth 20000 in
theorem ggX0_carryBack_X0_kindOf : GoodIn wsX0_carryBack wsX0_kindOf := goodIn_r _ [12] (by decide +kernel) (by decide +kernel)
set_option maxRecDepth 20000 in
theorem gX0_carryBack_X0_kindOf : GoodIn wsX0_carryBack (va_wsS RX0 111 yX0_kindOf wsX0_kindOf) := goodIn_app (goodIn_of _ (by decide +kernel)) ggX0_carryBack_X0_kindOf
set_option maxRecDepth 20000 in
theorem ggX0_carryBack_X0_pieceOf : GoodIn wsX0_carryBack wsX0_pieceOf := goodIn_r _ [15] (by decide +kernel) (by decide +kernel)
set_option maxRecDepth 20000 in
theorem gX0_carryBack_X0_pieceOf : GoodIn wsX0_carryBack (va_wsS RX0 37 yX0_pieceOf wsX0_pieceOf) := goodIn_app (goodIn_of _ (by decide +kernel)) ggX0_carryBack_X0_pieceOf
set_option maxRecDepth 20000 in
theorem ggX0_carryBack_X0_isCastling : GoodIn wsX0_carryBack wsX0_isCastling := goodIn_r _ [18, 19, 20, 5, 21, 22, 23, 24, 25, 26, 27, 28, 29, 30, 31] (by decide +kernel) (by decide +kernel)
set_option maxRecDepth 20000 in
theorem gX0_carryBack_X0_isCastling : GoodIn wsX0_carryBack (va_wsS RX0 253 yX0_isCastling wsX0_isCastling) := goodIn_app (goodIn_of _ (by decide +kernel)) ggX0_carryBack_X0_isCastling
set_option maxRecDepth 20000 in
theorem ggX0_carryBack_X0_cornerBeyond : GoodIn wsX0_carryBack wsX0_cornerBeyond := goodIn_r _ [34] (by decide +kernel) (by decide +kernel)
set_option maxRecDepth 20000 in
theorem gX0_carryBack_X0_cornerBeyond : GoodIn wsX0_carryBack (va_wsS RX0 231 yX0_cornerBeyond wsX0_cornerBeyond) := goodIn_app (goodIn_of _ (by decide +kernel)) ggX0_carryBack_X0_cornerBeyond
set_option maxRecDepth 20000 in
theorem ggX0_carryBack_X0_shift : GoodIn wsX0_carryBack wsX0_shift := goodIn_r _ [38, 1, 39, 40, 5, 41, 42, 43, 44, 45, 46, 47, 48, 49, 50, 51, 52, 53, 54] (by decide +kernel) (by decide +kernel)
set_option maxRecDepth 20000 in
theorem gX0_carryBack_X0_shift : GoodIn wsX0_carryBack (wsV RX0 256 RX0 yX0_shift wsX0_shift) := goodIn_app (goodIn_of _ (by decide +kernel)) ggX0_carryBack_X0_shift
theorem dX0_carryBack_0 : decode cX0_carryBack 0 = .ok (.iload_n 1, 1) := by decide +kernel
theorem dX0_carryBack_1 : decode cX0_carryBack 1 = .ok (.invokestatic 98, 3) := by decide +kernel
theorem dX0_carryBack_4 : decode cX0_carryBack 4 = .ok (.istore 4, 2) := by decide +kernel
theorem dX0_carryBack_6 : decode cX0_carryBack 6 = .ok (.iload_n 1, 1) := by decide +kernel
theorem dX0_carryBack_7 : decode cX0_carryBack 7 = .ok (.invokestatic 102, 3) := by decide +kernel
theorem dX0_carryBack_10 : decode cX0_carryBack 10 = .ok (.istore 5, 2) := by decide +kernel
theorem dX0_carryBack_12 : decode cX0_carryBack 12 = .ok (.iload_n 1, 1) := by decide +kernel
theorem dX0_carryBack_13 : decode cX0_carryBack 13 = .ok (.invokestatic 111, 3) := by decide +kernel
theorem dX0_carryBack_16 : decode cX0_carryBack 16 = .ok (.ifCond .ne 13, 3) := by decide +kernel
theorem dX0_carryBack_19 : decode cX0_carryBack 19 = .ok (.aload_n 0, 1) := by decide +kernel
theorem dX0_carryBack_20 : decode cX0_carryBack 20 = .ok (.getfield 9, 3) := by decide +kernel
theorem dX0_carryBack_23 : decode cX0_carryBack 23 = .ok (.iload 5, 2) := by decide +kernel
theorem dX0_carryBack_25 : decode cX0_carryBack 25 = .ok (.iaload, 1) := by decide +kernel
theorem dX0_carryBack_26 : decode cX0_carryBack 26 = .ok (.goto 11, 3) := by decide +kernel
theorem dX0_carryBack_29 : decode cX0_carryBack 29 = .ok (.iconst 1, 1) := by decide +kernel
theorem dX0_carryBack_30 : decode cX0_carryBack 30 = .ok (.aload_n 0, 1) := by decide +kernel
theorem dX0_carryBack_31 : decode cX0_carryBack 31 = .ok (.getfield 82, 3) := by decide +kernel
theorem dX0_carryBack_34 : decode cX0_carryBack 34 = .ok (.invokestatic 37, 3) := by decide +kernel
theorem dX0_carryBack_37 : decode cX0_carryBack 37 = .ok (.istore 6, 2) := by decide +kernel
theorem dX0_carryBack_39 : decode cX0_carryBack 39 = .ok (.aload_n 0, 1) := by decide +kernel
theorem dX0_carryBack_40 : decode cX0_carryBack 40 = .ok (.getfield 9, 3) := by decide +kernel
theorem dX0_carryBack_43 : decode cX0_carryBack 43 = .ok (.iload 5, 2) := by decide +kernel
theorem dX0_carryBack_45 : decode cX0_carryBack 45 = .ok (.iconst 0, 1) := by decide +kernel
theorem dX0_carryBack_46 : decode cX0_carryBack 46 = .ok (.iastore, 1) := by decide +kernel
theorem dX0_carryBack_47 : decode cX0_carryBack 47 = .ok (.aload_n 0, 1) := by decide +kernel
theorem dX0_carryBack_48 : decode cX0_carryBack 48 = .ok (.getfield 9, 3) := by decide +kernel
theorem dX0_carryBack_51 : decode cX0_carryBack 51 = .ok (.iload_n 3, 1) := by decide +kernel
theorem dX0_carryBack_52 : decode cX0_carryBack 52 = .ok (.iload_n 2, 1) := by decide +kernel
theorem dX0_carryBack_53 : decode cX0_carryBack 53 = .ok (.iastore, 1) := by decide +kernel
theorem dX0_carryBack_54 : decode cX0_carryBack 54 = .ok (.aload_n 0, 1) := by decide +kernel
theorem dX0_carryBack_55 : decode cX0_carryBack 55 = .ok (.getfield 9, 3) := by decide +kernel
theorem dX0_carryBack_58 : decode cX0_carryBack 58 = .ok (.iload 4, 2) := by decide +kernel
theorem dX0_carryBack_60 : decode cX0_carryBack 60 = .ok (.iload 6, 2) := by decide +kernel
theorem dX0_carryBack_62 : decode cX0_carryBack 62 = .ok (.iastore, 1) := by decide +kernel
theorem dX0_carryBack_63 : decode cX0_carryBack 63 = .ok (.iload 6, 2) := by decide +kernel
theorem dX0_carryBack_65 : decode cX0_carryBack 65 = .ok (.iload 4, 2) := by decide +kernel
theorem dX0_carryBack_67 : decode cX0_carryBack 67 = .ok (.iload 5, 2) := by decide +kernel
theorem dX0_carryBack_69 : decode cX0_carryBack 69 = .ok (.invokestatic 253, 3) := by decide +kernel
theorem dX0_carryBack_72 : decode cX0_carryBack 72 = .ok (.ifCond .eq 21, 3) := by decide +kernel
theorem dX0_carryBack_75 : decode cX0_carryBack 75 = .ok (.aload_n 0, 1) := by decide +kernel
theorem dX0_carryBack_76 : decode cX0_carryBack 76 = .ok (.iload 4, 2) := by decide +kernel
theorem dX0_carryBack_78 : decode cX0_carryBack 78 = .ok (.iload 5, 2) := by decide +kernel
theorem dX0_carryBack_80 : decode cX0_carryBack 80 = .ok (.iadd, 1) := by decide +kernel
theorem dX0_carryBack_81 : decode cX0_carryBack 81 = .ok (.iconst 2, 1) := by decide +kernel
theorem dX0_carryBack_82 : decode cX0_carryBack 82 = .ok (.idiv, 1) := by decide +kernel
theorem dX0_carryBack_83 : decode cX0_carryBack 83 = .ok (.iload 4, 2) := by decide +kernel
theorem dX0_carryBack_85 : decode cX0_carryBack 85 = .ok (.iload 5, 2) := by decide +kernel
theorem dX0_carryBack_87 : decode cX0_carryBack 87 = .ok (.invokestatic 231, 3) := by decide +kernel
theorem dX0_carryBack_90 : decode cX0_carryBack 90 = .ok (.invokevirtual 256, 3) := by decide +kernel
theorem dX0_carryBack_93 : decode cX0_carryBack 93 = .ok (.return_, 1) := by decide +kernel
set_option maxRecDepth 20000 in
theorem ggX0_shift_X0_isSquare : GoodIn wsX0_shift wsX0_isSquare := goodIn_r _ [5] (by decide +kernel) (by decide +kernel)
set_option maxRecDepth 20000 in
theorem gX0_shift_X0_isSquare : GoodIn wsX0_shift (va_wsS RX0 45 yX0_isSquare wsX0_isSquare) := goodIn_app (goodIn_of _ (by decide +kernel)) ggX0_shift_X0_isSquare
theorem dX0_shift_0 : decode cX0_shift 0 = .ok (.iload_n 1, 1) := by decide +kernel
theorem dX0_shift_1 : decode cX0_shift 1 = .ok (.invokestatic 45, 3) := by decide +kernel
theorem dX0_shift_4 : decode cX0_shift 4 = .ok (.ifCond .eq 29, 3) := by decide +kernel
theorem dX0_shift_7 : decode cX0_shift 7 = .ok (.iload_n 2, 1) := by decide +kernel
theorem dX0_shift_8 : decode cX0_shift 8 = .ok (.invokestatic 45, 3) := by decide +kernel
theorem dX0_shift_11 : decode cX0_shift 11 = .ok (.ifCond .eq 22, 3) := by decide +kernel
theorem dX0_shift_14 : decode cX0_shift 14 = .ok (.aload_n 0, 1) := by decide +kernel
theorem dX0_shift_15 : decode cX0_shift 15 = .ok (.getfield 9, 3) := by decide +kernel
theorem dX0_shift_18 : decode cX0_shift 18 = .ok (.iload_n 2, 1) := by decide +kernel
theorem dX0_shift_19 : decode cX0_shift 19 = .ok (.aload_n 0, 1) := by decide +kernel
theorem dX0_shift_20 : decode cX0_shift 20 = .ok (.getfield 9, 3) := by decide +kernel
theorem dX0_shift_23 : decode cX0_shift 23 = .ok (.iload_n 1, 1) := by decide +kernel
