theorem dX1_isAttacked_49 : decode cX1_isAttacked 49 = .ok (.goto (-44), 3) := by decide +kernel
theorem dX1_isAttacked_52 : decode cX1_isAttacked 52 = .ok (.iload_n 3, 1) := by decide +kernel
theorem dX1_isAttacked_53 : decode cX1_isAttacked 53 = .ok (.ireturn, 1) := by decide +kernel
set_option maxRecDepth 20000 in
theorem ggX1_attackers_X1_isSquare : GoodIn wsX1_attackers wsX1_isSquare := goodIn_r _ [6] (by decide +kernel) (by decide +kernel)
set_option maxRecDepth 20000 in
theorem gX1_attackers_X1_isSquare : GoodIn wsX1_attackers (va_wsS RX1 53 yX1_isSquare wsX1_isSquare) := goodIn_app (goodIn_of _ (by decide +kernel)) ggX1_attackers_X1_isSquare
set_option maxRecDepth 20000 in
theorem ggX1_attackers_X1_sideOf : GoodIn wsX1_attackers wsX1_sideOf := goodIn_r _ [9] (by decide +kernel) (by decide +kernel)
set_option maxRecDepth 20000 in
theorem gX1_attackers_X1_sideOf : GoodIn wsX1_attackers (va_wsS RX1 68 yX1_sideOf wsX1_sideOf) := goodIn_app (goodIn_of _ (by decide +kernel)) ggX1_attackers_X1_sideOf
set_option maxRecDepth 20000 in
theorem ggX1_attackers_X1_attacks : GoodIn wsX1_attackers wsX1_attacks := goodIn_r _ [13, 2, 14, 15, 5, 16, 17, 18, 19, 7, 8, 9, 20, 21, 22, 23, 24, 25, 26, 27, 28, 29, 30, 31, 32, 33, 34] (by decide +kernel) (by decide +kernel)
set_option maxRecDepth 20000 in
theorem gX1_attackers_X1_attacks : GoodIn wsX1_attackers (wsV RX1 75 RX1 yX1_attacks wsX1_attacks) := goodIn_app (goodIn_of _ (by decide +kernel)) ggX1_attackers_X1_attacks
theorem dX1_attackers_0 : decode cX1_attackers 0 = .ok (.aload_n 0, 1) := by decide +kernel
theorem dX1_attackers_1 : decode cX1_attackers 1 = .ok (.iload_n 1, 1) := by decide +kernel
theorem dX1_attackers_2 : decode cX1_attackers 2 = .ok (.invokestatic 53, 3) := by decide +kernel
theorem dX1_attackers_5 : decode cX1_attackers 5 = .ok (.ifCond .ne 7, 3) := by decide +kernel
theorem dX1_attackers_8 : decode cX1_attackers 8 = .ok (.iconst 1, 1) := by decide +kernel
theorem dX1_attackers_9 : decode cX1_attackers 9 = .ok (.goto 17, 3) := by decide +kernel
theorem dX1_attackers_12 : decode cX1_attackers 12 = .ok (.iload_n 2, 1) := by decide +kernel
theorem dX1_attackers_13 : decode cX1_attackers 13 = .ok (.ifCond .lt 8, 3) := by decide +kernel
theorem dX1_attackers_16 : decode cX1_attackers 16 = .ok (.iload_n 2, 1) := by decide +kernel
theorem dX1_attackers_17 : decode cX1_attackers 17 = .ok (.iconst 1, 1) := by decide +kernel
theorem dX1_attackers_18 : decode cX1_attackers 18 = .ok (.if_icmp .le 7, 3) := by decide +kernel
theorem dX1_attackers_21 : decode cX1_attackers 21 = .ok (.iconst 2, 1) := by decide +kernel
theorem dX1_attackers_22 : decode cX1_attackers 22 = .ok (.goto 4, 3) := by decide +kernel
theorem dX1_attackers_25 : decode cX1_attackers 25 = .ok (.iconst 0, 1) := by decide +kernel
theorem dX1_attackers_26 : decode cX1_attackers 26 = .ok (.putfield 31, 3) := by decide +kernel
theorem dX1_attackers_29 : decode cX1_attackers 29 = .ok (.lconst 0, 1) := by decide +kernel
theorem dX1_attackers_30 : decode cX1_attackers 30 = .ok (.lstore_n 3, 1) := by decide +kernel
theorem dX1_attackers_31 : decode cX1_attackers 31 = .ok (.iconst 0, 1) := by decide +kernel
theorem dX1_attackers_32 : decode cX1_attackers 32 = .ok (.istore 5, 2) := by decide +kernel
theorem dX1_attackers_34 : decode cX1_attackers 34 = .ok (.iload 5, 2) := by decide +kernel
theorem dX1_attackers_36 : decode cX1_attackers 36 = .ok (.bipush 64, 2) := by decide +kernel
theorem dX1_attackers_38 : decode cX1_attackers 38 = .ok (.if_icmp .ge 51, 3) := by decide +kernel
theorem dX1_attackers_41 : decode cX1_attackers 41 = .ok (.aload_n 0, 1) := by decide +kernel
theorem dX1_attackers_42 : decode cX1_attackers 42 = .ok (.getfield 31, 3) := by decide +kernel
theorem dX1_attackers_45 : decode cX1_attackers 45 = .ok (.ifCond .ne 44, 3) := by decide +kernel
theorem dX1_attackers_48 : decode cX1_attackers 48 = .ok (.aload_n 0, 1) := by decide +kernel
theorem dX1_attackers_49 : decode cX1_attackers 49 = .ok (.getfield 7, 3) := by decide +kernel
theorem dX1_attackers_52 : decode cX1_attackers 52 = .ok (.iload 5, 2) := by decide +kernel
theorem dX1_attackers_54 : decode cX1_attackers 54 = .ok (.iaload, 1) := by decide +kernel
theorem dX1_attackers_55 : decode cX1_attackers 55 = .ok (.invokestatic 68, 3) := by decide +kernel
theorem dX1_attackers_58 : decode cX1_attackers 58 = .ok (.iload_n 2, 1) := by decide +kernel
theorem dX1_attackers_59 : decode cX1_attackers 59 = .ok (.if_icmp .ne 22, 3) := by decide +kernel
theorem dX1_attackers_62 : decode cX1_attackers 62 = .ok (.aload_n 0, 1) := by decide +kernel
theorem dX1_attackers_63 : decode cX1_attackers 63 = .ok (.iload 5, 2) := by decide +kernel
theorem dX1_attackers_65 : decode cX1_attackers 65 = .ok (.iload_n 1, 1) := by decide +kernel
theorem dX1_attackers_66 : decode cX1_attackers 66 = .ok (.invokevirtual 75, 3) := by decide +kernel
theorem dX1_attackers_69 : decode cX1_attackers 69 = .ok (.ifCond .eq 12, 3) := by decide +kernel
theorem dX1_attackers_72 : decode cX1_attackers 72 = .ok (.lload_n 3, 1) := by decide +kernel
theorem dX1_attackers_73 : decode cX1_attackers 73 = .ok (.lconst 1, 1) := by decide +kernel
theorem dX1_attackers_74 : decode cX1_attackers 74 = .ok (.iload 5, 2) := by decide +kernel
theorem dX1_attackers_76 : decode cX1_attackers 76 = .ok (.lshl, 1) := by decide +kernel
theorem dX1_attackers_77 : decode cX1_attackers 77 = .ok (.lor, 1) := by decide +kernel
theorem dX1_attackers_78 : decode cX1_attackers 78 = .ok (.goto 4, 3) := by decide +kernel
theorem dX1_attackers_81 : decode cX1_attackers 81 = .ok (.lload_n 3, 1) := by decide +kernel
theorem dX1_attackers_82 : decode cX1_attackers 82 = .ok (.lstore_n 3, 1) := by decide +kernel
theorem dX1_attackers_83 : decode cX1_attackers 83 = .ok (.iinc 5 1, 3) := by decide +kernel
theorem dX1_attackers_86 : decode cX1_attackers 86 = .ok (.goto (-52), 3) := by decide +kernel
theorem dX1_attackers_89 : decode cX1_attackers 89 = .ok (.lload_n 3, 1) := by decide +kernel
theorem dX1_attackers_90 : decode cX1_attackers 90 = .ok (.lreturn, 1) := by decide +kernel
set_option maxRecDepth 20000 in
theorem ggX1_check_X1_isAttacked : GoodIn wsX1_check wsX1_isAttacked := goodIn_r _ [7, 2, 8, 9, 6, 10, 11, 12, 13, 14, 15, 16, 17, 18, 19, 20, 21, 22, 23, 24, 25, 26, 27, 28, 29, 30, 31, 32, 33, 34, 35] (by decide +kernel) (by decide +kernel)
set_option maxRecDepth 20000 in
theorem gX1_check_X1_isAttacked : GoodIn wsX1_check (wsV RX1 78 RX1 yX1_isAttacked wsX1_isAttacked) := goodIn_app (goodIn_of _ (by decide +kernel)) ggX1_check_X1_isAttacked
theorem dX1_check_0 : decode cX1_check 0 = .ok (.aload_n 0, 1) := by decide +kernel
theorem dX1_check_1 : decode cX1_check 1 = .ok (.iconst 0, 1) := by decide +kernel
theorem dX1_check_2 : decode cX1_check 2 = .ok (.putfield 31, 3) := by decide +kernel
theorem dX1_check_5 : decode cX1_check 5 = .ok (.iconst 0, 1) := by decide +kernel
theorem dX1_check_6 : decode cX1_check 6 = .ok (.istore_n 2, 1) := by decide +kernel
theorem dX1_check_7 : decode cX1_check 7 = .ok (.iconst 0, 1) := by decide +kernel
theorem dX1_check_8 : decode cX1_check 8 = .ok (.istore_n 3, 1) := by decide +kernel
theorem dX1_check_9 : decode cX1_check 9 = .ok (.iload_n 3, 1) := by decide +kernel
theorem dX1_check_10 : decode cX1_check 10 = .ok (.bipush 64, 2) := by decide +kernel
theorem dX1_check_12 : decode cX1_check 12 = .ok (.if_icmp .ge 55, 3) := by decide +kernel
theorem dX1_check_15 : decode cX1_check 15 = .ok (.iload_n 1, 1) := by decide +kernel
theorem dX1_check_16 : decode cX1_check 16 = .ok (.ifCond .eq 8, 3) := by decide +kernel
theorem dX1_check_19 : decode cX1_check 19 = .ok (.iload_n 1, 1) := by decide +kernel
theorem dX1_check_20 : decode cX1_check 20 = .ok (.iconst 1, 1) := by decide +kernel
theorem dX1_check_21 : decode cX1_check 21 = .ok (.if_icmp .ne 46, 3) := by decide +kernel
theorem dX1_check_24 : decode cX1_check 24 = .ok (.iload_n 2, 1) := by decide +kernel
theorem dX1_check_25 : decode cX1_check 25 = .ok (.ifCond .ne 30, 3) := by decide +kernel
theorem dX1_check_28 : decode cX1_check 28 = .ok (.aload_n 0, 1) := by decide +kernel
theorem dX1_check_29 : decode cX1_check 29 = .ok (.getfield 7, 3) := by decide +kernel
theorem dX1_check_32 : decode cX1_check 32 = .ok (.iload_n 3, 1) := by decide +kernel
theorem dX1_check_33 : decode cX1_check 33 = .ok (.iaload, 1) := by decide +kernel
theorem dX1_check_34 : decode cX1_check 34 = .ok (.bipush 6, 2) := by decide +kernel
theorem dX1_check_36 : decode cX1_check 36 = .ok (.bipush 6, 2) := by decide +kernel
theorem dX1_check_38 : decode cX1_check 38 = .ok (.iload_n 1, 1) := by decide +kernel
theorem dX1_check_39 : decode cX1_check 39 = .ok (.imul, 1) := by decide +kernel
theorem dX1_check_40 : decode cX1_check 40 = .ok (.iadd, 1) := by decide +kernel
theorem dX1_check_41 : decode cX1_check 41 = .ok (.if_icmp .ne 18, 3) := by decide +kernel
theorem dX1_check_44 : decode cX1_check 44 = .ok (.aload_n 0, 1) := by decide +kernel
theorem dX1_check_45 : decode cX1_check 45 = .ok (.iload_n 3, 1) := by decide +kernel
theorem dX1_check_46 : decode cX1_check 46 = .ok (.iconst 1, 1) := by decide +kernel
theorem dX1_check_47 : decode cX1_check 47 = .ok (.iload_n 1, 1) := by decide +kernel
theorem dX1_check_48 : decode cX1_check 48 = .ok (.isub, 1) := by decide +kernel
theorem dX1_check_49 : decode cX1_check 49 = .ok (.invokevirtual 78, 3) := by decide +kernel
theorem dX1_check_52 : decode cX1_check 52 = .ok (.ifCond .eq 7, 3) := by decide +kernel
theorem dX1_check_55 : decode cX1_check 55 = .ok (.iconst 1, 1) := by decide +kernel
theorem dX1_check_56 : decode cX1_check 56 = .ok (.goto 4, 3) := by decide +kernel
theorem dX1_check_59 : decode cX1_check 59 = .ok (.iconst 0, 1) := by decide +kernel
theorem dX1_check_60 : decode cX1_check 60 = .ok (.istore_n 2, 1) := by decide +kernel
theorem dX1_check_61 : decode cX1_check 61 = .ok (.iinc 3 1, 3) := by decide +kernel
theorem dX1_check_64 : decode cX1_check 64 = .ok (.goto (-55), 3) := by decide +kernel
theorem dX1_check_67 : decode cX1_check 67 = .ok (.iload_n 2, 1) := by decide +kernel
theorem dX1_check_68 : decode cX1_check 68 = .ok (.ireturn, 1) := by decide +kernel
set_option maxRecDepth 20000 in
theorem ggX1_castles_X1_isFree : GoodIn wsX1_castles wsX1_isFree := goodIn_r _ [8, 3, 9, 10, 11, 12, 13, 14, 15, 16, 17, 18, 19] (by decide +kernel) (by decide +kernel)
set_option maxRecDepth 20000 in
theorem gX1_castles_X1_isFree : GoodIn wsX1_castles (wsV RX1 71 RX1 yX1_isFree wsX1_isFree) := goodIn_app (goodIn_of _ (by decide +kernel)) ggX1_castles_X1_isFree
theorem dX1_castles_0 : decode cX1_castles 0 = .ok (.aload_n 0, 1) := by decide +kernel
theorem dX1_castles_1 : decode cX1_castles 1 = .ok (.getfield 34, 3) := by decide +kernel
theorem dX1_castles_4 : decode cX1_castles 4 = .ok (.ifCond .ne 7, 3) := by decide +kernel
theorem dX1_castles_7 : decode cX1_castles 7 = .ok (.iconst 4, 1) := by decide +kernel
theorem dX1_castles_8 : decode cX1_castles 8 = .ok (.goto 5, 3) := by decide +kernel
theorem dX1_castles_11 : decode cX1_castles 11 = .ok (.bipush 60, 2) := by decide +kernel
theorem dX1_castles_13 : decode cX1_castles 13 = .ok (.istore_n 3, 1) := by decide +kernel
theorem dX1_castles_14 : decode cX1_castles 14 = .ok (.iload_n 2, 1) := by decide +kernel
theorem dX1_castles_15 : decode cX1_castles 15 = .ok (.iload_n 1, 1) := by decide +kernel
theorem dX1_castles_16 : decode cX1_castles 16 = .ok (.isub, 1) := by decide +kernel
theorem dX1_castles_17 : decode cX1_castles 17 = .ok (.istore 4, 2) := by decide +kernel
theorem dX1_castles_19 : decode cX1_castles 19 = .ok (.iload_n 1, 1) := by decide +kernel
theorem dX1_castles_20 : decode cX1_castles 20 = .ok (.iload_n 3, 1) := by decide +kernel
theorem dX1_castles_21 : decode cX1_castles 21 = .ok (.if_icmp .ne 16, 3) := by decide +kernel
theorem dX1_castles_24 : decode cX1_castles 24 = .ok (.iload 4, 2) := by decide +kernel
theorem dX1_castles_26 : decode cX1_castles 26 = .ok (.iconst 2, 1) := by decide +kernel
theorem dX1_castles_27 : decode cX1_castles 27 = .ok (.if_icmp .eq 12, 3) := by decide +kernel
theorem dX1_castles_30 : decode cX1_castles 30 = .ok (.iload 4, 2) := by decide +kernel
theorem dX1_castles_32 : decode cX1_castles 32 = .ok (.bipush (-2), 2) := by decide +kernel
theorem dX1_castles_34 : decode cX1_castles 34 = .ok (.if_icmp .eq 5, 3) := by decide +kernel
theorem dX1_castles_37 : decode cX1_castles 37 = .ok (.iconst 0, 1) := by decide +kernel
theorem dX1_castles_38 : decode cX1_castles 38 = .ok (.ireturn, 1) := by decide +kernel
theorem dX1_castles_39 : decode cX1_castles 39 = .ok (.iload 4, 2) := by decide +kernel
theorem dX1_castles_41 : decode cX1_castles 41 = .ok (.iconst 2, 1) := by decide +kernel
theorem dX1_castles_42 : decode cX1_castles 42 = .ok (.if_icmp .ne 7, 3) := by decide +kernel
theorem dX1_castles_45 : decode cX1_castles 45 = .ok (.iconst 1, 1) := by decide +kernel
theorem dX1_castles_46 : decode cX1_castles 46 = .ok (.goto 4, 3) := by decide +kernel
theorem dX1_castles_49 : decode cX1_castles 49 = .ok (.iconst 2, 1) := by decide +kernel
theorem dX1_castles_50 : decode cX1_castles 50 = .ok (.iconst 2, 1) := by decide +kernel
theorem dX1_castles_51 : decode cX1_castles 51 = .ok (.aload_n 0, 1) := by decide +kernel
theorem dX1_castles_52 : decode cX1_castles 52 = .ok (.getfield 34, 3) := by decide +kernel
theorem dX1_castles_55 : decode cX1_castles 55 = .ok (.imul, 1) := by decide +kernel
theorem dX1_castles_56 : decode cX1_castles 56 = .ok (.ishl, 1) := by decide +kernel
theorem dX1_castles_57 : decode cX1_castles 57 = .ok (.istore 5, 2) := by decide +kernel
theorem dX1_castles_59 : decode cX1_castles 59 = .ok (.iload 4, 2) := by decide +kernel
theorem dX1_castles_61 : decode cX1_castles 61 = .ok (.iconst 2, 1) := by decide +kernel
theorem dX1_castles_62 : decode cX1_castles 62 = .ok (.if_icmp .ne 9, 3) := by decide +kernel
theorem dX1_castles_65 : decode cX1_castles 65 = .ok (.iload_n 3, 1) := by decide +kernel
theorem dX1_castles_66 : decode cX1_castles 66 = .ok (.iconst 3, 1) := by decide +kernel
theorem dX1_castles_67 : decode cX1_castles 67 = .ok (.iadd, 1) := by decide +kernel
theorem dX1_castles_68 : decode cX1_castles 68 = .ok (.goto 6, 3) := by decide +kernel
theorem dX1_castles_71 : decode cX1_castles 71 = .ok (.iload_n 3, 1) := by decide +kernel
theorem dX1_castles_72 : decode cX1_castles 72 = .ok (.iconst 4, 1) := by decide +kernel
theorem dX1_castles_73 : decode cX1_castles 73 = .ok (.isub, 1) := by decide +kernel
theorem dX1_castles_74 : decode cX1_castles 74 = .ok (.istore 6, 2) := by decide +kernel
theorem dX1_castles_76 : decode cX1_castles 76 = .ok (.aload_n 0, 1) := by decide +kernel
theorem dX1_castles_77 : decode cX1_castles 77 = .ok (.getfield 37, 3) := by decide +kernel
theorem dX1_castles_80 : decode cX1_castles 80 = .ok (.iload 5, 2) := by decide +kernel
theorem dX1_castles_82 : decode cX1_castles 82 = .ok (.iand, 1) := by decide +kernel
theorem dX1_castles_83 : decode cX1_castles 83 = .ok (.ifCond .eq 36, 3) := by decide +kernel
theorem dX1_castles_86 : decode cX1_castles 86 = .ok (.aload_n 0, 1) := by decide +kernel
theorem dX1_castles_87 : decode cX1_castles 87 = .ok (.getfield 7, 3) := by decide +kernel
theorem dX1_castles_90 : decode cX1_castles 90 = .ok (.iload 6, 2) := by decide +kernel
theorem dX1_castles_92 : decode cX1_castles 92 = .ok (.iaload, 1) := by decide +kernel
theorem dX1_castles_93 : decode cX1_castles 93 = .ok (.iconst 4, 1) := by decide +kernel
theorem dX1_castles_94 : decode cX1_castles 94 = .ok (.bipush 6, 2) := by decide +kernel
theorem dX1_castles_96 : decode cX1_castles 96 = .ok (.aload_n 0, 1) := by decide +kernel
theorem dX1_castles_97 : decode cX1_castles 97 = .ok (.getfield 34, 3) := by decide +kernel
theorem dX1_castles_100 : decode cX1_castles 100 = .ok (.imul, 1) := by decide +kernel
theorem dX1_castles_101 : decode cX1_castles 101 = .ok (.iadd, 1) := by decide +kernel
theorem dX1_castles_102 : decode cX1_castles 102 = .ok (.if_icmp .ne 17, 3) := by decide +kernel
theorem dX1_castles_105 : decode cX1_castles 105 = .ok (.aload_n 0, 1) := by decide +kernel
theorem dX1_castles_106 : decode cX1_castles 106 = .ok (.iload_n 1, 1) := by decide +kernel
theorem dX1_castles_107 : decode cX1_castles 107 = .ok (.iload 6, 2) := by decide +kernel
theorem dX1_castles_109 : decode cX1_castles 109 = .ok (.invokevirtual 71, 3) := by decide +kernel
theorem dX1_castles_112 : decode cX1_castles 112 = .ok (.ifCond .eq 7, 3) := by decide +kernel
theorem dX1_castles_115 : decode cX1_castles 115 = .ok (.iconst 1, 1) := by decide +kernel
theorem dX1_castles_116 : decode cX1_castles 116 = .ok (.goto 4, 3) := by decide +kernel
theorem dX1_castles_119 : decode cX1_castles 119 = .ok (.iconst 0, 1) := by decide +kernel
theorem dX1_castles_120 : decode cX1_castles 120 = .ok (.ireturn, 1) := by decide +kernel
set_option maxRecDepth 20000 in
theorem ggX1_takesPassing_X1_attacks : GoodIn wsX1_takesPassing wsX1_attacks := goodIn_r _ [8, 3, 9, 10, 7, 11, 12, 13, 14, 15, 16, 17, 18, 19, 20, 21, 25, 26, 27, 28, 29, 30, 31, 32, 33, 34, 35] (by decide +kernel) (by decide +kernel)
set_option maxRecDepth 20000 in
theorem gX1_takesPassing_X1_attacks : GoodIn wsX1_takesPassing (wsV RX1 75 RX1 yX1_attacks wsX1_attacks) := goodIn_app (goodIn_of _ (by decide +kernel)) ggX1_takesPassing_X1_attacks
set_option maxRecDepth 20000 in
theorem ggX1_takesPassing_X1_isSquare : GoodIn wsX1_takesPassing wsX1_isSquare := goodIn_r _ [24] (by decide +kernel) (by decide +kernel)
set_option maxRecDepth 20000 in
theorem gX1_takesPassing_X1_isSquare : GoodIn wsX1_takesPassing (va_wsS RX1 53 yX1_isSquare wsX1_isSquare) := goodIn_app (goodIn_of _ (by decide +kernel)) ggX1_takesPassing_X1_isSquare
theorem dX1_takesPassing_0 : decode cX1_takesPassing 0 = .ok (.aload_n 0, 1) := by decide +kernel
theorem dX1_takesPassing_1 : decode cX1_takesPassing 1 = .ok (.getfield 34, 3) := by decide +kernel
theorem dX1_takesPassing_4 : decode cX1_takesPassing 4 = .ok (.ifCond .ne 10, 3) := by decide +kernel
theorem dX1_takesPassing_7 : decode cX1_takesPassing 7 = .ok (.iload_n 2, 1) := by decide +kernel
theorem dX1_takesPassing_8 : decode cX1_takesPassing 8 = .ok (.bipush 8, 2) := by decide +kernel
theorem dX1_takesPassing_10 : decode cX1_takesPassing 10 = .ok (.isub, 1) := by decide +kernel
theorem dX1_takesPassing_11 : decode cX1_takesPassing 11 = .ok (.goto 7, 3) := by decide +kernel
theorem dX1_takesPassing_14 : decode cX1_takesPassing 14 = .ok (.iload_n 2, 1) := by decide +kernel
theorem dX1_takesPassing_15 : decode cX1_takesPassing 15 = .ok (.bipush 8, 2) := by decide +kernel
theorem dX1_takesPassing_17 : decode cX1_takesPassing 17 = .ok (.iadd, 1) := by decide +kernel
theorem dX1_takesPassing_18 : decode cX1_takesPassing 18 = .ok (.istore_n 3, 1) := by decide +kernel
theorem dX1_takesPassing_19 : decode cX1_takesPassing 19 = .ok (.iload_n 2, 1) := by decide +kernel
theorem dX1_takesPassing_20 : decode cX1_takesPassing 20 = .ok (.aload_n 0, 1) := by decide +kernel
theorem dX1_takesPassing_21 : decode cX1_takesPassing 21 = .ok (.getfield 13, 3) := by decide +kernel
theorem dX1_takesPassing_24 : decode cX1_takesPassing 24 = .ok (.if_icmp .ne 62, 3) := by decide +kernel
theorem dX1_takesPassing_27 : decode cX1_takesPassing 27 = .ok (.aload_n 0, 1) := by decide +kernel
theorem dX1_takesPassing_28 : decode cX1_takesPassing 28 = .ok (.getfield 7, 3) := by decide +kernel
theorem dX1_takesPassing_31 : decode cX1_takesPassing 31 = .ok (.iload_n 2, 1) := by decide +kernel
theorem dX1_takesPassing_32 : decode cX1_takesPassing 32 = .ok (.iaload, 1) := by decide +kernel
theorem dX1_takesPassing_33 : decode cX1_takesPassing 33 = .ok (.ifCond .ne 53, 3) := by decide +kernel
theorem dX1_takesPassing_36 : decode cX1_takesPassing 36 = .ok (.aload_n 0, 1) := by decide +kernel
theorem dX1_takesPassing_37 : decode cX1_takesPassing 37 = .ok (.iload_n 1, 1) := by decide +kernel
theorem dX1_takesPassing_38 : decode cX1_takesPassing 38 = .ok (.iload_n 2, 1) := by decide +kernel
theorem dX1_takesPassing_39 : decode cX1_takesPassing 39 = .ok (.invokevirtual 75, 3) := by decide +kernel
theorem dX1_takesPassing_42 : decode cX1_takesPassing 42 = .ok (.ifCond .eq 44, 3) := by decide +kernel
theorem dX1_takesPassing_45 : decode cX1_takesPassing 45 = .ok (.iload_n 3, 1) := by decide +kernel
theorem dX1_takesPassing_46 : decode cX1_takesPassing 46 = .ok (.invokestatic 53, 3) := by decide +kernel
theorem dX1_takesPassing_49 : decode cX1_takesPassing 49 = .ok (.ifCond .eq 37, 3) := by decide +kernel
theorem dX1_takesPassing_52 : decode cX1_takesPassing 52 = .ok (.aload_n 0, 1) := by decide +kernel
theorem dX1_takesPassing_53 : decode cX1_takesPassing 53 = .ok (.getfield 7, 3) := by decide +kernel
theorem dX1_takesPassing_56 : decode cX1_takesPassing 56 = .ok (.iload_n 3, 1) := by decide +kernel
theorem dX1_takesPassing_57 : decode cX1_takesPassing 57 = .ok (.invokestatic 53, 3) := by decide +kernel
theorem dX1_takesPassing_60 : decode cX1_takesPassing 60 = .ok (.ifCond .eq 7, 3) := by decide +kernel
theorem dX1_takesPassing_63 : decode cX1_takesPassing 63 = .ok (.iload_n 3, 1) := by decide +kernel
theorem dX1_takesPassing_64 : decode cX1_takesPassing 64 = .ok (.goto 4, 3) := by decide +kernel
theorem dX1_takesPassing_67 : decode cX1_takesPassing 67 = .ok (.iconst 0, 1) := by decide +kernel
theorem dX1_takesPassing_68 : decode cX1_takesPassing 68 = .ok (.iaload, 1) := by decide +kernel
theorem dX1_takesPassing_69 : decode cX1_takesPassing 69 = .ok (.bipush 7, 2) := by decide +kernel
theorem dX1_takesPassing_71 : decode cX1_takesPassing 71 = .ok (.bipush 6, 2) := by decide +kernel
theorem dX1_takesPassing_73 : decode cX1_takesPassing 73 = .ok (.aload_n 0, 1) := by decide +kernel
theorem dX1_takesPassing_74 : decode cX1_takesPassing 74 = .ok (.getfield 34, 3) := by decide +kernel
theorem dX1_takesPassing_77 : decode cX1_takesPassing 77 = .ok (.imul, 1) := by decide +kernel
theorem dX1_takesPassing_78 : decode cX1_takesPassing 78 = .ok (.isub, 1) := by decide +kernel
theorem dX1_takesPassing_79 : decode cX1_takesPassing 79 = .ok (.if_icmp .ne 7, 3) := by decide +kernel
theorem dX1_takesPassing_82 : decode cX1_takesPassing 82 = .ok (.iconst 1, 1) := by decide +kernel
theorem dX1_takesPassing_83 : decode cX1_takesPassing 83 = .ok (.goto 4, 3) := by decide +kernel
theorem dX1_takesPassing_86 : decode cX1_takesPassing 86 = .ok (.iconst 0, 1) := by decide +kernel
theorem dX1_takesPassing_87 : decode cX1_takesPassing 87 = .ok (.ireturn, 1) := by decide +kernel
set_option maxRecDepth 20000 in
theorem ggX1_pawnGoes_X1_attacks : GoodIn wsX1_pawnGoes wsX1_attacks := goodIn_r _ [7, 2, 8, 9, 6, 10, 11, 12, 13, 14, 15, 16, 17, 18, 19, 20, 29, 30, 31, 32, 33, 34, 35, 36, 37, 38, 39] (by decide +kernel) (by decide +kernel)
set_option maxRecDepth 20000 in
theorem gX1_pawnGoes_X1_attacks : GoodIn wsX1_pawnGoes (wsV RX1 75 RX1 yX1_attacks wsX1_attacks) := goodIn_app (goodIn_of _ (by decide +kernel)) ggX1_pawnGoes_X1_attacks
set_option maxRecDepth 20000 in
theorem ggX1_pawnGoes_X1_sideOf : GoodIn wsX1_pawnGoes wsX1_sideOf := goodIn_r _ [16] (by decide +kernel) (by decide +kernel)
set_option maxRecDepth 20000 in
theorem gX1_pawnGoes_X1_sideOf : GoodIn wsX1_pawnGoes (va_wsS RX1 68 yX1_sideOf wsX1_sideOf) := goodIn_app (goodIn_of _ (by decide +kernel)) ggX1_pawnGoes_X1_sideOf
set_option maxRecDepth 20000 in
theorem ggX1_pawnGoes_X1_takesPassing : GoodIn wsX1_pawnGoes wsX1_takesPassing := goodIn_r _ [24, 1, 25, 2, 3, 4, 5, 6, 7, 8, 9, 10, 11, 12, 13, 14, 15, 16, 17, 18, 19, 20, 26, 27, 28, 29, 30, 31, 32, 33, 34, 35, 36, 37, 38, 39] (by decide +kernel) (by decide +kernel)
set_option maxRecDepth 20000 in
theorem gX1_pawnGoes_X1_takesPassing : GoodIn wsX1_pawnGoes (wsV RX1 81 RX1 yX1_takesPassing wsX1_takesPassing) := goodIn_app (goodIn_of _ (by decide +kernel)) ggX1_pawnGoes_X1_takesPassing
theorem dX1_pawnGoes_0 : decode cX1_pawnGoes 0 = .ok (.aload_n 0, 1) := by decide +kernel
theorem dX1_pawnGoes_1 : decode cX1_pawnGoes 1 = .ok (.getfield 34, 3) := by decide +kernel
theorem dX1_pawnGoes_4 : decode cX1_pawnGoes 4 = .ok (.ifCond .ne 8, 3) := by decide +kernel
theorem dX1_pawnGoes_7 : decode cX1_pawnGoes 7 = .ok (.bipush 8, 2) := by decide +kernel
theorem dX1_pawnGoes_9 : decode cX1_pawnGoes 9 = .ok (.goto 5, 3) := by decide +kernel
theorem dX1_pawnGoes_12 : decode cX1_pawnGoes 12 = .ok (.bipush (-8), 2) := by decide +kernel
theorem dX1_pawnGoes_14 : decode cX1_pawnGoes 14 = .ok (.istore_n 3, 1) := by decide +kernel
theorem dX1_pawnGoes_15 : decode cX1_pawnGoes 15 = .ok (.iload_n 2, 1) := by decide +kernel
theorem dX1_pawnGoes_16 : decode cX1_pawnGoes 16 = .ok (.iload_n 1, 1) := by decide +kernel
theorem dX1_pawnGoes_17 : decode cX1_pawnGoes 17 = .ok (.iload_n 3, 1) := by decide +kernel
theorem dX1_pawnGoes_18 : decode cX1_pawnGoes 18 = .ok (.iadd, 1) := by decide +kernel
theorem dX1_pawnGoes_19 : decode cX1_pawnGoes 19 = .ok (.if_icmp .ne 18, 3) := by decide +kernel
theorem dX1_pawnGoes_22 : decode cX1_pawnGoes 22 = .ok (.aload_n 0, 1) := by decide +kernel
theorem dX1_pawnGoes_23 : decode cX1_pawnGoes 23 = .ok (.getfield 7, 3) := by decide +kernel
theorem dX1_pawnGoes_26 : decode cX1_pawnGoes 26 = .ok (.iload_n 2, 1) := by decide +kernel
theorem dX1_pawnGoes_27 : decode cX1_pawnGoes 27 = .ok (.iaload, 1) := by decide +kernel
theorem dX1_pawnGoes_28 : decode cX1_pawnGoes 28 = .ok (.ifCond .ne 7, 3) := by decide +kernel
theorem dX1_pawnGoes_31 : decode cX1_pawnGoes 31 = .ok (.iconst 1, 1) := by decide +kernel
theorem dX1_pawnGoes_32 : decode cX1_pawnGoes 32 = .ok (.goto 4, 3) := by decide +kernel
theorem dX1_pawnGoes_35 : decode cX1_pawnGoes 35 = .ok (.iconst 0, 1) := by decide +kernel
theorem dX1_pawnGoes_36 : decode cX1_pawnGoes 36 = .ok (.ireturn, 1) := by decide +kernel
theorem dX1_pawnGoes_37 : decode cX1_pawnGoes 37 = .ok (.iload_n 2, 1) := by decide +kernel
theorem dX1_pawnGoes_38 : decode cX1_pawnGoes 38 = .ok (.iload_n 1, 1) := by decide +kernel
theorem dX1_pawnGoes_39 : decode cX1_pawnGoes 39 = .ok (.iconst 2, 1) := by decide +kernel
theorem dX1_pawnGoes_40 : decode cX1_pawnGoes 40 = .ok (.iload_n 3, 1) := by decide +kernel
theorem dX1_pawnGoes_41 : decode cX1_pawnGoes 41 = .ok (.imul, 1) := by decide +kernel
theorem dX1_pawnGoes_42 : decode cX1_pawnGoes 42 = .ok (.iadd, 1) := by decide +kernel
theorem dX1_pawnGoes_43 : decode cX1_pawnGoes 43 = .ok (.if_icmp .ne 49, 3) := by decide +kernel
theorem dX1_pawnGoes_46 : decode cX1_pawnGoes 46 = .ok (.iload_n 1, 1) := by decide +kernel
theorem dX1_pawnGoes_47 : decode cX1_pawnGoes 47 = .ok (.bipush 8, 2) := by decide +kernel
theorem dX1_pawnGoes_49 : decode cX1_pawnGoes 49 = .ok (.idiv, 1) := by decide +kernel
theorem dX1_pawnGoes_50 : decode cX1_pawnGoes 50 = .ok (.aload_n 0, 1) := by decide +kernel
theorem dX1_pawnGoes_51 : decode cX1_pawnGoes 51 = .ok (.getfield 34, 3) := by decide +kernel
theorem dX1_pawnGoes_54 : decode cX1_pawnGoes 54 = .ok (.ifCond .ne 7, 3) := by decide +kernel
theorem dX1_pawnGoes_57 : decode cX1_pawnGoes 57 = .ok (.iconst 1, 1) := by decide +kernel
theorem dX1_pawnGoes_58 : decode cX1_pawnGoes 58 = .ok (.goto 5, 3) := by decide +kernel
theorem dX1_pawnGoes_61 : decode cX1_pawnGoes 61 = .ok (.bipush 6, 2) := by decide +kernel
theorem dX1_pawnGoes_63 : decode cX1_pawnGoes 63 = .ok (.if_icmp .ne 27, 3) := by decide +kernel
theorem dX1_pawnGoes_66 : decode cX1_pawnGoes 66 = .ok (.aload_n 0, 1) := by decide +kernel
theorem dX1_pawnGoes_67 : decode cX1_pawnGoes 67 = .ok (.getfield 7, 3) := by decide +kernel
theorem dX1_pawnGoes_70 : decode cX1_pawnGoes 70 = .ok (.iload_n 1, 1) := by decide +kernel
theorem dX1_pawnGoes_71 : decode cX1_pawnGoes 71 = .ok (.iload_n 3, 1) := by decide +kernel
theorem dX1_pawnGoes_72 : decode cX1_pawnGoes 72 = .ok (.iadd, 1) := by decide +kernel
theorem dX1_pawnGoes_73 : decode cX1_pawnGoes 73 = .ok (.iaload, 1) := by decide +kernel
theorem dX1_pawnGoes_74 : decode cX1_pawnGoes 74 = .ok (.ifCond .ne 16, 3) := by decide +kernel
theorem dX1_pawnGoes_77 : decode cX1_pawnGoes 77 = .ok (.aload_n 0, 1) := by decide +kernel
theorem dX1_pawnGoes_78 : decode cX1_pawnGoes 78 = .ok (.getfield 7, 3) := by decide +kernel
theorem dX1_pawnGoes_81 : decode cX1_pawnGoes 81 = .ok (.iload_n 2, 1) := by decide +kernel
theorem dX1_pawnGoes_82 : decode cX1_pawnGoes 82 = .ok (.iaload, 1) := by decide +kernel
theorem dX1_pawnGoes_83 : decode cX1_pawnGoes 83 = .ok (.ifCond .ne 7, 3) := by decide +kernel
theorem dX1_pawnGoes_86 : decode cX1_pawnGoes 86 = .ok (.iconst 1, 1) := by decide +kernel
theorem dX1_pawnGoes_87 : decode cX1_pawnGoes 87 = .ok (.goto 4, 3) := by decide +kernel
theorem dX1_pawnGoes_90 : decode cX1_pawnGoes 90 = .ok (.iconst 0, 1) := by decide +kernel
theorem dX1_pawnGoes_91 : decode cX1_pawnGoes 91 = .ok (.ireturn, 1) := by decide +kernel
theorem dX1_pawnGoes_92 : decode cX1_pawnGoes 92 = .ok (.aload_n 0, 1) := by decide +kernel
theorem dX1_pawnGoes_93 : decode cX1_pawnGoes 93 = .ok (.iload_n 1, 1) := by decide +kernel
theorem dX1_pawnGoes_94 : decode cX1_pawnGoes 94 = .ok (.iload_n 2, 1) := by decide +kernel
theorem dX1_pawnGoes_95 : decode cX1_pawnGoes 95 = .ok (.invokevirtual 75, 3) := by decide +kernel
theorem dX1_pawnGoes_98 : decode cX1_pawnGoes 98 = .ok (.ifCond .eq 21, 3) := by decide +kernel
theorem dX1_pawnGoes_101 : decode cX1_pawnGoes 101 = .ok (.aload_n 0, 1) := by decide +kernel
theorem dX1_pawnGoes_102 : decode cX1_pawnGoes 102 = .ok (.getfield 7, 3) := by decide +kernel
theorem dX1_pawnGoes_105 : decode cX1_pawnGoes 105 = .ok (.iload_n 2, 1) := by decide +kernel
theorem dX1_pawnGoes_106 : decode cX1_pawnGoes 106 = .ok (.iaload, 1) := by decide +kernel
theorem dX1_pawnGoes_107 : decode cX1_pawnGoes 107 = .ok (.invokestatic 68, 3) := by decide +kernel
theorem dX1_pawnGoes_110 : decode cX1_pawnGoes 110 = .ok (.iconst 1, 1) := by decide +kernel
theorem dX1_pawnGoes_111 : decode cX1_pawnGoes 111 = .ok (.aload_n 0, 1) := by decide +kernel
theorem dX1_pawnGoes_112 : decode cX1_pawnGoes 112 = .ok (.getfield 34, 3) := by decide +kernel
theorem dX1_pawnGoes_115 : decode cX1_pawnGoes 115 = .ok (.isub, 1) := by decide +kernel
theorem dX1_pawnGoes_116 : decode cX1_pawnGoes 116 = .ok (.if_icmp .eq 12, 3) := by decide +kernel
theorem dX1_pawnGoes_119 : decode cX1_pawnGoes 119 = .ok (.aload_n 0, 1) := by decide +kernel
theorem dX1_pawnGoes_120 : decode cX1_pawnGoes 120 = .ok (.iload_n 1, 1) := by decide +kernel
theorem dX1_pawnGoes_121 : decode cX1_pawnGoes 121 = .ok (.iload_n 2, 1) := by decide +kernel
theorem dX1_pawnGoes_122 : decode cX1_pawnGoes 122 = .ok (.invokevirtual 81, 3) := by decide +kernel
theorem dX1_pawnGoes_125 : decode cX1_pawnGoes 125 = .ok (.ifCond .eq 7, 3) := by decide +kernel
theorem dX1_pawnGoes_128 : decode cX1_pawnGoes 128 = .ok (.iconst 1, 1) := by decide +kernel
theorem dX1_pawnGoes_129 : decode cX1_pawnGoes 129 = .ok (.goto 4, 3) := by decide +kernel
theorem dX1_pawnGoes_132 : decode cX1_pawnGoes 132 = .ok (.iconst 0, 1) := by decide +kernel
theorem dX1_pawnGoes_133 : decode cX1_pawnGoes 133 = .ok (.ireturn, 1) := by decide +kernel
set_option maxRecDepth 20000 in
theorem ggX1_isMove_X1_kindOf : GoodIn wsX1_isMove wsX1_kindOf := goodIn_r _ [6] (by decide +kernel) (by decide +kernel)
set_option maxRecDepth 20000 in
theorem gX1_isMove_X1_kindOf : GoodIn wsX1_isMove (va_wsS RX1 61 yX1_kindOf wsX1_kindOf) := goodIn_app (goodIn_of _ (by decide +kernel)) ggX1_isMove_X1_kindOf
set_option maxRecDepth 20000 in
theorem ggX1_isMove_X1_sideOf : GoodIn wsX1_isMove wsX1_sideOf := goodIn_r _ [9] (by decide +kernel) (by decide +kernel)
set_option maxRecDepth 20000 in
theorem gX1_isMove_X1_sideOf : GoodIn wsX1_isMove (va_wsS RX1 68 yX1_sideOf wsX1_sideOf) := goodIn_app (goodIn_of _ (by decide +kernel)) ggX1_isMove_X1_sideOf
set_option maxRecDepth 20000 in
theorem ggX1_isMove_X1_pawnGoes : GoodIn wsX1_isMove wsX1_pawnGoes := goodIn_r _ [13, 2, 1, 14, 15, 16, 5, 17, 3, 4, 6, 18, 19, 20, 7, 8, 9, 21, 22, 23, 24, 25, 26, 27, 28, 29, 30, 31, 32, 38, 39, 40, 41, 42, 43, 44, 45, 46, 47, 48] (by decide +kernel) (by decide +kernel)
set_option maxRecDepth 20000 in
theorem gX1_isMove_X1_pawnGoes : GoodIn wsX1_isMove (wsV RX1 84 RX1 yX1_pawnGoes wsX1_pawnGoes) := goodIn_app (goodIn_of _ (by decide +kernel)) ggX1_isMove_X1_pawnGoes
set_option maxRecDepth 20000 in
theorem ggX1_isMove_X1_attacks : GoodIn wsX1_isMove wsX1_attacks := goodIn_r _ [17, 1, 3, 4, 5, 6, 18, 19, 20, 7, 8, 9, 21, 22, 23, 24, 38, 39, 40, 41, 42, 43, 44, 45, 46, 47, 48] (by decide +kernel) (by decide +kernel)
set_option maxRecDepth 20000 in
theorem gX1_isMove_X1_attacks : GoodIn wsX1_isMove (wsV RX1 75 RX1 yX1_attacks wsX1_attacks) := goodIn_app (goodIn_of _ (by decide +kernel)) ggX1_isMove_X1_attacks
set_option maxRecDepth 20000 in
theorem ggX1_isMove_X1_castles : GoodIn wsX1_isMove wsX1_castles := goodIn_r _ [36, 2, 37, 1, 21, 22, 23, 5, 24, 38, 39, 40, 41, 42, 43, 44, 45, 46, 47, 48] (by decide +kernel) (by decide +kernel)
set_option maxRecDepth 20000 in
theorem gX1_isMove_X1_castles : GoodIn wsX1_isMove (wsV RX1 87 RX1 yX1_castles wsX1_castles) := goodIn_app (goodIn_of _ (by decide +kernel)) ggX1_isMove_X1_castles
theorem dX1_isMove_0 : decode cX1_isMove 0 = .ok (.iload_n 1, 1) := by decide +kernel
theorem dX1_isMove_1 : decode cX1_isMove 1 = .ok (.bipush 64, 2) := by decide +kernel
theorem dX1_isMove_3 : decode cX1_isMove 3 = .ok (.irem, 1) := by decide +kernel
theorem dX1_isMove_4 : decode cX1_isMove 4 = .ok (.istore_n 2, 1) := by decide +kernel
theorem dX1_isMove_5 : decode cX1_isMove 5 = .ok (.iload_n 1, 1) := by decide +kernel
theorem dX1_isMove_6 : decode cX1_isMove 6 = .ok (.bipush 64, 2) := by decide +kernel
theorem dX1_isMove_8 : decode cX1_isMove 8 = .ok (.idiv, 1) := by decide +kernel
theorem dX1_isMove_9 : decode cX1_isMove 9 = .ok (.bipush 64, 2) := by decide +kernel
theorem dX1_isMove_11 : decode cX1_isMove 11 = .ok (.irem, 1) := by decide +kernel
theorem dX1_isMove_12 : decode cX1_isMove 12 = .ok (.istore_n 3, 1) := by decide +kernel
theorem dX1_isMove_13 : decode cX1_isMove 13 = .ok (.iload_n 1, 1) := by decide +kernel
theorem dX1_isMove_14 : decode cX1_isMove 14 = .ok (.sipush 4096, 3) := by decide +kernel
theorem dX1_isMove_17 : decode cX1_isMove 17 = .ok (.idiv, 1) := by decide +kernel
theorem dX1_isMove_18 : decode cX1_isMove 18 = .ok (.istore 4, 2) := by decide +kernel
theorem dX1_isMove_20 : decode cX1_isMove 20 = .ok (.iload_n 1, 1) := by decide +kernel
theorem dX1_isMove_21 : decode cX1_isMove 21 = .ok (.ifCond .lt 20, 3) := by decide +kernel
theorem dX1_isMove_24 : decode cX1_isMove 24 = .ok (.iload 4, 2) := by decide +kernel
theorem dX1_isMove_26 : decode cX1_isMove 26 = .ok (.iconst 5, 1) := by decide +kernel
theorem dX1_isMove_27 : decode cX1_isMove 27 = .ok (.if_icmp .gt 14, 3) := by decide +kernel
theorem dX1_isMove_30 : decode cX1_isMove 30 = .ok (.iload 4, 2) := by decide +kernel
theorem dX1_isMove_32 : decode cX1_isMove 32 = .ok (.iconst 1, 1) := by decide +kernel
theorem dX1_isMove_33 : decode cX1_isMove 33 = .ok (.if_icmp .eq 8, 3) := by decide +kernel
theorem dX1_isMove_36 : decode cX1_isMove 36 = .ok (.iload_n 2, 1) := by decide +kernel
theorem dX1_isMove_37 : decode cX1_isMove 37 = .ok (.iload_n 3, 1) := by decide +kernel
theorem dX1_isMove_38 : decode cX1_isMove 38 = .ok (.if_icmp .ne 5, 3) := by decide +kernel
theorem dX1_isMove_41 : decode cX1_isMove 41 = .ok (.iconst 0, 1) := by decide +kernel
theorem dX1_isMove_42 : decode cX1_isMove 42 = .ok (.ireturn, 1) := by decide +kernel
theorem dX1_isMove_43 : decode cX1_isMove 43 = .ok (.aload_n 0, 1) := by decide +kernel
theorem dX1_isMove_44 : decode cX1_isMove 44 = .ok (.getfield 7, 3) := by decide +kernel
theorem dX1_isMove_47 : decode cX1_isMove 47 = .ok (.iload_n 2, 1) := by decide +kernel
theorem dX1_isMove_48 : decode cX1_isMove 48 = .ok (.iaload, 1) := by decide +kernel
theorem dX1_isMove_49 : decode cX1_isMove 49 = .ok (.invokestatic 61, 3) := by decide +kernel
theorem dX1_isMove_52 : decode cX1_isMove 52 = .ok (.iconst 1, 1) := by decide +kernel
theorem dX1_isMove_53 : decode cX1_isMove 53 = .ok (.if_icmp .ne 27, 3) := by decide +kernel
theorem dX1_isMove_56 : decode cX1_isMove 56 = .ok (.iload_n 3, 1) := by decide +kernel
theorem dX1_isMove_57 : decode cX1_isMove 57 = .ok (.bipush 8, 2) := by decide +kernel
theorem dX1_isMove_59 : decode cX1_isMove 59 = .ok (.idiv, 1) := by decide +kernel
theorem dX1_isMove_60 : decode cX1_isMove 60 = .ok (.aload_n 0, 1) := by decide +kernel
theorem dX1_isMove_61 : decode cX1_isMove 61 = .ok (.getfield 34, 3) := by decide +kernel
theorem dX1_isMove_64 : decode cX1_isMove 64 = .ok (.ifCond .ne 8, 3) := by decide +kernel
theorem dX1_isMove_67 : decode cX1_isMove 67 = .ok (.bipush 7, 2) := by decide +kernel
theorem dX1_isMove_69 : decode cX1_isMove 69 = .ok (.goto 4, 3) := by decide +kernel
theorem dX1_isMove_72 : decode cX1_isMove 72 = .ok (.iconst 0, 1) := by decide +kernel
theorem dX1_isMove_73 : decode cX1_isMove 73 = .ok (.if_icmp .ne 7, 3) := by decide +kernel
theorem dX1_isMove_76 : decode cX1_isMove 76 = .ok (.iconst 1, 1) := by decide +kernel
theorem dX1_isMove_77 : decode cX1_isMove 77 = .ok (.goto 4, 3) := by decide +kernel
theorem dX1_isMove_80 : decode cX1_isMove 80 = .ok (.iconst 0, 1) := by decide +kernel
theorem dX1_isMove_81 : decode cX1_isMove 81 = .ok (.istore 5, 2) := by decide +kernel
theorem dX1_isMove_83 : decode cX1_isMove 83 = .ok (.aload_n 0, 1) := by decide +kernel
theorem dX1_isMove_84 : decode cX1_isMove 84 = .ok (.getfield 7, 3) := by decide +kernel
theorem dX1_isMove_87 : decode cX1_isMove 87 = .ok (.iload_n 2, 1) := by decide +kernel
theorem dX1_isMove_88 : decode cX1_isMove 88 = .ok (.iaload, 1) := by decide +kernel
theorem dX1_isMove_89 : decode cX1_isMove 89 = .ok (.invokestatic 68, 3) := by decide +kernel
theorem dX1_isMove_92 : decode cX1_isMove 92 = .ok (.aload_n 0, 1) := by decide +kernel
theorem dX1_isMove_93 : decode cX1_isMove 93 = .ok (.getfield 34, 3) := by decide +kernel
theorem dX1_isMove_96 : decode cX1_isMove 96 = .ok (.if_icmp .ne 49, 3) := by decide +kernel
theorem dX1_isMove_99 : decode cX1_isMove 99 = .ok (.aload_n 0, 1) := by decide +kernel
theorem dX1_isMove_100 : decode cX1_isMove 100 = .ok (.getfield 7, 3) := by decide +kernel
theorem dX1_isMove_103 : decode cX1_isMove 103 = .ok (.iload_n 3, 1) := by decide +kernel
theorem dX1_isMove_104 : decode cX1_isMove 104 = .ok (.iaload, 1) := by decide +kernel
theorem dX1_isMove_105 : decode cX1_isMove 105 = .ok (.invokestatic 68, 3) := by decide +kernel
theorem dX1_isMove_108 : decode cX1_isMove 108 = .ok (.aload_n 0, 1) := by decide +kernel
theorem dX1_isMove_109 : decode cX1_isMove 109 = .ok (.getfield 34, 3) := by decide +kernel
theorem dX1_isMove_112 : decode cX1_isMove 112 = .ok (.if_icmp .eq 33, 3) := by decide +kernel
theorem dX1_isMove_115 : decode cX1_isMove 115 = .ok (.aload_n 0, 1) := by decide +kernel
theorem dX1_isMove_116 : decode cX1_isMove 116 = .ok (.getfield 7, 3) := by decide +kernel
theorem dX1_isMove_119 : decode cX1_isMove 119 = .ok (.iload_n 3, 1) := by decide +kernel
theorem dX1_isMove_120 : decode cX1_isMove 120 = .ok (.iaload, 1) := by decide +kernel
theorem dX1_isMove_121 : decode cX1_isMove 121 = .ok (.invokestatic 61, 3) := by decide +kernel
theorem dX1_isMove_124 : decode cX1_isMove 124 = .ok (.bipush 6, 2) := by decide +kernel
theorem dX1_isMove_126 : decode cX1_isMove 126 = .ok (.if_icmp .eq 19, 3) := by decide +kernel
theorem dX1_isMove_129 : decode cX1_isMove 129 = .ok (.iload 5, 2) := by decide +kernel
theorem dX1_isMove_131 : decode cX1_isMove 131 = .ok (.iload 4, 2) := by decide +kernel
theorem dX1_isMove_133 : decode cX1_isMove 133 = .ok (.iconst 1, 1) := by decide +kernel
theorem dX1_isMove_134 : decode cX1_isMove 134 = .ok (.if_icmp .le 7, 3) := by decide +kernel
theorem dX1_isMove_137 : decode cX1_isMove 137 = .ok (.iconst 1, 1) := by decide +kernel
theorem dX1_isMove_138 : decode cX1_isMove 138 = .ok (.goto 4, 3) := by decide +kernel
theorem dX1_isMove_141 : decode cX1_isMove 141 = .ok (.iconst 0, 1) := by decide +kernel
theorem dX1_isMove_142 : decode cX1_isMove 142 = .ok (.if_icmp .eq 5, 3) := by decide +kernel
theorem dX1_isMove_145 : decode cX1_isMove 145 = .ok (.iconst 0, 1) := by decide +kernel
theorem dX1_isMove_146 : decode cX1_isMove 146 = .ok (.ireturn, 1) := by decide +kernel
theorem dX1_isMove_147 : decode cX1_isMove 147 = .ok (.aload_n 0, 1) := by decide +kernel
theorem dX1_isMove_148 : decode cX1_isMove 148 = .ok (.getfield 7, 3) := by decide +kernel
theorem dX1_isMove_151 : decode cX1_isMove 151 = .ok (.iload_n 2, 1) := by decide +kernel
theorem dX1_isMove_152 : decode cX1_isMove 152 = .ok (.iaload, 1) := by decide +kernel
theorem dX1_isMove_153 : decode cX1_isMove 153 = .ok (.invokestatic 61, 3) := by decide +kernel
theorem dX1_isMove_156 : decode cX1_isMove 156 = .ok (.iconst 1, 1) := by decide +kernel
theorem dX1_isMove_157 : decode cX1_isMove 157 = .ok (.if_icmp .ne 10, 3) := by decide +kernel
theorem dX1_isMove_160 : decode cX1_isMove 160 = .ok (.aload_n 0, 1) := by decide +kernel
theorem dX1_isMove_161 : decode cX1_isMove 161 = .ok (.iload_n 2, 1) := by decide +kernel
theorem dX1_isMove_162 : decode cX1_isMove 162 = .ok (.iload_n 3, 1) := by decide +kernel
theorem dX1_isMove_163 : decode cX1_isMove 163 = .ok (.invokevirtual 84, 3) := by decide +kernel
theorem dX1_isMove_166 : decode cX1_isMove 166 = .ok (.ireturn, 1) := by decide +kernel
theorem dX1_isMove_167 : decode cX1_isMove 167 = .ok (.aload_n 0, 1) := by decide +kernel
theorem dX1_isMove_168 : decode cX1_isMove 168 = .ok (.iload_n 2, 1) := by decide +kernel
theorem dX1_isMove_169 : decode cX1_isMove 169 = .ok (.iload_n 3, 1) := by decide +kernel
theorem dX1_isMove_170 : decode cX1_isMove 170 = .ok (.invokevirtual 75, 3) := by decide +kernel
theorem dX1_isMove_173 : decode cX1_isMove 173 = .ok (.ifCond .ne 26, 3) := by decide +kernel
theorem dX1_isMove_176 : decode cX1_isMove 176 = .ok (.aload_n 0, 1) := by decide +kernel
theorem dX1_isMove_177 : decode cX1_isMove 177 = .ok (.getfield 7, 3) := by decide +kernel
theorem dX1_isMove_180 : decode cX1_isMove 180 = .ok (.iload_n 2, 1) := by decide +kernel
theorem dX1_isMove_181 : decode cX1_isMove 181 = .ok (.iaload, 1) := by decide +kernel
theorem dX1_isMove_182 : decode cX1_isMove 182 = .ok (.invokestatic 61, 3) := by decide +kernel
theorem dX1_isMove_185 : decode cX1_isMove 185 = .ok (.bipush 6, 2) := by decide +kernel
theorem dX1_isMove_187 : decode cX1_isMove 187 = .ok (.if_icmp .ne 16, 3) := by decide +kernel
theorem dX1_isMove_190 : decode cX1_isMove 190 = .ok (.aload_n 0, 1) := by decide +kernel
theorem dX1_isMove_191 : decode cX1_isMove 191 = .ok (.iload_n 2, 1) := by decide +kernel
theorem dX1_isMove_192 : decode cX1_isMove 192 = .ok (.iload_n 3, 1) := by decide +kernel
theorem dX1_isMove_193 : decode cX1_isMove 193 = .ok (.invokevirtual 87, 3) := by decide +kernel
theorem dX1_isMove_196 : decode cX1_isMove 196 = .ok (.ifCond .eq 7, 3) := by decide +kernel
theorem dX1_isMove_199 : decode cX1_isMove 199 = .ok (.iconst 1, 1) := by decide +kernel
theorem dX1_isMove_200 : decode cX1_isMove 200 = .ok (.goto 4, 3) := by decide +kernel
theorem dX1_isMove_203 : decode cX1_isMove 203 = .ok (.iconst 0, 1) := by decide +kernel
theorem dX1_isMove_204 : decode cX1_isMove 204 = .ok (.ireturn, 1) := by decide +kernel
set_option maxRecDepth 20000 in
theorem ggX1_fits_X1_isMove : GoodIn wsX1_fits wsX1_isMove := goodIn_r _ [6, 7, 8, 9, 10, 5, 11, 12, 13, 14, 15, 16, 17, 18, 19, 20, 21, 22, 23, 24, 25, 26, 27, 28, 29, 30, 31, 32, 33, 34, 35, 36, 37, 38, 39, 40, 41, 42, 43, 44, 45, 46, 47, 48, 49, 50, 51, 52, 53] (by decide +kernel) (by decide +kernel)
set_option maxRecDepth 20000 in
theorem gX1_fits_X1_isMove : GoodIn wsX1_fits (wsV RX1 90 RX1 yX1_isMove wsX1_isMove) := goodIn_app (goodIn_of _ (by decide +kernel)) ggX1_fits_X1_isMove
theorem dX1_fits_0 : decode cX1_fits 0 = .ok (.aload_n 0, 1) := by decide +kernel
theorem dX1_fits_1 : decode cX1_fits 1 = .ok (.iconst 0, 1) := by decide +kernel
theorem dX1_fits_2 : decode cX1_fits 2 = .ok (.putfield 31, 3) := by decide +kernel
theorem dX1_fits_5 : decode cX1_fits 5 = .ok (.aload_n 0, 1) := by decide +kernel
theorem dX1_fits_6 : decode cX1_fits 6 = .ok (.iload_n 1, 1) := by decide +kernel
theorem dX1_fits_7 : decode cX1_fits 7 = .ok (.invokevirtual 90, 3) := by decide +kernel
theorem dX1_fits_10 : decode cX1_fits 10 = .ok (.ireturn, 1) := by decide +kernel
theorem dX1_keep_0 : decode cX1_keep 0 = .ok (.iconst 0, 1) := by decide +kernel
theorem dX1_keep_1 : decode cX1_keep 1 = .ok (.istore_n 2, 1) := by decide +kernel
theorem dX1_keep_2 : decode cX1_keep 2 = .ok (.iload_n 2, 1) := by decide +kernel
theorem dX1_keep_3 : decode cX1_keep 3 = .ok (.bipush 64, 2) := by decide +kernel
theorem dX1_keep_5 : decode cX1_keep 5 = .ok (.if_icmp .ge 30, 3) := by decide +kernel
theorem dX1_keep_8 : decode cX1_keep 8 = .ok (.aload_n 0, 1) := by decide +kernel
theorem dX1_keep_9 : decode cX1_keep 9 = .ok (.getfield 24, 3) := by decide +kernel
theorem dX1_keep_12 : decode cX1_keep 12 = .ok (.bipush 64, 2) := by decide +kernel
theorem dX1_keep_14 : decode cX1_keep 14 = .ok (.aload_n 0, 1) := by decide +kernel
theorem dX1_keep_15 : decode cX1_keep 15 = .ok (.getfield 43, 3) := by decide +kernel
theorem dX1_keep_18 : decode cX1_keep 18 = .ok (.imul, 1) := by decide +kernel
theorem dX1_keep_19 : decode cX1_keep 19 = .ok (.iload_n 2, 1) := by decide +kernel
theorem dX1_keep_20 : decode cX1_keep 20 = .ok (.iadd, 1) := by decide +kernel
theorem dX1_keep_21 : decode cX1_keep 21 = .ok (.aload_n 0, 1) := by decide +kernel
theorem dX1_keep_22 : decode cX1_keep 22 = .ok (.getfield 7, 3) := by decide +kernel
theorem dX1_keep_25 : decode cX1_keep 25 = .ok (.iload_n 2, 1) := by decide +kernel
theorem dX1_keep_26 : decode cX1_keep 26 = .ok (.iaload, 1) := by decide +kernel
theorem dX1_keep_27 : decode cX1_keep 27 = .ok (.i2b, 1) := by decide +kernel
theorem dX1_keep_28 : decode cX1_keep 28 = .ok (.bastore, 1) := by decide +kernel
theorem dX1_keep_29 : decode cX1_keep 29 = .ok (.iinc 2 1, 3) := by decide +kernel
theorem dX1_keep_32 : decode cX1_keep 32 = .ok (.goto (-30), 3) := by decide +kernel
theorem dX1_keep_35 : decode cX1_keep 35 = .ok (.aload_n 0, 1) := by decide +kernel
theorem dX1_keep_36 : decode cX1_keep 36 = .ok (.getfield 28, 3) := by decide +kernel
theorem dX1_keep_39 : decode cX1_keep 39 = .ok (.iconst 5, 1) := by decide +kernel
theorem dX1_keep_40 : decode cX1_keep 40 = .ok (.aload_n 0, 1) := by decide +kernel
theorem dX1_keep_41 : decode cX1_keep 41 = .ok (.getfield 43, 3) := by decide +kernel
theorem dX1_keep_44 : decode cX1_keep 44 = .ok (.imul, 1) := by decide +kernel
theorem dX1_keep_45 : decode cX1_keep 45 = .ok (.aload_n 0, 1) := by decide +kernel
theorem dX1_keep_46 : decode cX1_keep 46 = .ok (.getfield 34, 3) := by decide +kernel
theorem dX1_keep_49 : decode cX1_keep 49 = .ok (.iastore, 1) := by decide +kernel
theorem dX1_keep_50 : decode cX1_keep 50 = .ok (.aload_n 0, 1) := by decide +kernel
theorem dX1_keep_51 : decode cX1_keep 51 = .ok (.getfield 28, 3) := by decide +kernel
theorem dX1_keep_54 : decode cX1_keep 54 = .ok (.iconst 5, 1) := by decide +kernel
theorem dX1_keep_55 : decode cX1_keep 55 = .ok (.aload_n 0, 1) := by decide +kernel
theorem dX1_keep_56 : decode cX1_keep 56 = .ok (.getfield 43, 3) := by decide +kernel
theorem dX1_keep_59 : decode cX1_keep 59 = .ok (.imul, 1) := by decide +kernel
theorem dX1_keep_60 : decode cX1_keep 60 = .ok (.iconst 1, 1) := by decide +kernel
theorem dX1_keep_61 : decode cX1_keep 61 = .ok (.iadd, 1) := by decide +kernel
theorem dX1_keep_62 : decode cX1_keep 62 = .ok (.aload_n 0, 1) := by decide +kernel
theorem dX1_keep_63 : decode cX1_keep 63 = .ok (.getfield 37, 3) := by decide +kernel
theorem dX1_keep_66 : decode cX1_keep 66 = .ok (.iastore, 1) := by decide +kernel
theorem dX1_keep_67 : decode cX1_keep 67 = .ok (.aload_n 0, 1) := by decide +kernel
theorem dX1_keep_68 : decode cX1_keep 68 = .ok (.getfield 28, 3) := by decide +kernel
theorem dX1_keep_71 : decode cX1_keep 71 = .ok (.iconst 5, 1) := by decide +kernel
theorem dX1_keep_72 : decode cX1_keep 72 = .ok (.aload_n 0, 1) := by decide +kernel
theorem dX1_keep_73 : decode cX1_keep 73 = .ok (.getfield 43, 3) := by decide +kernel
theorem dX1_keep_76 : decode cX1_keep 76 = .ok (.imul, 1) := by decide +kernel
theorem dX1_keep_77 : decode cX1_keep 77 = .ok (.iconst 2, 1) := by decide +kernel
theorem dX1_keep_78 : decode cX1_keep 78 = .ok (.iadd, 1) := by decide +kernel
theorem dX1_keep_79 : decode cX1_keep 79 = .ok (.aload_n 0, 1) := by decide +kernel
theorem dX1_keep_80 : decode cX1_keep 80 = .ok (.getfield 13, 3) := by decide +kernel
theorem dX1_keep_83 : decode cX1_keep 83 = .ok (.iastore, 1) := by decide +kernel
theorem dX1_keep_84 : decode cX1_keep 84 = .ok (.aload_n 0, 1) := by decide +kernel
theorem dX1_keep_85 : decode cX1_keep 85 = .ok (.getfield 28, 3) := by decide +kernel
theorem dX1_keep_88 : decode cX1_keep 88 = .ok (.iconst 5, 1) := by decide +kernel
theorem dX1_keep_89 : decode cX1_keep 89 = .ok (.aload_n 0, 1) := by decide +kernel
theorem dX1_keep_90 : decode cX1_keep 90 = .ok (.getfield 43, 3) := by decide +kernel
theorem dX1_keep_93 : decode cX1_keep 93 = .ok (.imul, 1) := by decide +kernel
theorem dX1_keep_94 : decode cX1_keep 94 = .ok (.iconst 3, 1) := by decide +kernel
theorem dX1_keep_95 : decode cX1_keep 95 = .ok (.iadd, 1) := by decide +kernel
theorem dX1_keep_96 : decode cX1_keep 96 = .ok (.aload_n 0, 1) := by decide +kernel
theorem dX1_keep_97 : decode cX1_keep 97 = .ok (.getfield 40, 3) := by decide +kernel
theorem dX1_keep_100 : decode cX1_keep 100 = .ok (.iastore, 1) := by decide +kernel
theorem dX1_keep_101 : decode cX1_keep 101 = .ok (.aload_n 0, 1) := by decide +kernel
theorem dX1_keep_102 : decode cX1_keep 102 = .ok (.getfield 28, 3) := by decide +kernel
theorem dX1_keep_105 : decode cX1_keep 105 = .ok (.iconst 5, 1) := by decide +kernel
theorem dX1_keep_106 : decode cX1_keep 106 = .ok (.aload_n 0, 1) := by decide +kernel
theorem dX1_keep_107 : decode cX1_keep 107 = .ok (.getfield 43, 3) := by decide +kernel
theorem dX1_keep_110 : decode cX1_keep 110 = .ok (.imul, 1) := by decide +kernel
theorem dX1_keep_111 : decode cX1_keep 111 = .ok (.iconst 4, 1) := by decide +kernel
theorem dX1_keep_112 : decode cX1_keep 112 = .ok (.iadd, 1) := by decide +kernel
theorem dX1_keep_113 : decode cX1_keep 113 = .ok (.aload_n 0, 1) := by decide +kernel
theorem dX1_keep_114 : decode cX1_keep 114 = .ok (.getfield 17, 3) := by decide +kernel
theorem dX1_keep_117 : decode cX1_keep 117 = .ok (.iastore, 1) := by decide +kernel
theorem dX1_keep_118 : decode cX1_keep 118 = .ok (.aload_n 0, 1) := by decide +kernel
theorem dX1_keep_119 : decode cX1_keep 119 = .ok (.getfield 20, 3) := by decide +kernel
theorem dX1_keep_122 : decode cX1_keep 122 = .ok (.aload_n 0, 1) := by decide +kernel
theorem dX1_keep_123 : decode cX1_keep 123 = .ok (.getfield 43, 3) := by decide +kernel
theorem dX1_keep_126 : decode cX1_keep 126 = .ok (.iload_n 1, 1) := by decide +kernel
theorem dX1_keep_127 : decode cX1_keep 127 = .ok (.iastore, 1) := by decide +kernel
theorem dX1_keep_128 : decode cX1_keep 128 = .ok (.aload_n 0, 1) := by decide +kernel
theorem dX1_keep_129 : decode cX1_keep 129 = .ok (.dup, 1) := by decide +kernel
theorem dX1_keep_130 : decode cX1_keep 130 = .ok (.getfield 43, 3) := by decide +kernel
theorem dX1_keep_133 : decode cX1_keep 133 = .ok (.iconst 1, 1) := by decide +kernel
theorem dX1_keep_134 : decode cX1_keep 134 = .ok (.iadd, 1) := by decide +kernel
theorem dX1_keep_135 : decode cX1_keep 135 = .ok (.putfield 43, 3) := by decide +kernel
theorem dX1_keep_138 : decode cX1_keep 138 = .ok (.return_, 1) := by decide +kernel
theorem dX1_corner_0 : decode cX1_corner 0 = .ok (.iload_n 0, 1) := by decide +kernel
theorem dX1_corner_1 : decode cX1_corner 1 = .ok (.bipush 7, 2) := by decide +kernel
theorem dX1_corner_3 : decode cX1_corner 3 = .ok (.if_icmp .ne 7, 3) := by decide +kernel
theorem dX1_corner_6 : decode cX1_corner 6 = .ok (.iconst 1, 1) := by decide +kernel
theorem dX1_corner_7 : decode cX1_corner 7 = .ok (.goto 33, 3) := by decide +kernel
theorem dX1_corner_10 : decode cX1_corner 10 = .ok (.iload_n 0, 1) := by decide +kernel
theorem dX1_corner_11 : decode cX1_corner 11 = .ok (.ifCond .ne 7, 3) := by decide +kernel
theorem dX1_corner_14 : decode cX1_corner 14 = .ok (.iconst 2, 1) := by decide +kernel
theorem dX1_corner_15 : decode cX1_corner 15 = .ok (.goto 25, 3) := by decide +kernel
theorem dX1_corner_18 : decode cX1_corner 18 = .ok (.iload_n 0, 1) := by decide +kernel
theorem dX1_corner_19 : decode cX1_corner 19 = .ok (.bipush 63, 2) := by decide +kernel
theorem dX1_corner_21 : decode cX1_corner 21 = .ok (.if_icmp .ne 7, 3) := by decide +kernel
theorem dX1_corner_24 : decode cX1_corner 24 = .ok (.iconst 4, 1) := by decide +kernel
theorem dX1_corner_25 : decode cX1_corner 25 = .ok (.goto 15, 3) := by decide +kernel
theorem dX1_corner_28 : decode cX1_corner 28 = .ok (.iload_n 0, 1) := by decide +kernel
theorem dX1_corner_29 : decode cX1_corner 29 = .ok (.bipush 56, 2) := by decide +kernel
theorem dX1_corner_31 : decode cX1_corner 31 = .ok (.if_icmp .ne 8, 3) := by decide +kernel
theorem dX1_corner_34 : decode cX1_corner 34 = .ok (.bipush 8, 2) := by decide +kernel
theorem dX1_corner_36 : decode cX1_corner 36 = .ok (.goto 4, 3) := by decide +kernel
theorem dX1_corner_39 : decode cX1_corner 39 = .ok (.iconst 0, 1) := by decide +kernel
theorem dX1_corner_40 : decode cX1_corner 40 = .ok (.ireturn, 1) := by decide +kernel
set_option maxRecDepth 20000 in
theorem ggX1_make_X1_isMove : GoodIn wsX1_make wsX1_isMove := goodIn_r _ [13, 3, 4, 14, 15, 12, 16, 17, 18, 19, 20, 21, 22, 23, 24, 25, 26, 27, 28, 29, 30, 31, 32, 33, 34, 35, 36, 37, 38, 6, 39, 40, 41, 42, 43, 44, 45, 5, 60, 61, 62, 63, 64, 65, 66, 67, 68, 69, 70] (by decide +kernel) (by decide +kernel)
set_option maxRecDepth 20000 in
theorem gX1_make_X1_isMove : GoodIn wsX1_make (wsV RX1 90 RX1 yX1_isMove wsX1_isMove) := goodIn_app (goodIn_of _ (by decide +kernel)) ggX1_make_X1_isMove
set_option maxRecDepth 20000 in
theorem ggX1_make_X1_kindOf : GoodIn wsX1_make wsX1_kindOf := goodIn_r _ [16] (by decide +kernel) (by decide +kernel)
set_option maxRecDepth 20000 in
theorem gX1_make_X1_kindOf : GoodIn wsX1_make (va_wsS RX1 61 yX1_kindOf wsX1_kindOf) := goodIn_app (goodIn_of _ (by decide +kernel)) ggX1_make_X1_kindOf
set_option maxRecDepth 20000 in
theorem ggX1_make_X1_attacks : GoodIn wsX1_make wsX1_attacks := goodIn_r _ [27, 3, 14, 15, 12, 16, 28, 29, 30, 17, 18, 19, 31, 32, 33, 34, 60, 61, 62, 63, 64, 65, 66, 67, 68, 69, 70] (by decide +kernel) (by decide +kernel)
set_option maxRecDepth 20000 in
theorem gX1_make_X1_attacks : GoodIn wsX1_make (wsV RX1 75 RX1 yX1_attacks wsX1_attacks) := goodIn_app (goodIn_of _ (by decide +kernel)) ggX1_make_X1_attacks
set_option maxRecDepth 20000 in
theorem ggX1_make_X1_takesPassing : GoodIn wsX1_make wsX1_takesPassing := goodIn_r _ [38, 4, 6, 3, 24, 25, 26, 12, 27, 14, 15, 16, 28, 29, 30, 17, 18, 19, 31, 32, 33, 34, 39, 40, 41, 60, 61, 62, 63, 64, 65, 66, 67, 68, 69, 70] (by decide +kernel) (by decide +kernel)
set_option maxRecDepth 20000 in
theorem gX1_make_X1_takesPassing : GoodIn wsX1_make (wsV RX1 81 RX1 yX1_takesPassing wsX1_takesPassing) := goodIn_app (goodIn_of _ (by decide +kernel)) ggX1_make_X1_takesPassing
set_option maxRecDepth 20000 in
theorem ggX1_make_X1_keep : GoodIn wsX1_make wsX1_keep := goodIn_r _ [49, 50, 1, 3, 51, 4, 5, 6, 7, 8, 52, 60, 61, 62, 63, 64, 65, 66, 67, 68, 69, 70] (by decide +kernel) (by decide +kernel)
set_option maxRecDepth 20000 in
theorem gX1_make_X1_keep : GoodIn wsX1_make (wsV RX1 93 RX1 yX1_keep wsX1_keep) := goodIn_app (goodIn_of _ (by decide +kernel)) ggX1_make_X1_keep
set_option maxRecDepth 20000 in
theorem ggX1_make_X1_corner : GoodIn wsX1_make wsX1_corner := goodIn_r _ [55] (by decide +kernel) (by decide +kernel)
set_option maxRecDepth 20000 in
theorem gX1_make_X1_corner : GoodIn wsX1_make (va_wsS RX1 97 yX1_corner wsX1_corner) := goodIn_app (goodIn_of _ (by decide +kernel)) ggX1_make_X1_corner
set_option maxRecDepth 20000 in
theorem ggX1_make_X1_apart : GoodIn wsX1_make wsX1_apart := goodIn_r _ [30] (by decide +kernel) (by decide +kernel)
set_option maxRecDepth 20000 in
theorem gX1_make_X1_apart : GoodIn wsX1_make (va_wsS RX1 64 yX1_apart wsX1_apart) := goodIn_app (goodIn_of _ (by decide +kernel)) ggX1_make_X1_apart
set_option maxRecDepth 20000 in
theorem ggX1_make_X1_pawnAttacks : GoodIn wsX1_make wsX1_pawnAttacks := goodIn_r _ [59, 3, 24, 25, 26, 12, 27, 14, 15, 16, 28, 29, 30, 17, 18, 19, 31, 32, 33, 34, 60, 61, 62, 63, 64, 65, 66, 67, 68, 69, 70] (by decide +kernel) (by decide +kernel)
set_option maxRecDepth 20000 in
theorem gX1_make_X1_pawnAttacks : GoodIn wsX1_make (wsV RX1 100 RX1 yX1_pawnAttacks wsX1_pawnAttacks) := goodIn_app (goodIn_of _ (by decide +kernel)) ggX1_make_X1_pawnAttacks
theorem dX1_make_0 : decode cX1_make 0 = .ok (.aload_n 0, 1) := by decide +kernel
theorem dX1_make_1 : decode cX1_make 1 = .ok (.aload_n 0, 1) := by decide +kernel
theorem dX1_make_2 : decode cX1_make 2 = .ok (.iload_n 1, 1) := by decide +kernel
theorem dX1_make_3 : decode cX1_make 3 = .ok (.invokevirtual 90, 3) := by decide +kernel
theorem dX1_make_6 : decode cX1_make 6 = .ok (.ifCond .ne 7, 3) := by decide +kernel
theorem dX1_make_9 : decode cX1_make 9 = .ok (.iconst 1, 1) := by decide +kernel
theorem dX1_make_10 : decode cX1_make 10 = .ok (.goto 18, 3) := by decide +kernel
theorem dX1_make_13 : decode cX1_make 13 = .ok (.aload_n 0, 1) := by decide +kernel
theorem dX1_make_14 : decode cX1_make 14 = .ok (.getfield 43, 3) := by decide +kernel
theorem dX1_make_17 : decode cX1_make 17 = .ok (.sipush 600, 3) := by decide +kernel
theorem dX1_make_20 : decode cX1_make 20 = .ok (.if_icmp .ne 7, 3) := by decide +kernel
theorem dX1_make_23 : decode cX1_make 23 = .ok (.iconst 2, 1) := by decide +kernel
theorem dX1_make_24 : decode cX1_make 24 = .ok (.goto 4, 3) := by decide +kernel
theorem dX1_make_27 : decode cX1_make 27 = .ok (.iconst 0, 1) := by decide +kernel
theorem dX1_make_28 : decode cX1_make 28 = .ok (.putfield 31, 3) := by decide +kernel
theorem dX1_make_31 : decode cX1_make 31 = .ok (.aload_n 0, 1) := by decide +kernel
theorem dX1_make_32 : decode cX1_make 32 = .ok (.getfield 31, 3) := by decide +kernel
theorem dX1_make_35 : decode cX1_make 35 = .ok (.ifCond .le 5, 3) := by decide +kernel
theorem dX1_make_38 : decode cX1_make 38 = .ok (.iconst 0, 1) := by decide +kernel
theorem dX1_make_39 : decode cX1_make 39 = .ok (.ireturn, 1) := by decide +kernel
theorem dX1_make_40 : decode cX1_make 40 = .ok (.iload_n 1, 1) := by decide +kernel
theorem dX1_make_41 : decode cX1_make 41 = .ok (.bipush 64, 2) := by decide +kernel
theorem dX1_make_43 : decode cX1_make 43 = .ok (.irem, 1) := by decide +kernel
theorem dX1_make_44 : decode cX1_make 44 = .ok (.istore_n 2, 1) := by decide +kernel
theorem dX1_make_45 : decode cX1_make 45 = .ok (.iload_n 1, 1) := by decide +kernel
theorem dX1_make_46 : decode cX1_make 46 = .ok (.bipush 64, 2) := by decide +kernel
theorem dX1_make_48 : decode cX1_make 48 = .ok (.idiv, 1) := by decide +kernel
theorem dX1_make_49 : decode cX1_make 49 = .ok (.bipush 64, 2) := by decide +kernel
theorem dX1_make_51 : decode cX1_make 51 = .ok (.irem, 1) := by decide +kernel
theorem dX1_make_52 : decode cX1_make 52 = .ok (.istore_n 3, 1) := by decide +kernel
theorem dX1_make_53 : decode cX1_make 53 = .ok (.iload_n 1, 1) := by decide +kernel
theorem dX1_make_54 : decode cX1_make 54 = .ok (.sipush 4096, 3) := by decide +kernel
theorem dX1_make_57 : decode cX1_make 57 = .ok (.idiv, 1) := by decide +kernel
theorem dX1_make_58 : decode cX1_make 58 = .ok (.istore 4, 2) := by decide +kernel
theorem dX1_make_60 : decode cX1_make 60 = .ok (.aload_n 0, 1) := by decide +kernel
theorem dX1_make_61 : decode cX1_make 61 = .ok (.getfield 7, 3) := by decide +kernel
theorem dX1_make_64 : decode cX1_make 64 = .ok (.iload_n 2, 1) := by decide +kernel
theorem dX1_make_65 : decode cX1_make 65 = .ok (.iaload, 1) := by decide +kernel
theorem dX1_make_66 : decode cX1_make 66 = .ok (.istore 5, 2) := by decide +kernel
theorem dX1_make_68 : decode cX1_make 68 = .ok (.iload 5, 2) := by decide +kernel
theorem dX1_make_70 : decode cX1_make 70 = .ok (.invokestatic 61, 3) := by decide +kernel
theorem dX1_make_73 : decode cX1_make 73 = .ok (.iconst 1, 1) := by decide +kernel
theorem dX1_make_74 : decode cX1_make 74 = .ok (.if_icmp .ne 7, 3) := by decide +kernel
theorem dX1_make_77 : decode cX1_make 77 = .ok (.iconst 1, 1) := by decide +kernel
theorem dX1_make_78 : decode cX1_make 78 = .ok (.goto 4, 3) := by decide +kernel
