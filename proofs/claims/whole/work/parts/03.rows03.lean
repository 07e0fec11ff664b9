theorem dX0_secondRankOf_5 : decode cX0_secondRankOf 5 = .ok (.goto 5, 3) := by decide +kernel
theorem dX0_secondRankOf_8 : decode cX0_secondRankOf 8 = .ok (.bipush 6, 2) := by decide +kernel
theorem dX0_secondRankOf_10 : decode cX0_secondRankOf 10 = .ok (.ireturn, 1) := by decide +kernel
theorem dX0_lastRankOf_0 : decode cX0_lastRankOf 0 = .ok (.iload_n 0, 1) := by decide +kernel
theorem dX0_lastRankOf_1 : decode cX0_lastRankOf 1 = .ok (.ifCond .ne 8, 3) := by decide +kernel
theorem dX0_lastRankOf_4 : decode cX0_lastRankOf 4 = .ok (.bipush 7, 2) := by decide +kernel
theorem dX0_lastRankOf_6 : decode cX0_lastRankOf 6 = .ok (.goto 4, 3) := by decide +kernel
theorem dX0_lastRankOf_9 : decode cX0_lastRankOf 9 = .ok (.iconst 0, 1) := by decide +kernel
theorem dX0_lastRankOf_10 : decode cX0_lastRankOf 10 = .ok (.ireturn, 1) := by decide +kernel
theorem dX0_homeOfKing_0 : decode cX0_homeOfKing 0 = .ok (.iload_n 0, 1) := by decide +kernel
theorem dX0_homeOfKing_1 : decode cX0_homeOfKing 1 = .ok (.ifCond .ne 7, 3) := by decide +kernel
theorem dX0_homeOfKing_4 : decode cX0_homeOfKing 4 = .ok (.iconst 4, 1) := by decide +kernel
theorem dX0_homeOfKing_5 : decode cX0_homeOfKing 5 = .ok (.goto 5, 3) := by decide +kernel
theorem dX0_homeOfKing_8 : decode cX0_homeOfKing 8 = .ok (.bipush 60, 2) := by decide +kernel
theorem dX0_homeOfKing_10 : decode cX0_homeOfKing 10 = .ok (.ireturn, 1) := by decide +kernel
theorem dX0_pieceOf_0 : decode cX0_pieceOf 0 = .ok (.iload_n 0, 1) := by decide +kernel
theorem dX0_pieceOf_1 : decode cX0_pieceOf 1 = .ok (.bipush 6, 2) := by decide +kernel
theorem dX0_pieceOf_3 : decode cX0_pieceOf 3 = .ok (.iload_n 1, 1) := by decide +kernel
theorem dX0_pieceOf_4 : decode cX0_pieceOf 4 = .ok (.imul, 1) := by decide +kernel
theorem dX0_pieceOf_5 : decode cX0_pieceOf 5 = .ok (.iadd, 1) := by decide +kernel
theorem dX0_pieceOf_6 : decode cX0_pieceOf 6 = .ok (.ireturn, 1) := by decide +kernel
theorem dX0_typeOf_0 : decode cX0_typeOf 0 = .ok (.iload_n 0, 1) := by decide +kernel
theorem dX0_typeOf_1 : decode cX0_typeOf 1 = .ok (.bipush 6, 2) := by decide +kernel
theorem dX0_typeOf_3 : decode cX0_typeOf 3 = .ok (.if_icmp .le 10, 3) := by decide +kernel
theorem dX0_typeOf_6 : decode cX0_typeOf 6 = .ok (.iload_n 0, 1) := by decide +kernel
theorem dX0_typeOf_7 : decode cX0_typeOf 7 = .ok (.bipush 6, 2) := by decide +kernel
theorem dX0_typeOf_9 : decode cX0_typeOf 9 = .ok (.isub, 1) := by decide +kernel
theorem dX0_typeOf_10 : decode cX0_typeOf 10 = .ok (.goto 4, 3) := by decide +kernel
theorem dX0_typeOf_13 : decode cX0_typeOf 13 = .ok (.iload_n 0, 1) := by decide +kernel
theorem dX0_typeOf_14 : decode cX0_typeOf 14 = .ok (.ireturn, 1) := by decide +kernel
theorem dX0_sideOf_0 : decode cX0_sideOf 0 = .ok (.iload_n 0, 1) := by decide +kernel
theorem dX0_sideOf_1 : decode cX0_sideOf 1 = .ok (.ifCond .ne 5, 3) := by decide +kernel
theorem dX0_sideOf_4 : decode cX0_sideOf 4 = .ok (.iconst (-1), 1) := by decide +kernel
theorem dX0_sideOf_5 : decode cX0_sideOf 5 = .ok (.ireturn, 1) := by decide +kernel
theorem dX0_sideOf_6 : decode cX0_sideOf 6 = .ok (.iload_n 0, 1) := by decide +kernel
theorem dX0_sideOf_7 : decode cX0_sideOf 7 = .ok (.bipush 6, 2) := by decide +kernel
theorem dX0_sideOf_9 : decode cX0_sideOf 9 = .ok (.if_icmp .le 7, 3) := by decide +kernel
theorem dX0_sideOf_12 : decode cX0_sideOf 12 = .ok (.iconst 1, 1) := by decide +kernel
theorem dX0_sideOf_13 : decode cX0_sideOf 13 = .ok (.goto 4, 3) := by decide +kernel
theorem dX0_sideOf_16 : decode cX0_sideOf 16 = .ok (.iconst 0, 1) := by decide +kernel
theorem dX0_sideOf_17 : decode cX0_sideOf 17 = .ok (.ireturn, 1) := by decide +kernel
theorem dX0_worthOf_0 : decode cX0_worthOf 0 = .ok (.iload_n 0, 1) := by decide +kernel
theorem dX0_worthOf_1 : decode cX0_worthOf 1 = .ok (.tableswitch 44 1 5 #[35, 37, 37, 39, 41], 35) := by decide +kernel
theorem dX0_worthOf_36 : decode cX0_worthOf 36 = .ok (.iconst 1, 1) := by decide +kernel
theorem dX0_worthOf_37 : decode cX0_worthOf 37 = .ok (.ireturn, 1) := by decide +kernel
theorem dX0_worthOf_38 : decode cX0_worthOf 38 = .ok (.iconst 3, 1) := by decide +kernel
theorem dX0_worthOf_39 : decode cX0_worthOf 39 = .ok (.ireturn, 1) := by decide +kernel
theorem dX0_worthOf_40 : decode cX0_worthOf 40 = .ok (.iconst 5, 1) := by decide +kernel
theorem dX0_worthOf_41 : decode cX0_worthOf 41 = .ok (.ireturn, 1) := by decide +kernel
theorem dX0_worthOf_42 : decode cX0_worthOf 42 = .ok (.bipush 9, 2) := by decide +kernel
theorem dX0_worthOf_44 : decode cX0_worthOf 44 = .ok (.ireturn, 1) := by decide +kernel
theorem dX0_worthOf_45 : decode cX0_worthOf 45 = .ok (.iconst 0, 1) := by decide +kernel
theorem dX0_worthOf_46 : decode cX0_worthOf 46 = .ok (.ireturn, 1) := by decide +kernel
set_option maxRecDepth 20000 in
theorem ggX0_rightsOfKing_X0_typeOf : GoodIn wsX0_rightsOfKing wsX0_typeOf := goodIn_r _ [4] (by decide +kernel) (by decide +kernel)
set_option maxRecDepth 20000 in
theorem gX0_rightsOfKing_X0_typeOf : GoodIn wsX0_rightsOfKing (va_wsS RX0 108 yX0_typeOf wsX0_typeOf) := goodIn_app (goodIn_of _ (by decide +kernel)) ggX0_rightsOfKing_X0_typeOf
set_option maxRecDepth 20000 in
theorem ggX0_rightsOfKing_X0_sideOf : GoodIn wsX0_rightsOfKing wsX0_sideOf := goodIn_r _ [7] (by decide +kernel) (by decide +kernel)
set_option maxRecDepth 20000 in
theorem gX0_rightsOfKing_X0_sideOf : GoodIn wsX0_rightsOfKing (va_wsS RX0 105 yX0_sideOf wsX0_sideOf) := goodIn_app (goodIn_of _ (by decide +kernel)) ggX0_rightsOfKing_X0_sideOf
theorem dX0_rightsOfKing_0 : decode cX0_rightsOfKing 0 = .ok (.iload_n 0, 1) := by decide +kernel
theorem dX0_rightsOfKing_1 : decode cX0_rightsOfKing 1 = .ok (.invokestatic 108, 3) := by decide +kernel
theorem dX0_rightsOfKing_4 : decode cX0_rightsOfKing 4 = .ok (.bipush 6, 2) := by decide +kernel
theorem dX0_rightsOfKing_6 : decode cX0_rightsOfKing 6 = .ok (.if_icmp .eq 5, 3) := by decide +kernel
theorem dX0_rightsOfKing_9 : decode cX0_rightsOfKing 9 = .ok (.iconst 0, 1) := by decide +kernel
theorem dX0_rightsOfKing_10 : decode cX0_rightsOfKing 10 = .ok (.ireturn, 1) := by decide +kernel
theorem dX0_rightsOfKing_11 : decode cX0_rightsOfKing 11 = .ok (.iload_n 0, 1) := by decide +kernel
theorem dX0_rightsOfKing_12 : decode cX0_rightsOfKing 12 = .ok (.invokestatic 105, 3) := by decide +kernel
theorem dX0_rightsOfKing_15 : decode cX0_rightsOfKing 15 = .ok (.ifCond .ne 7, 3) := by decide +kernel
theorem dX0_rightsOfKing_18 : decode cX0_rightsOfKing 18 = .ok (.iconst 3, 1) := by decide +kernel
theorem dX0_rightsOfKing_19 : decode cX0_rightsOfKing 19 = .ok (.goto 5, 3) := by decide +kernel
theorem dX0_rightsOfKing_22 : decode cX0_rightsOfKing 22 = .ok (.bipush 12, 2) := by decide +kernel
theorem dX0_rightsOfKing_24 : decode cX0_rightsOfKing 24 = .ok (.ireturn, 1) := by decide +kernel
theorem dX0_fromOf_0 : decode cX0_fromOf 0 = .ok (.iload_n 0, 1) := by decide +kernel
theorem dX0_fromOf_1 : decode cX0_fromOf 1 = .ok (.bipush 63, 2) := by decide +kernel
theorem dX0_fromOf_3 : decode cX0_fromOf 3 = .ok (.iand, 1) := by decide +kernel
theorem dX0_fromOf_4 : decode cX0_fromOf 4 = .ok (.ireturn, 1) := by decide +kernel
theorem dX0_toOf_0 : decode cX0_toOf 0 = .ok (.iload_n 0, 1) := by decide +kernel
theorem dX0_toOf_1 : decode cX0_toOf 1 = .ok (.bipush 6, 2) := by decide +kernel
theorem dX0_toOf_3 : decode cX0_toOf 3 = .ok (.ishr, 1) := by decide +kernel
theorem dX0_toOf_4 : decode cX0_toOf 4 = .ok (.bipush 63, 2) := by decide +kernel
theorem dX0_toOf_6 : decode cX0_toOf 6 = .ok (.iand, 1) := by decide +kernel
theorem dX0_toOf_7 : decode cX0_toOf 7 = .ok (.ireturn, 1) := by decide +kernel
theorem dX0_kindOf_0 : decode cX0_kindOf 0 = .ok (.iload_n 0, 1) := by decide +kernel
theorem dX0_kindOf_1 : decode cX0_kindOf 1 = .ok (.bipush 12, 2) := by decide +kernel
theorem dX0_kindOf_3 : decode cX0_kindOf 3 = .ok (.ishr, 1) := by decide +kernel
theorem dX0_kindOf_4 : decode cX0_kindOf 4 = .ok (.ireturn, 1) := by decide +kernel
theorem dX0_mixed_0 : decode cX0_mixed 0 = .ok (.lload_n 0, 1) := by decide +kernel
theorem dX0_mixed_1 : decode cX0_mixed 1 = .ok (.ldc2_w 259, 3) := by decide +kernel
theorem dX0_mixed_4 : decode cX0_mixed 4 = .ok (.ladd, 1) := by decide +kernel
theorem dX0_mixed_5 : decode cX0_mixed 5 = .ok (.lstore_n 0, 1) := by decide +kernel
theorem dX0_mixed_6 : decode cX0_mixed 6 = .ok (.lload_n 0, 1) := by decide +kernel
theorem dX0_mixed_7 : decode cX0_mixed 7 = .ok (.lload_n 0, 1) := by decide +kernel
theorem dX0_mixed_8 : decode cX0_mixed 8 = .ok (.bipush 30, 2) := by decide +kernel
theorem dX0_mixed_10 : decode cX0_mixed 10 = .ok (.lushr, 1) := by decide +kernel
theorem dX0_mixed_11 : decode cX0_mixed 11 = .ok (.lxor, 1) := by decide +kernel
theorem dX0_mixed_12 : decode cX0_mixed 12 = .ok (.ldc2_w 261, 3) := by decide +kernel
theorem dX0_mixed_15 : decode cX0_mixed 15 = .ok (.lmul, 1) := by decide +kernel
theorem dX0_mixed_16 : decode cX0_mixed 16 = .ok (.lstore_n 0, 1) := by decide +kernel
theorem dX0_mixed_17 : decode cX0_mixed 17 = .ok (.lload_n 0, 1) := by decide +kernel
theorem dX0_mixed_18 : decode cX0_mixed 18 = .ok (.lload_n 0, 1) := by decide +kernel
theorem dX0_mixed_19 : decode cX0_mixed 19 = .ok (.bipush 27, 2) := by decide +kernel
theorem dX0_mixed_21 : decode cX0_mixed 21 = .ok (.lushr, 1) := by decide +kernel
theorem dX0_mixed_22 : decode cX0_mixed 22 = .ok (.lxor, 1) := by decide +kernel
theorem dX0_mixed_23 : decode cX0_mixed 23 = .ok (.ldc2_w 263, 3) := by decide +kernel
theorem dX0_mixed_26 : decode cX0_mixed 26 = .ok (.lmul, 1) := by decide +kernel
theorem dX0_mixed_27 : decode cX0_mixed 27 = .ok (.lstore_n 0, 1) := by decide +kernel
theorem dX0_mixed_28 : decode cX0_mixed 28 = .ok (.lload_n 0, 1) := by decide +kernel
theorem dX0_mixed_29 : decode cX0_mixed 29 = .ok (.lload_n 0, 1) := by decide +kernel
theorem dX0_mixed_30 : decode cX0_mixed 30 = .ok (.bipush 31, 2) := by decide +kernel
theorem dX0_mixed_32 : decode cX0_mixed 32 = .ok (.lushr, 1) := by decide +kernel
theorem dX0_mixed_33 : decode cX0_mixed 33 = .ok (.lxor, 1) := by decide +kernel
theorem dX0_mixed_34 : decode cX0_mixed 34 = .ok (.lreturn, 1) := by decide +kernel
theorem dX1_init_0 : decode cX1_init 0 = .ok (.aload_n 0, 1) := by decide +kernel
theorem dX1_init_1 : decode cX1_init 1 = .ok (.invokespecial 1, 3) := by decide +kernel
theorem dX1_init_4 : decode cX1_init 4 = .ok (.aload_n 0, 1) := by decide +kernel
theorem dX1_init_5 : decode cX1_init 5 = .ok (.bipush 64, 2) := by decide +kernel
theorem dX1_init_7 : decode cX1_init 7 = .ok (.newarray .int, 2) := by decide +kernel
theorem dX1_init_9 : decode cX1_init 9 = .ok (.putfield 7, 3) := by decide +kernel
theorem dX1_init_12 : decode cX1_init 12 = .ok (.aload_n 0, 1) := by decide +kernel
theorem dX1_init_13 : decode cX1_init 13 = .ok (.iconst (-1), 1) := by decide +kernel
theorem dX1_init_14 : decode cX1_init 14 = .ok (.putfield 13, 3) := by decide +kernel
theorem dX1_init_17 : decode cX1_init 17 = .ok (.aload_n 0, 1) := by decide +kernel
theorem dX1_init_18 : decode cX1_init 18 = .ok (.iconst 1, 1) := by decide +kernel
theorem dX1_init_19 : decode cX1_init 19 = .ok (.putfield 17, 3) := by decide +kernel
theorem dX1_init_22 : decode cX1_init 22 = .ok (.aload_n 0, 1) := by decide +kernel
theorem dX1_init_23 : decode cX1_init 23 = .ok (.sipush 600, 3) := by decide +kernel
theorem dX1_init_26 : decode cX1_init 26 = .ok (.newarray .int, 2) := by decide +kernel
theorem dX1_init_28 : decode cX1_init 28 = .ok (.putfield 20, 3) := by decide +kernel
theorem dX1_init_31 : decode cX1_init 31 = .ok (.aload_n 0, 1) := by decide +kernel
theorem dX1_init_32 : decode cX1_init 32 = .ok (.ldc 23, 2) := by decide +kernel
theorem dX1_init_34 : decode cX1_init 34 = .ok (.newarray .byte, 2) := by decide +kernel
theorem dX1_init_36 : decode cX1_init 36 = .ok (.putfield 24, 3) := by decide +kernel
theorem dX1_init_39 : decode cX1_init 39 = .ok (.aload_n 0, 1) := by decide +kernel
theorem dX1_init_40 : decode cX1_init 40 = .ok (.sipush 3000, 3) := by decide +kernel
theorem dX1_init_43 : decode cX1_init 43 = .ok (.newarray .int, 2) := by decide +kernel
theorem dX1_init_45 : decode cX1_init 45 = .ok (.putfield 28, 3) := by decide +kernel
theorem dX1_init_48 : decode cX1_init 48 = .ok (.return_, 1) := by decide +kernel
theorem dX1_thrown_0 : decode cX1_thrown 0 = .ok (.aload_n 0, 1) := by decide +kernel
theorem dX1_thrown_1 : decode cX1_thrown 1 = .ok (.getfield 31, 3) := by decide +kernel
theorem dX1_thrown_4 : decode cX1_thrown 4 = .ok (.ireturn, 1) := by decide +kernel
theorem dX1_isSquare_0 : decode cX1_isSquare 0 = .ok (.iload_n 0, 1) := by decide +kernel
theorem dX1_isSquare_1 : decode cX1_isSquare 1 = .ok (.ifCond .lt 13, 3) := by decide +kernel
theorem dX1_isSquare_4 : decode cX1_isSquare 4 = .ok (.iload_n 0, 1) := by decide +kernel
theorem dX1_isSquare_5 : decode cX1_isSquare 5 = .ok (.bipush 64, 2) := by decide +kernel
theorem dX1_isSquare_7 : decode cX1_isSquare 7 = .ok (.if_icmp .ge 7, 3) := by decide +kernel
theorem dX1_isSquare_10 : decode cX1_isSquare 10 = .ok (.iconst 1, 1) := by decide +kernel
theorem dX1_isSquare_11 : decode cX1_isSquare 11 = .ok (.goto 4, 3) := by decide +kernel
theorem dX1_isSquare_14 : decode cX1_isSquare 14 = .ok (.iconst 0, 1) := by decide +kernel
theorem dX1_isSquare_15 : decode cX1_isSquare 15 = .ok (.ireturn, 1) := by decide +kernel
theorem dX1_sideOf_0 : decode cX1_sideOf 0 = .ok (.iload_n 0, 1) := by decide +kernel
theorem dX1_sideOf_1 : decode cX1_sideOf 1 = .ok (.ifCond .ne 7, 3) := by decide +kernel
theorem dX1_sideOf_4 : decode cX1_sideOf 4 = .ok (.iconst (-1), 1) := by decide +kernel
theorem dX1_sideOf_5 : decode cX1_sideOf 5 = .ok (.goto 14, 3) := by decide +kernel
theorem dX1_sideOf_8 : decode cX1_sideOf 8 = .ok (.iload_n 0, 1) := by decide +kernel
theorem dX1_sideOf_9 : decode cX1_sideOf 9 = .ok (.bipush 7, 2) := by decide +kernel
theorem dX1_sideOf_11 : decode cX1_sideOf 11 = .ok (.if_icmp .ge 7, 3) := by decide +kernel
theorem dX1_sideOf_14 : decode cX1_sideOf 14 = .ok (.iconst 0, 1) := by decide +kernel
theorem dX1_sideOf_15 : decode cX1_sideOf 15 = .ok (.goto 4, 3) := by decide +kernel
theorem dX1_sideOf_18 : decode cX1_sideOf 18 = .ok (.iconst 1, 1) := by decide +kernel
theorem dX1_sideOf_19 : decode cX1_sideOf 19 = .ok (.ireturn, 1) := by decide +kernel
theorem dX1_kindOf_0 : decode cX1_kindOf 0 = .ok (.iload_n 0, 1) := by decide +kernel
theorem dX1_kindOf_1 : decode cX1_kindOf 1 = .ok (.bipush 7, 2) := by decide +kernel
theorem dX1_kindOf_3 : decode cX1_kindOf 3 = .ok (.if_icmp .ge 7, 3) := by decide +kernel
theorem dX1_kindOf_6 : decode cX1_kindOf 6 = .ok (.iload_n 0, 1) := by decide +kernel
theorem dX1_kindOf_7 : decode cX1_kindOf 7 = .ok (.goto 7, 3) := by decide +kernel
theorem dX1_kindOf_10 : decode cX1_kindOf 10 = .ok (.iload_n 0, 1) := by decide +kernel
theorem dX1_kindOf_11 : decode cX1_kindOf 11 = .ok (.bipush 6, 2) := by decide +kernel
theorem dX1_kindOf_13 : decode cX1_kindOf 13 = .ok (.isub, 1) := by decide +kernel
theorem dX1_kindOf_14 : decode cX1_kindOf 14 = .ok (.ireturn, 1) := by decide +kernel
theorem dX1_apart_0 : decode cX1_apart 0 = .ok (.iload_n 0, 1) := by decide +kernel
theorem dX1_apart_1 : decode cX1_apart 1 = .ok (.iload_n 1, 1) := by decide +kernel
theorem dX1_apart_2 : decode cX1_apart 2 = .ok (.if_icmp .le 9, 3) := by decide +kernel
theorem dX1_apart_5 : decode cX1_apart 5 = .ok (.iload_n 0, 1) := by decide +kernel
theorem dX1_apart_6 : decode cX1_apart 6 = .ok (.iload_n 1, 1) := by decide +kernel
theorem dX1_apart_7 : decode cX1_apart 7 = .ok (.isub, 1) := by decide +kernel
theorem dX1_apart_8 : decode cX1_apart 8 = .ok (.goto 6, 3) := by decide +kernel
theorem dX1_apart_11 : decode cX1_apart 11 = .ok (.iload_n 1, 1) := by decide +kernel
theorem dX1_apart_12 : decode cX1_apart 12 = .ok (.iload_n 0, 1) := by decide +kernel
theorem dX1_apart_13 : decode cX1_apart 13 = .ok (.isub, 1) := by decide +kernel
theorem dX1_apart_14 : decode cX1_apart 14 = .ok (.ireturn, 1) := by decide +kernel
theorem dX1_clear_0 : decode cX1_clear 0 = .ok (.aload_n 0, 1) := by decide +kernel
theorem dX1_clear_1 : decode cX1_clear 1 = .ok (.iconst 0, 1) := by decide +kernel
theorem dX1_clear_2 : decode cX1_clear 2 = .ok (.putfield 31, 3) := by decide +kernel
theorem dX1_clear_5 : decode cX1_clear 5 = .ok (.iconst 0, 1) := by decide +kernel
theorem dX1_clear_6 : decode cX1_clear 6 = .ok (.istore_n 1, 1) := by decide +kernel
theorem dX1_clear_7 : decode cX1_clear 7 = .ok (.iload_n 1, 1) := by decide +kernel
theorem dX1_clear_8 : decode cX1_clear 8 = .ok (.bipush 64, 2) := by decide +kernel
theorem dX1_clear_10 : decode cX1_clear 10 = .ok (.if_icmp .ge 16, 3) := by decide +kernel
theorem dX1_clear_13 : decode cX1_clear 13 = .ok (.aload_n 0, 1) := by decide +kernel
theorem dX1_clear_14 : decode cX1_clear 14 = .ok (.getfield 7, 3) := by decide +kernel
theorem dX1_clear_17 : decode cX1_clear 17 = .ok (.iload_n 1, 1) := by decide +kernel
theorem dX1_clear_18 : decode cX1_clear 18 = .ok (.iconst 0, 1) := by decide +kernel
theorem dX1_clear_19 : decode cX1_clear 19 = .ok (.iastore, 1) := by decide +kernel
theorem dX1_clear_20 : decode cX1_clear 20 = .ok (.iinc 1 1, 3) := by decide +kernel
theorem dX1_clear_23 : decode cX1_clear 23 = .ok (.goto (-16), 3) := by decide +kernel
theorem dX1_clear_26 : decode cX1_clear 26 = .ok (.aload_n 0, 1) := by decide +kernel
theorem dX1_clear_27 : decode cX1_clear 27 = .ok (.iconst 0, 1) := by decide +kernel
theorem dX1_clear_28 : decode cX1_clear 28 = .ok (.putfield 34, 3) := by decide +kernel
theorem dX1_clear_31 : decode cX1_clear 31 = .ok (.aload_n 0, 1) := by decide +kernel
theorem dX1_clear_32 : decode cX1_clear 32 = .ok (.iconst 0, 1) := by decide +kernel
theorem dX1_clear_33 : decode cX1_clear 33 = .ok (.putfield 37, 3) := by decide +kernel
theorem dX1_clear_36 : decode cX1_clear 36 = .ok (.aload_n 0, 1) := by decide +kernel
theorem dX1_clear_37 : decode cX1_clear 37 = .ok (.iconst (-1), 1) := by decide +kernel
theorem dX1_clear_38 : decode cX1_clear 38 = .ok (.putfield 13, 3) := by decide +kernel
theorem dX1_clear_41 : decode cX1_clear 41 = .ok (.aload_n 0, 1) := by decide +kernel
theorem dX1_clear_42 : decode cX1_clear 42 = .ok (.iconst 0, 1) := by decide +kernel
theorem dX1_clear_43 : decode cX1_clear 43 = .ok (.putfield 40, 3) := by decide +kernel
theorem dX1_clear_46 : decode cX1_clear 46 = .ok (.aload_n 0, 1) := by decide +kernel
theorem dX1_clear_47 : decode cX1_clear 47 = .ok (.iconst 1, 1) := by decide +kernel
theorem dX1_clear_48 : decode cX1_clear 48 = .ok (.putfield 17, 3) := by decide +kernel
theorem dX1_clear_51 : decode cX1_clear 51 = .ok (.aload_n 0, 1) := by decide +kernel
theorem dX1_clear_52 : decode cX1_clear 52 = .ok (.iconst 0, 1) := by decide +kernel
theorem dX1_clear_53 : decode cX1_clear 53 = .ok (.putfield 43, 3) := by decide +kernel
theorem dX1_clear_56 : decode cX1_clear 56 = .ok (.return_, 1) := by decide +kernel
theorem dX1_home_0 : decode cX1_home 0 = .ok (.iload_n 0, 1) := by decide +kernel
theorem dX1_home_1 : decode cX1_home 1 = .ok (.ifCond .eq 9, 3) := by decide +kernel
theorem dX1_home_4 : decode cX1_home 4 = .ok (.iload_n 0, 1) := by decide +kernel
theorem dX1_home_5 : decode cX1_home 5 = .ok (.bipush 7, 2) := by decide +kernel
theorem dX1_home_7 : decode cX1_home 7 = .ok (.if_icmp .ne 7, 3) := by decide +kernel
theorem dX1_home_10 : decode cX1_home 10 = .ok (.iconst 4, 1) := by decide +kernel
theorem dX1_home_11 : decode cX1_home 11 = .ok (.goto 43, 3) := by decide +kernel
theorem dX1_home_14 : decode cX1_home 14 = .ok (.iload_n 0, 1) := by decide +kernel
theorem dX1_home_15 : decode cX1_home 15 = .ok (.iconst 1, 1) := by decide +kernel
theorem dX1_home_16 : decode cX1_home 16 = .ok (.if_icmp .eq 9, 3) := by decide +kernel
theorem dX1_home_19 : decode cX1_home 19 = .ok (.iload_n 0, 1) := by decide +kernel
theorem dX1_home_20 : decode cX1_home 20 = .ok (.bipush 6, 2) := by decide +kernel
theorem dX1_home_22 : decode cX1_home 22 = .ok (.if_icmp .ne 7, 3) := by decide +kernel
theorem dX1_home_25 : decode cX1_home 25 = .ok (.iconst 2, 1) := by decide +kernel
theorem dX1_home_26 : decode cX1_home 26 = .ok (.goto 28, 3) := by decide +kernel
theorem dX1_home_29 : decode cX1_home 29 = .ok (.iload_n 0, 1) := by decide +kernel
theorem dX1_home_30 : decode cX1_home 30 = .ok (.iconst 2, 1) := by decide +kernel
theorem dX1_home_31 : decode cX1_home 31 = .ok (.if_icmp .eq 8, 3) := by decide +kernel
theorem dX1_home_34 : decode cX1_home 34 = .ok (.iload_n 0, 1) := by decide +kernel
theorem dX1_home_35 : decode cX1_home 35 = .ok (.iconst 5, 1) := by decide +kernel
theorem dX1_home_36 : decode cX1_home 36 = .ok (.if_icmp .ne 7, 3) := by decide +kernel
theorem dX1_home_39 : decode cX1_home 39 = .ok (.iconst 3, 1) := by decide +kernel
theorem dX1_home_40 : decode cX1_home 40 = .ok (.goto 14, 3) := by decide +kernel
theorem dX1_home_43 : decode cX1_home 43 = .ok (.iload_n 0, 1) := by decide +kernel
theorem dX1_home_44 : decode cX1_home 44 = .ok (.iconst 3, 1) := by decide +kernel
theorem dX1_home_45 : decode cX1_home 45 = .ok (.if_icmp .ne 7, 3) := by decide +kernel
theorem dX1_home_48 : decode cX1_home 48 = .ok (.iconst 5, 1) := by decide +kernel
theorem dX1_home_49 : decode cX1_home 49 = .ok (.goto 5, 3) := by decide +kernel
theorem dX1_home_52 : decode cX1_home 52 = .ok (.bipush 6, 2) := by decide +kernel
theorem dX1_home_54 : decode cX1_home 54 = .ok (.ireturn, 1) := by decide +kernel
set_option maxRecDepth 20000 in
theorem ggX1_begin_X1_clear : GoodIn wsX1_begin wsX1_clear := goodIn_r _ [7, 8, 1, 9, 2, 10, 11, 12, 13, 17, 18, 19, 20, 21, 22, 23, 24, 25, 26, 27] (by decide +kernel) (by decide +kernel)
set_option maxRecDepth 20000 in
theorem gX1_begin_X1_clear : GoodIn wsX1_begin (wsV RX1 46 RX1 yX1_clear wsX1_clear) := goodIn_app (goodIn_of _ (by decide +kernel)) ggX1_begin_X1_clear
set_option maxRecDepth 20000 in
theorem ggX1_begin_X1_home : GoodIn wsX1_begin wsX1_home := goodIn_r _ [16] (by decide +kernel) (by decide +kernel)
set_option maxRecDepth 20000 in
theorem gX1_begin_X1_home : GoodIn wsX1_begin (va_wsS RX1 49 yX1_home wsX1_home) := goodIn_app (goodIn_of _ (by decide +kernel)) ggX1_begin_X1_home
theorem dX1_begin_0 : decode cX1_begin 0 = .ok (.aload_n 0, 1) := by decide +kernel
theorem dX1_begin_1 : decode cX1_begin 1 = .ok (.invokevirtual 46, 3) := by decide +kernel
theorem dX1_begin_4 : decode cX1_begin 4 = .ok (.iconst 0, 1) := by decide +kernel
theorem dX1_begin_5 : decode cX1_begin 5 = .ok (.istore_n 1, 1) := by decide +kernel
theorem dX1_begin_6 : decode cX1_begin 6 = .ok (.iload_n 1, 1) := by decide +kernel
theorem dX1_begin_7 : decode cX1_begin 7 = .ok (.bipush 8, 2) := by decide +kernel
theorem dX1_begin_9 : decode cX1_begin 9 = .ok (.if_icmp .ge 56, 3) := by decide +kernel
theorem dX1_begin_12 : decode cX1_begin 12 = .ok (.aload_n 0, 1) := by decide +kernel
theorem dX1_begin_13 : decode cX1_begin 13 = .ok (.getfield 7, 3) := by decide +kernel
theorem dX1_begin_16 : decode cX1_begin 16 = .ok (.iload_n 1, 1) := by decide +kernel
theorem dX1_begin_17 : decode cX1_begin 17 = .ok (.iload_n 1, 1) := by decide +kernel
theorem dX1_begin_18 : decode cX1_begin 18 = .ok (.invokestatic 49, 3) := by decide +kernel
theorem dX1_begin_21 : decode cX1_begin 21 = .ok (.iastore, 1) := by decide +kernel
theorem dX1_begin_22 : decode cX1_begin 22 = .ok (.aload_n 0, 1) := by decide +kernel
theorem dX1_begin_23 : decode cX1_begin 23 = .ok (.getfield 7, 3) := by decide +kernel
theorem dX1_begin_26 : decode cX1_begin 26 = .ok (.bipush 8, 2) := by decide +kernel
theorem dX1_begin_28 : decode cX1_begin 28 = .ok (.iload_n 1, 1) := by decide +kernel
theorem dX1_begin_29 : decode cX1_begin 29 = .ok (.iadd, 1) := by decide +kernel
theorem dX1_begin_30 : decode cX1_begin 30 = .ok (.iconst 1, 1) := by decide +kernel
theorem dX1_begin_31 : decode cX1_begin 31 = .ok (.iastore, 1) := by decide +kernel
theorem dX1_begin_32 : decode cX1_begin 32 = .ok (.aload_n 0, 1) := by decide +kernel
theorem dX1_begin_33 : decode cX1_begin 33 = .ok (.getfield 7, 3) := by decide +kernel
theorem dX1_begin_36 : decode cX1_begin 36 = .ok (.bipush 48, 2) := by decide +kernel
theorem dX1_begin_38 : decode cX1_begin 38 = .ok (.iload_n 1, 1) := by decide +kernel
theorem dX1_begin_39 : decode cX1_begin 39 = .ok (.iadd, 1) := by decide +kernel
theorem dX1_begin_40 : decode cX1_begin 40 = .ok (.bipush 7, 2) := by decide +kernel
theorem dX1_begin_42 : decode cX1_begin 42 = .ok (.iastore, 1) := by decide +kernel
theorem dX1_begin_43 : decode cX1_begin 43 = .ok (.aload_n 0, 1) := by decide +kernel
theorem dX1_begin_44 : decode cX1_begin 44 = .ok (.getfield 7, 3) := by decide +kernel
theorem dX1_begin_47 : decode cX1_begin 47 = .ok (.bipush 56, 2) := by decide +kernel
theorem dX1_begin_49 : decode cX1_begin 49 = .ok (.iload_n 1, 1) := by decide +kernel
theorem dX1_begin_50 : decode cX1_begin 50 = .ok (.iadd, 1) := by decide +kernel
theorem dX1_begin_51 : decode cX1_begin 51 = .ok (.bipush 6, 2) := by decide +kernel
theorem dX1_begin_53 : decode cX1_begin 53 = .ok (.iload_n 1, 1) := by decide +kernel
theorem dX1_begin_54 : decode cX1_begin 54 = .ok (.invokestatic 49, 3) := by decide +kernel
theorem dX1_begin_57 : decode cX1_begin 57 = .ok (.iadd, 1) := by decide +kernel
theorem dX1_begin_58 : decode cX1_begin 58 = .ok (.iastore, 1) := by decide +kernel
theorem dX1_begin_59 : decode cX1_begin 59 = .ok (.iinc 1 1, 3) := by decide +kernel
theorem dX1_begin_62 : decode cX1_begin 62 = .ok (.goto (-56), 3) := by decide +kernel
theorem dX1_begin_65 : decode cX1_begin 65 = .ok (.aload_n 0, 1) := by decide +kernel
theorem dX1_begin_66 : decode cX1_begin 66 = .ok (.bipush 15, 2) := by decide +kernel
theorem dX1_begin_68 : decode cX1_begin 68 = .ok (.putfield 37, 3) := by decide +kernel
theorem dX1_begin_71 : decode cX1_begin 71 = .ok (.return_, 1) := by decide +kernel
theorem dX1_pieces_0 : decode cX1_pieces 0 = .ok (.iconst 0, 1) := by decide +kernel
theorem dX1_pieces_1 : decode cX1_pieces 1 = .ok (.istore_n 1, 1) := by decide +kernel
theorem dX1_pieces_2 : decode cX1_pieces 2 = .ok (.iconst 0, 1) := by decide +kernel
theorem dX1_pieces_3 : decode cX1_pieces 3 = .ok (.istore_n 2, 1) := by decide +kernel
theorem dX1_pieces_4 : decode cX1_pieces 4 = .ok (.iload_n 2, 1) := by decide +kernel
theorem dX1_pieces_5 : decode cX1_pieces 5 = .ok (.bipush 64, 2) := by decide +kernel
theorem dX1_pieces_7 : decode cX1_pieces 7 = .ok (.if_icmp .ge 26, 3) := by decide +kernel
theorem dX1_pieces_10 : decode cX1_pieces 10 = .ok (.iload_n 1, 1) := by decide +kernel
theorem dX1_pieces_11 : decode cX1_pieces 11 = .ok (.aload_n 0, 1) := by decide +kernel
theorem dX1_pieces_12 : decode cX1_pieces 12 = .ok (.getfield 7, 3) := by decide +kernel
theorem dX1_pieces_15 : decode cX1_pieces 15 = .ok (.iload_n 2, 1) := by decide +kernel
theorem dX1_pieces_16 : decode cX1_pieces 16 = .ok (.iaload, 1) := by decide +kernel
theorem dX1_pieces_17 : decode cX1_pieces 17 = .ok (.ifCond .le 7, 3) := by decide +kernel
theorem dX1_pieces_20 : decode cX1_pieces 20 = .ok (.iconst 1, 1) := by decide +kernel
theorem dX1_pieces_21 : decode cX1_pieces 21 = .ok (.goto 4, 3) := by decide +kernel
theorem dX1_pieces_24 : decode cX1_pieces 24 = .ok (.iconst 0, 1) := by decide +kernel
theorem dX1_pieces_25 : decode cX1_pieces 25 = .ok (.iadd, 1) := by decide +kernel
theorem dX1_pieces_26 : decode cX1_pieces 26 = .ok (.istore_n 1, 1) := by decide +kernel
theorem dX1_pieces_27 : decode cX1_pieces 27 = .ok (.iinc 2 1, 3) := by decide +kernel
theorem dX1_pieces_30 : decode cX1_pieces 30 = .ok (.goto (-26), 3) := by decide +kernel
theorem dX1_pieces_33 : decode cX1_pieces 33 = .ok (.iload_n 1, 1) := by decide +kernel
theorem dX1_pieces_34 : decode cX1_pieces 34 = .ok (.ireturn, 1) := by decide +kernel
set_option maxRecDepth 20000 in
theorem ggX1_put_X1_isSquare : GoodIn wsX1_put wsX1_isSquare := goodIn_r _ [7] (by decide +kernel) (by decide +kernel)
set_option maxRecDepth 20000 in
theorem gX1_put_X1_isSquare : GoodIn wsX1_put (va_wsS RX1 53 yX1_isSquare wsX1_isSquare) := goodIn_app (goodIn_of _ (by decide +kernel)) ggX1_put_X1_isSquare
set_option maxRecDepth 20000 in
theorem ggX1_put_X1_pieces : GoodIn wsX1_put wsX1_pieces := goodIn_r _ [11, 2, 12, 13, 14, 15, 16, 17, 18, 19, 20, 21, 22] (by decide +kernel) (by decide +kernel)
set_option maxRecDepth 20000 in
theorem gX1_put_X1_pieces : GoodIn wsX1_put (wsV RX1 57 RX1 yX1_pieces wsX1_pieces) := goodIn_app (goodIn_of _ (by decide +kernel)) ggX1_put_X1_pieces
theorem dX1_put_0 : decode cX1_put 0 = .ok (.aload_n 0, 1) := by decide +kernel
theorem dX1_put_1 : decode cX1_put 1 = .ok (.iload_n 1, 1) := by decide +kernel
theorem dX1_put_2 : decode cX1_put 2 = .ok (.invokestatic 53, 3) := by decide +kernel
theorem dX1_put_5 : decode cX1_put 5 = .ok (.ifCond .ne 7, 3) := by decide +kernel
theorem dX1_put_8 : decode cX1_put 8 = .ok (.iconst 1, 1) := by decide +kernel
theorem dX1_put_9 : decode cX1_put 9 = .ok (.goto 18, 3) := by decide +kernel
theorem dX1_put_12 : decode cX1_put 12 = .ok (.iload_n 2, 1) := by decide +kernel
theorem dX1_put_13 : decode cX1_put 13 = .ok (.ifCond .lt 9, 3) := by decide +kernel
theorem dX1_put_16 : decode cX1_put 16 = .ok (.iload_n 2, 1) := by decide +kernel
theorem dX1_put_17 : decode cX1_put 17 = .ok (.bipush 12, 2) := by decide +kernel
theorem dX1_put_19 : decode cX1_put 19 = .ok (.if_icmp .le 7, 3) := by decide +kernel
theorem dX1_put_22 : decode cX1_put 22 = .ok (.iconst 2, 1) := by decide +kernel
theorem dX1_put_23 : decode cX1_put 23 = .ok (.goto 4, 3) := by decide +kernel
theorem dX1_put_26 : decode cX1_put 26 = .ok (.iconst 0, 1) := by decide +kernel
theorem dX1_put_27 : decode cX1_put 27 = .ok (.putfield 31, 3) := by decide +kernel
theorem dX1_put_30 : decode cX1_put 30 = .ok (.aload_n 0, 1) := by decide +kernel
theorem dX1_put_31 : decode cX1_put 31 = .ok (.getfield 31, 3) := by decide +kernel
theorem dX1_put_34 : decode cX1_put 34 = .ok (.ifCond .le 4, 3) := by decide +kernel
theorem dX1_put_37 : decode cX1_put 37 = .ok (.return_, 1) := by decide +kernel
theorem dX1_put_38 : decode cX1_put 38 = .ok (.aload_n 0, 1) := by decide +kernel
theorem dX1_put_39 : decode cX1_put 39 = .ok (.iload_n 2, 1) := by decide +kernel
theorem dX1_put_40 : decode cX1_put 40 = .ok (.ifCond .le 25, 3) := by decide +kernel
theorem dX1_put_43 : decode cX1_put 43 = .ok (.aload_n 0, 1) := by decide +kernel
theorem dX1_put_44 : decode cX1_put 44 = .ok (.getfield 7, 3) := by decide +kernel
theorem dX1_put_47 : decode cX1_put 47 = .ok (.iload_n 1, 1) := by decide +kernel
theorem dX1_put_48 : decode cX1_put 48 = .ok (.iaload, 1) := by decide +kernel
theorem dX1_put_49 : decode cX1_put 49 = .ok (.ifCond .ne 16, 3) := by decide +kernel
theorem dX1_put_52 : decode cX1_put 52 = .ok (.aload_n 0, 1) := by decide +kernel
theorem dX1_put_53 : decode cX1_put 53 = .ok (.invokevirtual 57, 3) := by decide +kernel
theorem dX1_put_56 : decode cX1_put 56 = .ok (.bipush 32, 2) := by decide +kernel
theorem dX1_put_58 : decode cX1_put 58 = .ok (.if_icmp .ne 7, 3) := by decide +kernel
theorem dX1_put_61 : decode cX1_put 61 = .ok (.iconst 3, 1) := by decide +kernel
theorem dX1_put_62 : decode cX1_put 62 = .ok (.goto 4, 3) := by decide +kernel
theorem dX1_put_65 : decode cX1_put 65 = .ok (.iconst 0, 1) := by decide +kernel
theorem dX1_put_66 : decode cX1_put 66 = .ok (.putfield 31, 3) := by decide +kernel
theorem dX1_put_69 : decode cX1_put 69 = .ok (.aload_n 0, 1) := by decide +kernel
theorem dX1_put_70 : decode cX1_put 70 = .ok (.getfield 31, 3) := by decide +kernel
theorem dX1_put_73 : decode cX1_put 73 = .ok (.ifCond .le 4, 3) := by decide +kernel
theorem dX1_put_76 : decode cX1_put 76 = .ok (.return_, 1) := by decide +kernel
theorem dX1_put_77 : decode cX1_put 77 = .ok (.aload_n 0, 1) := by decide +kernel
theorem dX1_put_78 : decode cX1_put 78 = .ok (.getfield 7, 3) := by decide +kernel
theorem dX1_put_81 : decode cX1_put 81 = .ok (.iload_n 1, 1) := by decide +kernel
theorem dX1_put_82 : decode cX1_put 82 = .ok (.iload_n 2, 1) := by decide +kernel
theorem dX1_put_83 : decode cX1_put 83 = .ok (.iastore, 1) := by decide +kernel
theorem dX1_put_84 : decode cX1_put 84 = .ok (.aload_n 0, 1) := by decide +kernel
theorem dX1_put_85 : decode cX1_put 85 = .ok (.iconst 0, 1) := by decide +kernel
theorem dX1_put_86 : decode cX1_put 86 = .ok (.putfield 43, 3) := by decide +kernel
theorem dX1_put_89 : decode cX1_put 89 = .ok (.return_, 1) := by decide +kernel
theorem dX1_state_0 : decode cX1_state 0 = .ok (.aload_n 0, 1) := by decide +kernel
theorem dX1_state_1 : decode cX1_state 1 = .ok (.iload_n 1, 1) := by decide +kernel
theorem dX1_state_2 : decode cX1_state 2 = .ok (.ifCond .lt 29, 3) := by decide +kernel
theorem dX1_state_5 : decode cX1_state 5 = .ok (.iload_n 1, 1) := by decide +kernel
theorem dX1_state_6 : decode cX1_state 6 = .ok (.iconst 1, 1) := by decide +kernel
theorem dX1_state_7 : decode cX1_state 7 = .ok (.if_icmp .gt 24, 3) := by decide +kernel
theorem dX1_state_10 : decode cX1_state 10 = .ok (.iload_n 2, 1) := by decide +kernel
theorem dX1_state_11 : decode cX1_state 11 = .ok (.ifCond .lt 20, 3) := by decide +kernel
theorem dX1_state_14 : decode cX1_state 14 = .ok (.iload_n 2, 1) := by decide +kernel
theorem dX1_state_15 : decode cX1_state 15 = .ok (.bipush 15, 2) := by decide +kernel
theorem dX1_state_17 : decode cX1_state 17 = .ok (.if_icmp .gt 14, 3) := by decide +kernel
theorem dX1_state_20 : decode cX1_state 20 = .ok (.iload_n 3, 1) := by decide +kernel
theorem dX1_state_21 : decode cX1_state 21 = .ok (.iconst (-1), 1) := by decide +kernel
theorem dX1_state_22 : decode cX1_state 22 = .ok (.if_icmp .lt 9, 3) := by decide +kernel
theorem dX1_state_25 : decode cX1_state 25 = .ok (.iload_n 3, 1) := by decide +kernel
theorem dX1_state_26 : decode cX1_state 26 = .ok (.bipush 63, 2) := by decide +kernel
theorem dX1_state_28 : decode cX1_state 28 = .ok (.if_icmp .le 7, 3) := by decide +kernel
theorem dX1_state_31 : decode cX1_state 31 = .ok (.iconst 1, 1) := by decide +kernel
theorem dX1_state_32 : decode cX1_state 32 = .ok (.goto 4, 3) := by decide +kernel
theorem dX1_state_35 : decode cX1_state 35 = .ok (.iconst 0, 1) := by decide +kernel
theorem dX1_state_36 : decode cX1_state 36 = .ok (.putfield 31, 3) := by decide +kernel
theorem dX1_state_39 : decode cX1_state 39 = .ok (.aload_n 0, 1) := by decide +kernel
theorem dX1_state_40 : decode cX1_state 40 = .ok (.getfield 31, 3) := by decide +kernel
theorem dX1_state_43 : decode cX1_state 43 = .ok (.ifCond .le 4, 3) := by decide +kernel
theorem dX1_state_46 : decode cX1_state 46 = .ok (.return_, 1) := by decide +kernel
theorem dX1_state_47 : decode cX1_state 47 = .ok (.aload_n 0, 1) := by decide +kernel
theorem dX1_state_48 : decode cX1_state 48 = .ok (.iload_n 1, 1) := by decide +kernel
theorem dX1_state_49 : decode cX1_state 49 = .ok (.putfield 34, 3) := by decide +kernel
theorem dX1_state_52 : decode cX1_state 52 = .ok (.aload_n 0, 1) := by decide +kernel
theorem dX1_state_53 : decode cX1_state 53 = .ok (.iload_n 2, 1) := by decide +kernel
theorem dX1_state_54 : decode cX1_state 54 = .ok (.putfield 37, 3) := by decide +kernel
theorem dX1_state_57 : decode cX1_state 57 = .ok (.aload_n 0, 1) := by decide +kernel
theorem dX1_state_58 : decode cX1_state 58 = .ok (.iload_n 3, 1) := by decide +kernel
theorem dX1_state_59 : decode cX1_state 59 = .ok (.putfield 13, 3) := by decide +kernel
theorem dX1_state_62 : decode cX1_state 62 = .ok (.aload_n 0, 1) := by decide +kernel
theorem dX1_state_63 : decode cX1_state 63 = .ok (.iconst 0, 1) := by decide +kernel
theorem dX1_state_64 : decode cX1_state 64 = .ok (.putfield 43, 3) := by decide +kernel
theorem dX1_state_67 : decode cX1_state 67 = .ok (.return_, 1) := by decide +kernel
theorem dX1_clocks_0 : decode cX1_clocks 0 = .ok (.aload_n 0, 1) := by decide +kernel
theorem dX1_clocks_1 : decode cX1_clocks 1 = .ok (.iload_n 1, 1) := by decide +kernel
theorem dX1_clocks_2 : decode cX1_clocks 2 = .ok (.ifCond .lt 22, 3) := by decide +kernel
theorem dX1_clocks_5 : decode cX1_clocks 5 = .ok (.iload_n 1, 1) := by decide +kernel
theorem dX1_clocks_6 : decode cX1_clocks 6 = .ok (.sipush 9999, 3) := by decide +kernel
theorem dX1_clocks_9 : decode cX1_clocks 9 = .ok (.if_icmp .gt 15, 3) := by decide +kernel
theorem dX1_clocks_12 : decode cX1_clocks 12 = .ok (.iload_n 2, 1) := by decide +kernel
theorem dX1_clocks_13 : decode cX1_clocks 13 = .ok (.iconst 1, 1) := by decide +kernel
theorem dX1_clocks_14 : decode cX1_clocks 14 = .ok (.if_icmp .lt 10, 3) := by decide +kernel
theorem dX1_clocks_17 : decode cX1_clocks 17 = .ok (.iload_n 2, 1) := by decide +kernel
theorem dX1_clocks_18 : decode cX1_clocks 18 = .ok (.sipush 9999, 3) := by decide +kernel
theorem dX1_clocks_21 : decode cX1_clocks 21 = .ok (.if_icmp .le 7, 3) := by decide +kernel
theorem dX1_clocks_24 : decode cX1_clocks 24 = .ok (.iconst 1, 1) := by decide +kernel
theorem dX1_clocks_25 : decode cX1_clocks 25 = .ok (.goto 4, 3) := by decide +kernel
theorem dX1_clocks_28 : decode cX1_clocks 28 = .ok (.iconst 0, 1) := by decide +kernel
theorem dX1_clocks_29 : decode cX1_clocks 29 = .ok (.putfield 31, 3) := by decide +kernel
theorem dX1_clocks_32 : decode cX1_clocks 32 = .ok (.aload_n 0, 1) := by decide +kernel
theorem dX1_clocks_33 : decode cX1_clocks 33 = .ok (.getfield 31, 3) := by decide +kernel
theorem dX1_clocks_36 : decode cX1_clocks 36 = .ok (.ifCond .le 4, 3) := by decide +kernel
theorem dX1_clocks_39 : decode cX1_clocks 39 = .ok (.return_, 1) := by decide +kernel
theorem dX1_clocks_40 : decode cX1_clocks 40 = .ok (.aload_n 0, 1) := by decide +kernel
theorem dX1_clocks_41 : decode cX1_clocks 41 = .ok (.iload_n 1, 1) := by decide +kernel
theorem dX1_clocks_42 : decode cX1_clocks 42 = .ok (.putfield 40, 3) := by decide +kernel
theorem dX1_clocks_45 : decode cX1_clocks 45 = .ok (.aload_n 0, 1) := by decide +kernel
theorem dX1_clocks_46 : decode cX1_clocks 46 = .ok (.iload_n 2, 1) := by decide +kernel
theorem dX1_clocks_47 : decode cX1_clocks 47 = .ok (.putfield 17, 3) := by decide +kernel
theorem dX1_clocks_50 : decode cX1_clocks 50 = .ok (.aload_n 0, 1) := by decide +kernel
theorem dX1_clocks_51 : decode cX1_clocks 51 = .ok (.iconst 0, 1) := by decide +kernel
theorem dX1_clocks_52 : decode cX1_clocks 52 = .ok (.putfield 43, 3) := by decide +kernel
theorem dX1_clocks_55 : decode cX1_clocks 55 = .ok (.return_, 1) := by decide +kernel
theorem dX1_isFree_0 : decode cX1_isFree 0 = .ok (.iload_n 2, 1) := by decide +kernel
theorem dX1_isFree_1 : decode cX1_isFree 1 = .ok (.bipush 8, 2) := by decide +kernel
theorem dX1_isFree_3 : decode cX1_isFree 3 = .ok (.irem, 1) := by decide +kernel
theorem dX1_isFree_4 : decode cX1_isFree 4 = .ok (.iload_n 1, 1) := by decide +kernel
theorem dX1_isFree_5 : decode cX1_isFree 5 = .ok (.bipush 8, 2) := by decide +kernel
theorem dX1_isFree_7 : decode cX1_isFree 7 = .ok (.irem, 1) := by decide +kernel
theorem dX1_isFree_8 : decode cX1_isFree 8 = .ok (.if_icmp .le 7, 3) := by decide +kernel
theorem dX1_isFree_11 : decode cX1_isFree 11 = .ok (.iconst 1, 1) := by decide +kernel
theorem dX1_isFree_12 : decode cX1_isFree 12 = .ok (.goto 19, 3) := by decide +kernel
theorem dX1_isFree_15 : decode cX1_isFree 15 = .ok (.iload_n 2, 1) := by decide +kernel
theorem dX1_isFree_16 : decode cX1_isFree 16 = .ok (.bipush 8, 2) := by decide +kernel
theorem dX1_isFree_18 : decode cX1_isFree 18 = .ok (.irem, 1) := by decide +kernel
theorem dX1_isFree_19 : decode cX1_isFree 19 = .ok (.iload_n 1, 1) := by decide +kernel
theorem dX1_isFree_20 : decode cX1_isFree 20 = .ok (.bipush 8, 2) := by decide +kernel
theorem dX1_isFree_22 : decode cX1_isFree 22 = .ok (.irem, 1) := by decide +kernel
theorem dX1_isFree_23 : decode cX1_isFree 23 = .ok (.if_icmp .ge 7, 3) := by decide +kernel
theorem dX1_isFree_26 : decode cX1_isFree 26 = .ok (.iconst (-1), 1) := by decide +kernel
theorem dX1_isFree_27 : decode cX1_isFree 27 = .ok (.goto 4, 3) := by decide +kernel
theorem dX1_isFree_30 : decode cX1_isFree 30 = .ok (.iconst 0, 1) := by decide +kernel
theorem dX1_isFree_31 : decode cX1_isFree 31 = .ok (.istore_n 3, 1) := by decide +kernel
theorem dX1_isFree_32 : decode cX1_isFree 32 = .ok (.iload_n 2, 1) := by decide +kernel
theorem dX1_isFree_33 : decode cX1_isFree 33 = .ok (.bipush 8, 2) := by decide +kernel
theorem dX1_isFree_35 : decode cX1_isFree 35 = .ok (.idiv, 1) := by decide +kernel
theorem dX1_isFree_36 : decode cX1_isFree 36 = .ok (.iload_n 1, 1) := by decide +kernel
theorem dX1_isFree_37 : decode cX1_isFree 37 = .ok (.bipush 8, 2) := by decide +kernel
theorem dX1_isFree_39 : decode cX1_isFree 39 = .ok (.idiv, 1) := by decide +kernel
theorem dX1_isFree_40 : decode cX1_isFree 40 = .ok (.if_icmp .le 7, 3) := by decide +kernel
theorem dX1_isFree_43 : decode cX1_isFree 43 = .ok (.iconst 1, 1) := by decide +kernel
theorem dX1_isFree_44 : decode cX1_isFree 44 = .ok (.goto 19, 3) := by decide +kernel
theorem dX1_isFree_47 : decode cX1_isFree 47 = .ok (.iload_n 2, 1) := by decide +kernel
theorem dX1_isFree_48 : decode cX1_isFree 48 = .ok (.bipush 8, 2) := by decide +kernel
theorem dX1_isFree_50 : decode cX1_isFree 50 = .ok (.idiv, 1) := by decide +kernel
theorem dX1_isFree_51 : decode cX1_isFree 51 = .ok (.iload_n 1, 1) := by decide +kernel
theorem dX1_isFree_52 : decode cX1_isFree 52 = .ok (.bipush 8, 2) := by decide +kernel
theorem dX1_isFree_54 : decode cX1_isFree 54 = .ok (.idiv, 1) := by decide +kernel
theorem dX1_isFree_55 : decode cX1_isFree 55 = .ok (.if_icmp .ge 7, 3) := by decide +kernel
theorem dX1_isFree_58 : decode cX1_isFree 58 = .ok (.iconst (-1), 1) := by decide +kernel
theorem dX1_isFree_59 : decode cX1_isFree 59 = .ok (.goto 4, 3) := by decide +kernel
theorem dX1_isFree_62 : decode cX1_isFree 62 = .ok (.iconst 0, 1) := by decide +kernel
theorem dX1_isFree_63 : decode cX1_isFree 63 = .ok (.istore 4, 2) := by decide +kernel
theorem dX1_isFree_65 : decode cX1_isFree 65 = .ok (.iconst 1, 1) := by decide +kernel
theorem dX1_isFree_66 : decode cX1_isFree 66 = .ok (.istore 5, 2) := by decide +kernel
theorem dX1_isFree_68 : decode cX1_isFree 68 = .ok (.iload_n 1, 1) := by decide +kernel
theorem dX1_isFree_69 : decode cX1_isFree 69 = .ok (.bipush 8, 2) := by decide +kernel
theorem dX1_isFree_71 : decode cX1_isFree 71 = .ok (.iload 4, 2) := by decide +kernel
theorem dX1_isFree_73 : decode cX1_isFree 73 = .ok (.imul, 1) := by decide +kernel
theorem dX1_isFree_74 : decode cX1_isFree 74 = .ok (.iadd, 1) := by decide +kernel
theorem dX1_isFree_75 : decode cX1_isFree 75 = .ok (.iload_n 3, 1) := by decide +kernel
theorem dX1_isFree_76 : decode cX1_isFree 76 = .ok (.iadd, 1) := by decide +kernel
theorem dX1_isFree_77 : decode cX1_isFree 77 = .ok (.istore 6, 2) := by decide +kernel
theorem dX1_isFree_79 : decode cX1_isFree 79 = .ok (.iload 6, 2) := by decide +kernel
theorem dX1_isFree_81 : decode cX1_isFree 81 = .ok (.iload_n 2, 1) := by decide +kernel
theorem dX1_isFree_82 : decode cX1_isFree 82 = .ok (.if_icmp .eq 40, 3) := by decide +kernel
theorem dX1_isFree_85 : decode cX1_isFree 85 = .ok (.iload 5, 2) := by decide +kernel
theorem dX1_isFree_87 : decode cX1_isFree 87 = .ok (.ifCond .eq 17, 3) := by decide +kernel
theorem dX1_isFree_90 : decode cX1_isFree 90 = .ok (.aload_n 0, 1) := by decide +kernel
theorem dX1_isFree_91 : decode cX1_isFree 91 = .ok (.getfield 7, 3) := by decide +kernel
theorem dX1_isFree_94 : decode cX1_isFree 94 = .ok (.iload 6, 2) := by decide +kernel
theorem dX1_isFree_96 : decode cX1_isFree 96 = .ok (.iaload, 1) := by decide +kernel
theorem dX1_isFree_97 : decode cX1_isFree 97 = .ok (.ifCond .ne 7, 3) := by decide +kernel
theorem dX1_isFree_100 : decode cX1_isFree 100 = .ok (.iconst 1, 1) := by decide +kernel
theorem dX1_isFree_101 : decode cX1_isFree 101 = .ok (.goto 4, 3) := by decide +kernel
theorem dX1_isFree_104 : decode cX1_isFree 104 = .ok (.iconst 0, 1) := by decide +kernel
theorem dX1_isFree_105 : decode cX1_isFree 105 = .ok (.istore 5, 2) := by decide +kernel
theorem dX1_isFree_107 : decode cX1_isFree 107 = .ok (.iload 6, 2) := by decide +kernel
theorem dX1_isFree_109 : decode cX1_isFree 109 = .ok (.bipush 8, 2) := by decide +kernel
theorem dX1_isFree_111 : decode cX1_isFree 111 = .ok (.iload 4, 2) := by decide +kernel
theorem dX1_isFree_113 : decode cX1_isFree 113 = .ok (.imul, 1) := by decide +kernel
theorem dX1_isFree_114 : decode cX1_isFree 114 = .ok (.iload_n 3, 1) := by decide +kernel
theorem dX1_isFree_115 : decode cX1_isFree 115 = .ok (.iadd, 1) := by decide +kernel
theorem dX1_isFree_116 : decode cX1_isFree 116 = .ok (.iadd, 1) := by decide +kernel
theorem dX1_isFree_117 : decode cX1_isFree 117 = .ok (.istore 6, 2) := by decide +kernel
theorem dX1_isFree_119 : decode cX1_isFree 119 = .ok (.goto (-40), 3) := by decide +kernel
theorem dX1_isFree_122 : decode cX1_isFree 122 = .ok (.iload 5, 2) := by decide +kernel
theorem dX1_isFree_124 : decode cX1_isFree 124 = .ok (.ireturn, 1) := by decide +kernel
set_option maxRecDepth 20000 in
theorem ggX1_attacks_X1_kindOf : GoodIn wsX1_attacks wsX1_kindOf := goodIn_r _ [5] (by decide +kernel) (by decide +kernel)
set_option maxRecDepth 20000 in
theorem gX1_attacks_X1_kindOf : GoodIn wsX1_attacks (va_wsS RX1 61 yX1_kindOf wsX1_kindOf) := goodIn_app (goodIn_of _ (by decide +kernel)) ggX1_attacks_X1_kindOf
set_option maxRecDepth 20000 in
theorem ggX1_attacks_X1_apart : GoodIn wsX1_attacks wsX1_apart := goodIn_r _ [8] (by decide +kernel) (by decide +kernel)
set_option maxRecDepth 20000 in
theorem gX1_attacks_X1_apart : GoodIn wsX1_attacks (va_wsS RX1 64 yX1_apart wsX1_apart) := goodIn_app (goodIn_of _ (by decide +kernel)) ggX1_attacks_X1_apart
set_option maxRecDepth 20000 in
theorem ggX1_attacks_X1_sideOf : GoodIn wsX1_attacks wsX1_sideOf := goodIn_r _ [11] (by decide +kernel) (by decide +kernel)
set_option maxRecDepth 20000 in
theorem gX1_attacks_X1_sideOf : GoodIn wsX1_attacks (va_wsS RX1 68 yX1_sideOf wsX1_sideOf) := goodIn_app (goodIn_of _ (by decide +kernel)) ggX1_attacks_X1_sideOf
set_option maxRecDepth 20000 in
theorem ggX1_attacks_X1_isFree : GoodIn wsX1_attacks wsX1_isFree := goodIn_r _ [15, 1, 16, 17, 18, 19, 20, 21, 22, 23, 24, 25, 26] (by decide +kernel) (by decide +kernel)
set_option maxRecDepth 20000 in
theorem gX1_attacks_X1_isFree : GoodIn wsX1_attacks (wsV RX1 71 RX1 yX1_isFree wsX1_isFree) := goodIn_app (goodIn_of _ (by decide +kernel)) ggX1_attacks_X1_isFree
theorem dX1_attacks_0 : decode cX1_attacks 0 = .ok (.aload_n 0, 1) := by decide +kernel
theorem dX1_attacks_1 : decode cX1_attacks 1 = .ok (.getfield 7, 3) := by decide +kernel
theorem dX1_attacks_4 : decode cX1_attacks 4 = .ok (.iload_n 1, 1) := by decide +kernel
theorem dX1_attacks_5 : decode cX1_attacks 5 = .ok (.iaload, 1) := by decide +kernel
theorem dX1_attacks_6 : decode cX1_attacks 6 = .ok (.invokestatic 61, 3) := by decide +kernel
theorem dX1_attacks_9 : decode cX1_attacks 9 = .ok (.istore_n 3, 1) := by decide +kernel
theorem dX1_attacks_10 : decode cX1_attacks 10 = .ok (.iload_n 1, 1) := by decide +kernel
theorem dX1_attacks_11 : decode cX1_attacks 11 = .ok (.bipush 8, 2) := by decide +kernel
theorem dX1_attacks_13 : decode cX1_attacks 13 = .ok (.irem, 1) := by decide +kernel
theorem dX1_attacks_14 : decode cX1_attacks 14 = .ok (.iload_n 2, 1) := by decide +kernel
theorem dX1_attacks_15 : decode cX1_attacks 15 = .ok (.bipush 8, 2) := by decide +kernel
theorem dX1_attacks_17 : decode cX1_attacks 17 = .ok (.irem, 1) := by decide +kernel
theorem dX1_attacks_18 : decode cX1_attacks 18 = .ok (.invokestatic 64, 3) := by decide +kernel
theorem dX1_attacks_21 : decode cX1_attacks 21 = .ok (.istore 4, 2) := by decide +kernel
theorem dX1_attacks_23 : decode cX1_attacks 23 = .ok (.iload_n 1, 1) := by decide +kernel
theorem dX1_attacks_24 : decode cX1_attacks 24 = .ok (.bipush 8, 2) := by decide +kernel
theorem dX1_attacks_26 : decode cX1_attacks 26 = .ok (.idiv, 1) := by decide +kernel
theorem dX1_attacks_27 : decode cX1_attacks 27 = .ok (.iload_n 2, 1) := by decide +kernel
theorem dX1_attacks_28 : decode cX1_attacks 28 = .ok (.bipush 8, 2) := by decide +kernel
theorem dX1_attacks_30 : decode cX1_attacks 30 = .ok (.idiv, 1) := by decide +kernel
theorem dX1_attacks_31 : decode cX1_attacks 31 = .ok (.invokestatic 64, 3) := by decide +kernel
theorem dX1_attacks_34 : decode cX1_attacks 34 = .ok (.istore 5, 2) := by decide +kernel
theorem dX1_attacks_36 : decode cX1_attacks 36 = .ok (.iload_n 3, 1) := by decide +kernel
theorem dX1_attacks_37 : decode cX1_attacks 37 = .ok (.ifCond .eq 8, 3) := by decide +kernel
theorem dX1_attacks_40 : decode cX1_attacks 40 = .ok (.iload_n 1, 1) := by decide +kernel
theorem dX1_attacks_41 : decode cX1_attacks 41 = .ok (.iload_n 2, 1) := by decide +kernel
theorem dX1_attacks_42 : decode cX1_attacks 42 = .ok (.if_icmp .ne 5, 3) := by decide +kernel
theorem dX1_attacks_45 : decode cX1_attacks 45 = .ok (.iconst 0, 1) := by decide +kernel
theorem dX1_attacks_46 : decode cX1_attacks 46 = .ok (.ireturn, 1) := by decide +kernel
theorem dX1_attacks_47 : decode cX1_attacks 47 = .ok (.iload_n 3, 1) := by decide +kernel
theorem dX1_attacks_48 : decode cX1_attacks 48 = .ok (.iconst 1, 1) := by decide +kernel
theorem dX1_attacks_49 : decode cX1_attacks 49 = .ok (.if_icmp .ne 44, 3) := by decide +kernel
theorem dX1_attacks_52 : decode cX1_attacks 52 = .ok (.iload 4, 2) := by decide +kernel
theorem dX1_attacks_54 : decode cX1_attacks 54 = .ok (.iconst 1, 1) := by decide +kernel
theorem dX1_attacks_55 : decode cX1_attacks 55 = .ok (.if_icmp .ne 36, 3) := by decide +kernel
theorem dX1_attacks_58 : decode cX1_attacks 58 = .ok (.iload_n 2, 1) := by decide +kernel
theorem dX1_attacks_59 : decode cX1_attacks 59 = .ok (.bipush 8, 2) := by decide +kernel
theorem dX1_attacks_61 : decode cX1_attacks 61 = .ok (.idiv, 1) := by decide +kernel
theorem dX1_attacks_62 : decode cX1_attacks 62 = .ok (.iload_n 1, 1) := by decide +kernel
theorem dX1_attacks_63 : decode cX1_attacks 63 = .ok (.bipush 8, 2) := by decide +kernel
theorem dX1_attacks_65 : decode cX1_attacks 65 = .ok (.idiv, 1) := by decide +kernel
theorem dX1_attacks_66 : decode cX1_attacks 66 = .ok (.isub, 1) := by decide +kernel
theorem dX1_attacks_67 : decode cX1_attacks 67 = .ok (.aload_n 0, 1) := by decide +kernel
theorem dX1_attacks_68 : decode cX1_attacks 68 = .ok (.getfield 7, 3) := by decide +kernel
theorem dX1_attacks_71 : decode cX1_attacks 71 = .ok (.iload_n 1, 1) := by decide +kernel
theorem dX1_attacks_72 : decode cX1_attacks 72 = .ok (.iaload, 1) := by decide +kernel
theorem dX1_attacks_73 : decode cX1_attacks 73 = .ok (.invokestatic 68, 3) := by decide +kernel
theorem dX1_attacks_76 : decode cX1_attacks 76 = .ok (.ifCond .ne 7, 3) := by decide +kernel
theorem dX1_attacks_79 : decode cX1_attacks 79 = .ok (.iconst 1, 1) := by decide +kernel
theorem dX1_attacks_80 : decode cX1_attacks 80 = .ok (.goto 4, 3) := by decide +kernel
theorem dX1_attacks_83 : decode cX1_attacks 83 = .ok (.iconst (-1), 1) := by decide +kernel
theorem dX1_attacks_84 : decode cX1_attacks 84 = .ok (.if_icmp .ne 7, 3) := by decide +kernel
theorem dX1_attacks_87 : decode cX1_attacks 87 = .ok (.iconst 1, 1) := by decide +kernel
theorem dX1_attacks_88 : decode cX1_attacks 88 = .ok (.goto 4, 3) := by decide +kernel
theorem dX1_attacks_91 : decode cX1_attacks 91 = .ok (.iconst 0, 1) := by decide +kernel
theorem dX1_attacks_92 : decode cX1_attacks 92 = .ok (.ireturn, 1) := by decide +kernel
theorem dX1_attacks_93 : decode cX1_attacks 93 = .ok (.iload_n 3, 1) := by decide +kernel
theorem dX1_attacks_94 : decode cX1_attacks 94 = .ok (.iconst 2, 1) := by decide +kernel
theorem dX1_attacks_95 : decode cX1_attacks 95 = .ok (.if_icmp .ne 33, 3) := by decide +kernel
theorem dX1_attacks_98 : decode cX1_attacks 98 = .ok (.iload 4, 2) := by decide +kernel
theorem dX1_attacks_100 : decode cX1_attacks 100 = .ok (.iconst 1, 1) := by decide +kernel
theorem dX1_attacks_101 : decode cX1_attacks 101 = .ok (.if_icmp .ne 9, 3) := by decide +kernel
theorem dX1_attacks_104 : decode cX1_attacks 104 = .ok (.iload 5, 2) := by decide +kernel
theorem dX1_attacks_106 : decode cX1_attacks 106 = .ok (.iconst 2, 1) := by decide +kernel
theorem dX1_attacks_107 : decode cX1_attacks 107 = .ok (.if_icmp .eq 15, 3) := by decide +kernel
theorem dX1_attacks_110 : decode cX1_attacks 110 = .ok (.iload 4, 2) := by decide +kernel
theorem dX1_attacks_112 : decode cX1_attacks 112 = .ok (.iconst 2, 1) := by decide +kernel
theorem dX1_attacks_113 : decode cX1_attacks 113 = .ok (.if_icmp .ne 13, 3) := by decide +kernel
theorem dX1_attacks_116 : decode cX1_attacks 116 = .ok (.iload 5, 2) := by decide +kernel
theorem dX1_attacks_118 : decode cX1_attacks 118 = .ok (.iconst 1, 1) := by decide +kernel
theorem dX1_attacks_119 : decode cX1_attacks 119 = .ok (.if_icmp .ne 7, 3) := by decide +kernel
theorem dX1_attacks_122 : decode cX1_attacks 122 = .ok (.iconst 1, 1) := by decide +kernel
theorem dX1_attacks_123 : decode cX1_attacks 123 = .ok (.goto 4, 3) := by decide +kernel
theorem dX1_attacks_126 : decode cX1_attacks 126 = .ok (.iconst 0, 1) := by decide +kernel
theorem dX1_attacks_127 : decode cX1_attacks 127 = .ok (.ireturn, 1) := by decide +kernel
theorem dX1_attacks_128 : decode cX1_attacks 128 = .ok (.iload_n 3, 1) := by decide +kernel
theorem dX1_attacks_129 : decode cX1_attacks 129 = .ok (.bipush 6, 2) := by decide +kernel
theorem dX1_attacks_131 : decode cX1_attacks 131 = .ok (.if_icmp .ne 21, 3) := by decide +kernel
theorem dX1_attacks_134 : decode cX1_attacks 134 = .ok (.iload 4, 2) := by decide +kernel
theorem dX1_attacks_136 : decode cX1_attacks 136 = .ok (.iconst 2, 1) := by decide +kernel
theorem dX1_attacks_137 : decode cX1_attacks 137 = .ok (.if_icmp .ge 13, 3) := by decide +kernel
theorem dX1_attacks_140 : decode cX1_attacks 140 = .ok (.iload 5, 2) := by decide +kernel
theorem dX1_attacks_142 : decode cX1_attacks 142 = .ok (.iconst 2, 1) := by decide +kernel
theorem dX1_attacks_143 : decode cX1_attacks 143 = .ok (.if_icmp .ge 7, 3) := by decide +kernel
theorem dX1_attacks_146 : decode cX1_attacks 146 = .ok (.iconst 1, 1) := by decide +kernel
theorem dX1_attacks_147 : decode cX1_attacks 147 = .ok (.goto 4, 3) := by decide +kernel
theorem dX1_attacks_150 : decode cX1_attacks 150 = .ok (.iconst 0, 1) := by decide +kernel
theorem dX1_attacks_151 : decode cX1_attacks 151 = .ok (.ireturn, 1) := by decide +kernel
theorem dX1_attacks_152 : decode cX1_attacks 152 = .ok (.iload 4, 2) := by decide +kernel
theorem dX1_attacks_154 : decode cX1_attacks 154 = .ok (.ifCond .eq 8, 3) := by decide +kernel
theorem dX1_attacks_157 : decode cX1_attacks 157 = .ok (.iload 5, 2) := by decide +kernel
theorem dX1_attacks_159 : decode cX1_attacks 159 = .ok (.ifCond .ne 7, 3) := by decide +kernel
theorem dX1_attacks_162 : decode cX1_attacks 162 = .ok (.iconst 1, 1) := by decide +kernel
theorem dX1_attacks_163 : decode cX1_attacks 163 = .ok (.goto 4, 3) := by decide +kernel
theorem dX1_attacks_166 : decode cX1_attacks 166 = .ok (.iconst 0, 1) := by decide +kernel
theorem dX1_attacks_167 : decode cX1_attacks 167 = .ok (.istore 6, 2) := by decide +kernel
theorem dX1_attacks_169 : decode cX1_attacks 169 = .ok (.iload 4, 2) := by decide +kernel
theorem dX1_attacks_171 : decode cX1_attacks 171 = .ok (.iload 5, 2) := by decide +kernel
theorem dX1_attacks_173 : decode cX1_attacks 173 = .ok (.if_icmp .ne 7, 3) := by decide +kernel
theorem dX1_attacks_176 : decode cX1_attacks 176 = .ok (.iconst 1, 1) := by decide +kernel
theorem dX1_attacks_177 : decode cX1_attacks 177 = .ok (.goto 4, 3) := by decide +kernel
theorem dX1_attacks_180 : decode cX1_attacks 180 = .ok (.iconst 0, 1) := by decide +kernel
theorem dX1_attacks_181 : decode cX1_attacks 181 = .ok (.istore 7, 2) := by decide +kernel
theorem dX1_attacks_183 : decode cX1_attacks 183 = .ok (.iload 6, 2) := by decide +kernel
theorem dX1_attacks_185 : decode cX1_attacks 185 = .ok (.ifCond .eq 8, 3) := by decide +kernel
theorem dX1_attacks_188 : decode cX1_attacks 188 = .ok (.iload_n 3, 1) := by decide +kernel
theorem dX1_attacks_189 : decode cX1_attacks 189 = .ok (.iconst 3, 1) := by decide +kernel
theorem dX1_attacks_190 : decode cX1_attacks 190 = .ok (.if_icmp .ne 13, 3) := by decide +kernel
theorem dX1_attacks_193 : decode cX1_attacks 193 = .ok (.iload 7, 2) := by decide +kernel
theorem dX1_attacks_195 : decode cX1_attacks 195 = .ok (.ifCond .eq 21, 3) := by decide +kernel
theorem dX1_attacks_198 : decode cX1_attacks 198 = .ok (.iload_n 3, 1) := by decide +kernel
theorem dX1_attacks_199 : decode cX1_attacks 199 = .ok (.iconst 4, 1) := by decide +kernel
theorem dX1_attacks_200 : decode cX1_attacks 200 = .ok (.if_icmp .eq 16, 3) := by decide +kernel
theorem dX1_attacks_203 : decode cX1_attacks 203 = .ok (.aload_n 0, 1) := by decide +kernel
theorem dX1_attacks_204 : decode cX1_attacks 204 = .ok (.iload_n 1, 1) := by decide +kernel
theorem dX1_attacks_205 : decode cX1_attacks 205 = .ok (.iload_n 2, 1) := by decide +kernel
theorem dX1_attacks_206 : decode cX1_attacks 206 = .ok (.invokevirtual 71, 3) := by decide +kernel
theorem dX1_attacks_209 : decode cX1_attacks 209 = .ok (.ifCond .eq 7, 3) := by decide +kernel
theorem dX1_attacks_212 : decode cX1_attacks 212 = .ok (.iconst 1, 1) := by decide +kernel
theorem dX1_attacks_213 : decode cX1_attacks 213 = .ok (.goto 4, 3) := by decide +kernel
theorem dX1_attacks_216 : decode cX1_attacks 216 = .ok (.iconst 0, 1) := by decide +kernel
theorem dX1_attacks_217 : decode cX1_attacks 217 = .ok (.ireturn, 1) := by decide +kernel
set_option maxRecDepth 20000 in
theorem ggX1_isAttacked_X1_sideOf : GoodIn wsX1_isAttacked wsX1_sideOf := goodIn_r _ [5] (by decide +kernel) (by decide +kernel)
set_option maxRecDepth 20000 in
theorem gX1_isAttacked_X1_sideOf : GoodIn wsX1_isAttacked (va_wsS RX1 68 yX1_sideOf wsX1_sideOf) := goodIn_app (goodIn_of _ (by decide +kernel)) ggX1_isAttacked_X1_sideOf
set_option maxRecDepth 20000 in
theorem ggX1_isAttacked_X1_attacks : GoodIn wsX1_isAttacked wsX1_attacks := goodIn_r _ [9, 1, 10, 11, 4, 12, 13, 14, 15, 2, 3, 5, 16, 17, 18, 19, 20, 21, 22, 23, 24, 25, 26, 27, 28, 29, 30] (by decide +kernel) (by decide +kernel)
set_option maxRecDepth 20000 in
theorem gX1_isAttacked_X1_attacks : GoodIn wsX1_isAttacked (wsV RX1 75 RX1 yX1_attacks wsX1_attacks) := goodIn_app (goodIn_of _ (by decide +kernel)) ggX1_isAttacked_X1_attacks
theorem dX1_isAttacked_0 : decode cX1_isAttacked 0 = .ok (.iconst 0, 1) := by decide +kernel
theorem dX1_isAttacked_1 : decode cX1_isAttacked 1 = .ok (.istore_n 3, 1) := by decide +kernel
theorem dX1_isAttacked_2 : decode cX1_isAttacked 2 = .ok (.iconst 0, 1) := by decide +kernel
theorem dX1_isAttacked_3 : decode cX1_isAttacked 3 = .ok (.istore 4, 2) := by decide +kernel
theorem dX1_isAttacked_5 : decode cX1_isAttacked 5 = .ok (.iload 4, 2) := by decide +kernel
theorem dX1_isAttacked_7 : decode cX1_isAttacked 7 = .ok (.bipush 64, 2) := by decide +kernel
theorem dX1_isAttacked_9 : decode cX1_isAttacked 9 = .ok (.if_icmp .ge 43, 3) := by decide +kernel
theorem dX1_isAttacked_12 : decode cX1_isAttacked 12 = .ok (.iload_n 3, 1) := by decide +kernel
theorem dX1_isAttacked_13 : decode cX1_isAttacked 13 = .ok (.ifCond .ne 39, 3) := by decide +kernel
theorem dX1_isAttacked_16 : decode cX1_isAttacked 16 = .ok (.aload_n 0, 1) := by decide +kernel
theorem dX1_isAttacked_17 : decode cX1_isAttacked 17 = .ok (.getfield 7, 3) := by decide +kernel
theorem dX1_isAttacked_20 : decode cX1_isAttacked 20 = .ok (.iload 4, 2) := by decide +kernel
theorem dX1_isAttacked_22 : decode cX1_isAttacked 22 = .ok (.iaload, 1) := by decide +kernel
theorem dX1_isAttacked_23 : decode cX1_isAttacked 23 = .ok (.invokestatic 68, 3) := by decide +kernel
theorem dX1_isAttacked_26 : decode cX1_isAttacked 26 = .ok (.iload_n 2, 1) := by decide +kernel
theorem dX1_isAttacked_27 : decode cX1_isAttacked 27 = .ok (.if_icmp .ne 17, 3) := by decide +kernel
theorem dX1_isAttacked_30 : decode cX1_isAttacked 30 = .ok (.aload_n 0, 1) := by decide +kernel
theorem dX1_isAttacked_31 : decode cX1_isAttacked 31 = .ok (.iload 4, 2) := by decide +kernel
theorem dX1_isAttacked_33 : decode cX1_isAttacked 33 = .ok (.iload_n 1, 1) := by decide +kernel
theorem dX1_isAttacked_34 : decode cX1_isAttacked 34 = .ok (.invokevirtual 75, 3) := by decide +kernel
theorem dX1_isAttacked_37 : decode cX1_isAttacked 37 = .ok (.ifCond .eq 7, 3) := by decide +kernel
theorem dX1_isAttacked_40 : decode cX1_isAttacked 40 = .ok (.iconst 1, 1) := by decide +kernel
theorem dX1_isAttacked_41 : decode cX1_isAttacked 41 = .ok (.goto 4, 3) := by decide +kernel
theorem dX1_isAttacked_44 : decode cX1_isAttacked 44 = .ok (.iconst 0, 1) := by decide +kernel
theorem dX1_isAttacked_45 : decode cX1_isAttacked 45 = .ok (.istore_n 3, 1) := by decide +kernel
theorem dX1_isAttacked_46 : decode cX1_isAttacked 46 = .ok (.iinc 4 1, 3) := by decide +kernel
