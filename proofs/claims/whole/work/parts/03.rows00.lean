set_option maxRecDepth 20000 in
theorem ggX0_init_X0_setAllAsAtFirst : GoodIn wsX0_init wsX0_setAllAsAtFirst := goodIn_r _ [16, 5, 17, 18, 19, 20, 21, 22, 23, 24, 15, 25, 26, 27, 28, 29, 30, 31, 32, 33, 34, 35, 36, 37, 38, 39] (by decide +kernel) (by decide +kernel)
set_option maxRecDepth 20000 in
theorem gX0_init_X0_setAllAsAtFirst : GoodIn wsX0_init (wsV RX0 31 RX0 yX0_setAllAsAtFirst wsX0_setAllAsAtFirst) := goodIn_app (goodIn_of _ (by decide +kernel)) ggX0_init_X0_setAllAsAtFirst
theorem dX0_init_0 : decode cX0_init 0 = .ok (.aload_n 0, 1) := by decide +kernel
theorem dX0_init_1 : decode cX0_init 1 = .ok (.invokespecial 1, 3) := by decide +kernel
theorem dX0_init_4 : decode cX0_init 4 = .ok (.aload_n 0, 1) := by decide +kernel
theorem dX0_init_5 : decode cX0_init 5 = .ok (.bipush 64, 2) := by decide +kernel
theorem dX0_init_7 : decode cX0_init 7 = .ok (.newarray .int, 2) := by decide +kernel
theorem dX0_init_9 : decode cX0_init 9 = .ok (.putfield 9, 3) := by decide +kernel
theorem dX0_init_12 : decode cX0_init 12 = .ok (.aload_n 0, 1) := by decide +kernel
theorem dX0_init_13 : decode cX0_init 13 = .ok (.sipush 600, 3) := by decide +kernel
theorem dX0_init_16 : decode cX0_init 16 = .ok (.newarray .int, 2) := by decide +kernel
theorem dX0_init_18 : decode cX0_init 18 = .ok (.putfield 13, 3) := by decide +kernel
theorem dX0_init_21 : decode cX0_init 21 = .ok (.aload_n 0, 1) := by decide +kernel
theorem dX0_init_22 : decode cX0_init 22 = .ok (.sipush 600, 3) := by decide +kernel
theorem dX0_init_25 : decode cX0_init 25 = .ok (.newarray .int, 2) := by decide +kernel
theorem dX0_init_27 : decode cX0_init 27 = .ok (.putfield 16, 3) := by decide +kernel
theorem dX0_init_30 : decode cX0_init 30 = .ok (.aload_n 0, 1) := by decide +kernel
theorem dX0_init_31 : decode cX0_init 31 = .ok (.sipush 600, 3) := by decide +kernel
theorem dX0_init_34 : decode cX0_init 34 = .ok (.newarray .int, 2) := by decide +kernel
theorem dX0_init_36 : decode cX0_init 36 = .ok (.putfield 19, 3) := by decide +kernel
theorem dX0_init_39 : decode cX0_init 39 = .ok (.aload_n 0, 1) := by decide +kernel
theorem dX0_init_40 : decode cX0_init 40 = .ok (.sipush 600, 3) := by decide +kernel
theorem dX0_init_43 : decode cX0_init 43 = .ok (.newarray .int, 2) := by decide +kernel
theorem dX0_init_45 : decode cX0_init 45 = .ok (.putfield 22, 3) := by decide +kernel
theorem dX0_init_48 : decode cX0_init 48 = .ok (.aload_n 0, 1) := by decide +kernel
theorem dX0_init_49 : decode cX0_init 49 = .ok (.sipush 600, 3) := by decide +kernel
theorem dX0_init_52 : decode cX0_init 52 = .ok (.newarray .int, 2) := by decide +kernel
theorem dX0_init_54 : decode cX0_init 54 = .ok (.putfield 25, 3) := by decide +kernel
theorem dX0_init_57 : decode cX0_init 57 = .ok (.aload_n 0, 1) := by decide +kernel
theorem dX0_init_58 : decode cX0_init 58 = .ok (.sipush 600, 3) := by decide +kernel
theorem dX0_init_61 : decode cX0_init 61 = .ok (.newarray .int, 2) := by decide +kernel
theorem dX0_init_63 : decode cX0_init 63 = .ok (.putfield 28, 3) := by decide +kernel
theorem dX0_init_66 : decode cX0_init 66 = .ok (.aload_n 0, 1) := by decide +kernel
theorem dX0_init_67 : decode cX0_init 67 = .ok (.invokevirtual 31, 3) := by decide +kernel
theorem dX0_init_70 : decode cX0_init 70 = .ok (.return_, 1) := by decide +kernel
set_option maxRecDepth 20000 in
theorem ggX0_clear_X0_setAllAsAtFirst : GoodIn wsX0_clear wsX0_setAllAsAtFirst := goodIn_r _ [5, 6, 7, 8, 9, 10, 11, 12, 13, 14, 4, 15, 16, 17, 18, 19, 20, 21, 22, 23, 24, 25, 26, 27, 28, 29] (by decide +kernel) (by decide +kernel)
set_option maxRecDepth 20000 in
theorem gX0_clear_X0_setAllAsAtFirst : GoodIn wsX0_clear (wsV RX0 31 RX0 yX0_setAllAsAtFirst wsX0_setAllAsAtFirst) := goodIn_app (goodIn_of _ (by decide +kernel)) ggX0_clear_X0_setAllAsAtFirst
theorem dX0_clear_0 : decode cX0_clear 0 = .ok (.aload_n 0, 1) := by decide +kernel
theorem dX0_clear_1 : decode cX0_clear 1 = .ok (.invokevirtual 31, 3) := by decide +kernel
theorem dX0_clear_4 : decode cX0_clear 4 = .ok (.return_, 1) := by decide +kernel
set_option maxRecDepth 20000 in
theorem ggX0_begin_X0_setAllAsAtFirst : GoodIn wsX0_begin wsX0_setAllAsAtFirst := goodIn_r _ [8, 2, 9, 3, 10, 11, 12, 13, 14, 15, 7, 16, 17, 21, 22, 23, 24, 25, 26, 27, 28, 29, 30, 31, 32, 33] (by decide +kernel) (by decide +kernel)
set_option maxRecDepth 20000 in
theorem gX0_begin_X0_setAllAsAtFirst : GoodIn wsX0_begin (wsV RX0 31 RX0 yX0_setAllAsAtFirst wsX0_setAllAsAtFirst) := goodIn_app (goodIn_of _ (by decide +kernel)) ggX0_begin_X0_setAllAsAtFirst
set_option maxRecDepth 20000 in
theorem ggX0_begin_X0_pieceOf : GoodIn wsX0_begin wsX0_pieceOf := goodIn_r _ [20] (by decide +kernel) (by decide +kernel)
set_option maxRecDepth 20000 in
theorem gX0_begin_X0_pieceOf : GoodIn wsX0_begin (va_wsS RX0 37 yX0_pieceOf wsX0_pieceOf) := goodIn_app (goodIn_of _ (by decide +kernel)) ggX0_begin_X0_pieceOf
theorem dX0_begin_0 : decode cX0_begin 0 = .ok (.aload_n 0, 1) := by decide +kernel
theorem dX0_begin_1 : decode cX0_begin 1 = .ok (.invokevirtual 31, 3) := by decide +kernel
theorem dX0_begin_4 : decode cX0_begin 4 = .ok (.iconst 0, 1) := by decide +kernel
theorem dX0_begin_5 : decode cX0_begin 5 = .ok (.istore_n 1, 1) := by decide +kernel
theorem dX0_begin_6 : decode cX0_begin 6 = .ok (.iload_n 1, 1) := by decide +kernel
theorem dX0_begin_7 : decode cX0_begin 7 = .ok (.getstatic 34, 3) := by decide +kernel
theorem dX0_begin_10 : decode cX0_begin 10 = .ok (.arraylength, 1) := by decide +kernel
theorem dX0_begin_11 : decode cX0_begin 11 = .ok (.if_icmp .ge 70, 3) := by decide +kernel
theorem dX0_begin_14 : decode cX0_begin 14 = .ok (.aload_n 0, 1) := by decide +kernel
theorem dX0_begin_15 : decode cX0_begin 15 = .ok (.getfield 9, 3) := by decide +kernel
theorem dX0_begin_18 : decode cX0_begin 18 = .ok (.iload_n 1, 1) := by decide +kernel
theorem dX0_begin_19 : decode cX0_begin 19 = .ok (.getstatic 34, 3) := by decide +kernel
theorem dX0_begin_22 : decode cX0_begin 22 = .ok (.iload_n 1, 1) := by decide +kernel
theorem dX0_begin_23 : decode cX0_begin 23 = .ok (.iaload, 1) := by decide +kernel
theorem dX0_begin_24 : decode cX0_begin 24 = .ok (.iconst 0, 1) := by decide +kernel
theorem dX0_begin_25 : decode cX0_begin 25 = .ok (.invokestatic 37, 3) := by decide +kernel
theorem dX0_begin_28 : decode cX0_begin 28 = .ok (.iastore, 1) := by decide +kernel
theorem dX0_begin_29 : decode cX0_begin 29 = .ok (.aload_n 0, 1) := by decide +kernel
theorem dX0_begin_30 : decode cX0_begin 30 = .ok (.getfield 9, 3) := by decide +kernel
theorem dX0_begin_33 : decode cX0_begin 33 = .ok (.bipush 8, 2) := by decide +kernel
theorem dX0_begin_35 : decode cX0_begin 35 = .ok (.iload_n 1, 1) := by decide +kernel
theorem dX0_begin_36 : decode cX0_begin 36 = .ok (.iadd, 1) := by decide +kernel
theorem dX0_begin_37 : decode cX0_begin 37 = .ok (.iconst 1, 1) := by decide +kernel
theorem dX0_begin_38 : decode cX0_begin 38 = .ok (.iconst 0, 1) := by decide +kernel
theorem dX0_begin_39 : decode cX0_begin 39 = .ok (.invokestatic 37, 3) := by decide +kernel
theorem dX0_begin_42 : decode cX0_begin 42 = .ok (.iastore, 1) := by decide +kernel
theorem dX0_begin_43 : decode cX0_begin 43 = .ok (.aload_n 0, 1) := by decide +kernel
theorem dX0_begin_44 : decode cX0_begin 44 = .ok (.getfield 9, 3) := by decide +kernel
theorem dX0_begin_47 : decode cX0_begin 47 = .ok (.bipush 48, 2) := by decide +kernel
theorem dX0_begin_49 : decode cX0_begin 49 = .ok (.iload_n 1, 1) := by decide +kernel
theorem dX0_begin_50 : decode cX0_begin 50 = .ok (.iadd, 1) := by decide +kernel
theorem dX0_begin_51 : decode cX0_begin 51 = .ok (.iconst 1, 1) := by decide +kernel
theorem dX0_begin_52 : decode cX0_begin 52 = .ok (.iconst 1, 1) := by decide +kernel
theorem dX0_begin_53 : decode cX0_begin 53 = .ok (.invokestatic 37, 3) := by decide +kernel
theorem dX0_begin_56 : decode cX0_begin 56 = .ok (.iastore, 1) := by decide +kernel
theorem dX0_begin_57 : decode cX0_begin 57 = .ok (.aload_n 0, 1) := by decide +kernel
theorem dX0_begin_58 : decode cX0_begin 58 = .ok (.getfield 9, 3) := by decide +kernel
theorem dX0_begin_61 : decode cX0_begin 61 = .ok (.bipush 56, 2) := by decide +kernel
theorem dX0_begin_63 : decode cX0_begin 63 = .ok (.iload_n 1, 1) := by decide +kernel
theorem dX0_begin_64 : decode cX0_begin 64 = .ok (.iadd, 1) := by decide +kernel
theorem dX0_begin_65 : decode cX0_begin 65 = .ok (.getstatic 34, 3) := by decide +kernel
theorem dX0_begin_68 : decode cX0_begin 68 = .ok (.iload_n 1, 1) := by decide +kernel
theorem dX0_begin_69 : decode cX0_begin 69 = .ok (.iaload, 1) := by decide +kernel
theorem dX0_begin_70 : decode cX0_begin 70 = .ok (.iconst 1, 1) := by decide +kernel
theorem dX0_begin_71 : decode cX0_begin 71 = .ok (.invokestatic 37, 3) := by decide +kernel
theorem dX0_begin_74 : decode cX0_begin 74 = .ok (.iastore, 1) := by decide +kernel
theorem dX0_begin_75 : decode cX0_begin 75 = .ok (.iinc 1 1, 3) := by decide +kernel
theorem dX0_begin_78 : decode cX0_begin 78 = .ok (.goto (-72), 3) := by decide +kernel
theorem dX0_begin_81 : decode cX0_begin 81 = .ok (.aload_n 0, 1) := by decide +kernel
theorem dX0_begin_82 : decode cX0_begin 82 = .ok (.bipush 15, 2) := by decide +kernel
theorem dX0_begin_84 : decode cX0_begin 84 = .ok (.putfield 41, 3) := by decide +kernel
theorem dX0_begin_87 : decode cX0_begin 87 = .ok (.return_, 1) := by decide +kernel
set_option maxRecDepth 20000 in
theorem ggX0_put_X0_isSquare : GoodIn wsX0_put wsX0_isSquare := goodIn_r _ [11] (by decide +kernel) (by decide +kernel)
set_option maxRecDepth 20000 in
theorem gX0_put_X0_isSquare : GoodIn wsX0_put (va_wsS RX0 45 yX0_isSquare wsX0_isSquare) := goodIn_app (goodIn_of _ (by decide +kernel)) ggX0_put_X0_isSquare
set_option maxRecDepth 20000 in
theorem ggX0_put_X0_piecesOnBoard : GoodIn wsX0_put wsX0_piecesOnBoard := goodIn_r _ [15, 16, 17, 18, 10, 19, 7, 20, 21, 22, 23, 24, 25, 26, 32, 33, 34, 35, 36, 37, 38, 39, 40, 41, 42, 43, 44] (by decide +kernel) (by decide +kernel)
set_option maxRecDepth 20000 in
theorem gX0_put_X0_piecesOnBoard : GoodIn wsX0_put (wsV RX0 61 RX0 yX0_piecesOnBoard wsX0_piecesOnBoard) := goodIn_app (goodIn_of _ (by decide +kernel)) ggX0_put_X0_piecesOnBoard
set_option maxRecDepth 20000 in
theorem ggX0_put_X0_forgetMoves : GoodIn wsX0_put wsX0_forgetMoves := goodIn_r _ [30, 31, 32, 33, 34, 35, 36, 37, 38, 39, 40, 41, 42, 43, 44] (by decide +kernel) (by decide +kernel)
set_option maxRecDepth 20000 in
theorem gX0_put_X0_forgetMoves : GoodIn wsX0_put (wsV RX0 70 RX0 yX0_forgetMoves wsX0_forgetMoves) := goodIn_app (goodIn_of _ (by decide +kernel)) ggX0_put_X0_forgetMoves
theorem dX0_put_0 : decode cX0_put 0 = .ok (.iload_n 1, 1) := by decide +kernel
theorem dX0_put_1 : decode cX0_put 1 = .ok (.invokestatic 45, 3) := by decide +kernel
theorem dX0_put_4 : decode cX0_put 4 = .ok (.ifCond .ne 13, 3) := by decide +kernel
theorem dX0_put_7 : decode cX0_put 7 = .ok (.new 49, 3) := by decide +kernel
theorem dX0_put_10 : decode cX0_put 10 = .ok (.dup, 1) := by decide +kernel
theorem dX0_put_11 : decode cX0_put 11 = .ok (.ldc 51, 2) := by decide +kernel
theorem dX0_put_13 : decode cX0_put 13 = .ok (.invokespecial 53, 3) := by decide +kernel
theorem dX0_put_16 : decode cX0_put 16 = .ok (.athrow, 1) := by decide +kernel
theorem dX0_put_17 : decode cX0_put 17 = .ok (.iload_n 2, 1) := by decide +kernel
theorem dX0_put_18 : decode cX0_put 18 = .ok (.ifCond .lt 9, 3) := by decide +kernel
theorem dX0_put_21 : decode cX0_put 21 = .ok (.iload_n 2, 1) := by decide +kernel
theorem dX0_put_22 : decode cX0_put 22 = .ok (.bipush 12, 2) := by decide +kernel
theorem dX0_put_24 : decode cX0_put 24 = .ok (.if_icmp .le 13, 3) := by decide +kernel
theorem dX0_put_27 : decode cX0_put 27 = .ok (.new 56, 3) := by decide +kernel
theorem dX0_put_30 : decode cX0_put 30 = .ok (.dup, 1) := by decide +kernel
theorem dX0_put_31 : decode cX0_put 31 = .ok (.ldc 58, 2) := by decide +kernel
theorem dX0_put_33 : decode cX0_put 33 = .ok (.invokespecial 60, 3) := by decide +kernel
theorem dX0_put_36 : decode cX0_put 36 = .ok (.athrow, 1) := by decide +kernel
theorem dX0_put_37 : decode cX0_put 37 = .ok (.iload_n 2, 1) := by decide +kernel
theorem dX0_put_38 : decode cX0_put 38 = .ok (.ifCond .eq 31, 3) := by decide +kernel
theorem dX0_put_41 : decode cX0_put 41 = .ok (.aload_n 0, 1) := by decide +kernel
theorem dX0_put_42 : decode cX0_put 42 = .ok (.getfield 9, 3) := by decide +kernel
theorem dX0_put_45 : decode cX0_put 45 = .ok (.iload_n 1, 1) := by decide +kernel
theorem dX0_put_46 : decode cX0_put 46 = .ok (.iaload, 1) := by decide +kernel
theorem dX0_put_47 : decode cX0_put 47 = .ok (.ifCond .ne 22, 3) := by decide +kernel
theorem dX0_put_50 : decode cX0_put 50 = .ok (.aload_n 0, 1) := by decide +kernel
theorem dX0_put_51 : decode cX0_put 51 = .ok (.invokevirtual 61, 3) := by decide +kernel
theorem dX0_put_54 : decode cX0_put 54 = .ok (.bipush 32, 2) := by decide +kernel
theorem dX0_put_56 : decode cX0_put 56 = .ok (.if_icmp .lt 13, 3) := by decide +kernel
theorem dX0_put_59 : decode cX0_put 59 = .ok (.new 65, 3) := by decide +kernel
theorem dX0_put_62 : decode cX0_put 62 = .ok (.dup, 1) := by decide +kernel
theorem dX0_put_63 : decode cX0_put 63 = .ok (.ldc 67, 2) := by decide +kernel
theorem dX0_put_65 : decode cX0_put 65 = .ok (.invokespecial 69, 3) := by decide +kernel
theorem dX0_put_68 : decode cX0_put 68 = .ok (.athrow, 1) := by decide +kernel
theorem dX0_put_69 : decode cX0_put 69 = .ok (.aload_n 0, 1) := by decide +kernel
theorem dX0_put_70 : decode cX0_put 70 = .ok (.getfield 9, 3) := by decide +kernel
theorem dX0_put_73 : decode cX0_put 73 = .ok (.iload_n 1, 1) := by decide +kernel
theorem dX0_put_74 : decode cX0_put 74 = .ok (.iload_n 2, 1) := by decide +kernel
theorem dX0_put_75 : decode cX0_put 75 = .ok (.iastore, 1) := by decide +kernel
theorem dX0_put_76 : decode cX0_put 76 = .ok (.aload_n 0, 1) := by decide +kernel
theorem dX0_put_77 : decode cX0_put 77 = .ok (.invokevirtual 70, 3) := by decide +kernel
theorem dX0_put_80 : decode cX0_put 80 = .ok (.return_, 1) := by decide +kernel
set_option maxRecDepth 20000 in
theorem ggX0_state_X0_isSide : GoodIn wsX0_state wsX0_isSide := goodIn_r _ [9] (by decide +kernel) (by decide +kernel)
set_option maxRecDepth 20000 in
theorem gX0_state_X0_isSide : GoodIn wsX0_state (va_wsS RX0 73 yX0_isSide wsX0_isSide) := goodIn_app (goodIn_of _ (by decide +kernel)) ggX0_state_X0_isSide
set_option maxRecDepth 20000 in
theorem ggX0_state_X0_isSquare : GoodIn wsX0_state wsX0_isSquare := goodIn_r _ [12] (by decide +kernel) (by decide +kernel)
set_option maxRecDepth 20000 in
theorem gX0_state_X0_isSquare : GoodIn wsX0_state (va_wsS RX0 45 yX0_isSquare wsX0_isSquare) := goodIn_app (goodIn_of _ (by decide +kernel)) ggX0_state_X0_isSquare
set_option maxRecDepth 20000 in
theorem ggX0_state_X0_forgetMoves : GoodIn wsX0_state wsX0_forgetMoves := goodIn_r _ [16, 17, 18, 19, 20, 21, 22, 23, 24, 25, 26, 27, 28, 29, 30] (by decide +kernel) (by decide +kernel)
set_option maxRecDepth 20000 in
theorem gX0_state_X0_forgetMoves : GoodIn wsX0_state (wsV RX0 70 RX0 yX0_forgetMoves wsX0_forgetMoves) := goodIn_app (goodIn_of _ (by decide +kernel)) ggX0_state_X0_forgetMoves
theorem dX0_state_0 : decode cX0_state 0 = .ok (.iload_n 1, 1) := by decide +kernel
theorem dX0_state_1 : decode cX0_state 1 = .ok (.invokestatic 73, 3) := by decide +kernel
theorem dX0_state_4 : decode cX0_state 4 = .ok (.ifCond .ne 13, 3) := by decide +kernel
theorem dX0_state_7 : decode cX0_state 7 = .ok (.new 56, 3) := by decide +kernel
theorem dX0_state_10 : decode cX0_state 10 = .ok (.dup, 1) := by decide +kernel
theorem dX0_state_11 : decode cX0_state 11 = .ok (.ldc 76, 2) := by decide +kernel
theorem dX0_state_13 : decode cX0_state 13 = .ok (.invokespecial 60, 3) := by decide +kernel
theorem dX0_state_16 : decode cX0_state 16 = .ok (.athrow, 1) := by decide +kernel
theorem dX0_state_17 : decode cX0_state 17 = .ok (.iload_n 2, 1) := by decide +kernel
theorem dX0_state_18 : decode cX0_state 18 = .ok (.ifCond .lt 9, 3) := by decide +kernel
theorem dX0_state_21 : decode cX0_state 21 = .ok (.iload_n 2, 1) := by decide +kernel
theorem dX0_state_22 : decode cX0_state 22 = .ok (.bipush 15, 2) := by decide +kernel
theorem dX0_state_24 : decode cX0_state 24 = .ok (.if_icmp .le 13, 3) := by decide +kernel
theorem dX0_state_27 : decode cX0_state 27 = .ok (.new 56, 3) := by decide +kernel
theorem dX0_state_30 : decode cX0_state 30 = .ok (.dup, 1) := by decide +kernel
theorem dX0_state_31 : decode cX0_state 31 = .ok (.ldc 78, 2) := by decide +kernel
theorem dX0_state_33 : decode cX0_state 33 = .ok (.invokespecial 60, 3) := by decide +kernel
theorem dX0_state_36 : decode cX0_state 36 = .ok (.athrow, 1) := by decide +kernel
theorem dX0_state_37 : decode cX0_state 37 = .ok (.iload_n 3, 1) := by decide +kernel
theorem dX0_state_38 : decode cX0_state 38 = .ok (.iconst (-1), 1) := by decide +kernel
theorem dX0_state_39 : decode cX0_state 39 = .ok (.if_icmp .eq 20, 3) := by decide +kernel
theorem dX0_state_42 : decode cX0_state 42 = .ok (.iload_n 3, 1) := by decide +kernel
theorem dX0_state_43 : decode cX0_state 43 = .ok (.invokestatic 45, 3) := by decide +kernel
theorem dX0_state_46 : decode cX0_state 46 = .ok (.ifCond .ne 13, 3) := by decide +kernel
theorem dX0_state_49 : decode cX0_state 49 = .ok (.new 56, 3) := by decide +kernel
theorem dX0_state_52 : decode cX0_state 52 = .ok (.dup, 1) := by decide +kernel
theorem dX0_state_53 : decode cX0_state 53 = .ok (.ldc 80, 2) := by decide +kernel
theorem dX0_state_55 : decode cX0_state 55 = .ok (.invokespecial 60, 3) := by decide +kernel
theorem dX0_state_58 : decode cX0_state 58 = .ok (.athrow, 1) := by decide +kernel
theorem dX0_state_59 : decode cX0_state 59 = .ok (.aload_n 0, 1) := by decide +kernel
theorem dX0_state_60 : decode cX0_state 60 = .ok (.iload_n 1, 1) := by decide +kernel
theorem dX0_state_61 : decode cX0_state 61 = .ok (.putfield 82, 3) := by decide +kernel
theorem dX0_state_64 : decode cX0_state 64 = .ok (.aload_n 0, 1) := by decide +kernel
theorem dX0_state_65 : decode cX0_state 65 = .ok (.iload_n 2, 1) := by decide +kernel
theorem dX0_state_66 : decode cX0_state 66 = .ok (.putfield 41, 3) := by decide +kernel
theorem dX0_state_69 : decode cX0_state 69 = .ok (.aload_n 0, 1) := by decide +kernel
theorem dX0_state_70 : decode cX0_state 70 = .ok (.iload_n 3, 1) := by decide +kernel
theorem dX0_state_71 : decode cX0_state 71 = .ok (.putfield 85, 3) := by decide +kernel
theorem dX0_state_74 : decode cX0_state 74 = .ok (.aload_n 0, 1) := by decide +kernel
theorem dX0_state_75 : decode cX0_state 75 = .ok (.invokevirtual 70, 3) := by decide +kernel
theorem dX0_state_78 : decode cX0_state 78 = .ok (.return_, 1) := by decide +kernel
set_option maxRecDepth 20000 in
theorem ggX0_clocks_X0_forgetMoves : GoodIn wsX0_clocks wsX0_forgetMoves := goodIn_r _ [9, 10, 11, 12, 13, 14, 15, 16, 17, 18, 19, 20, 21, 22, 23] (by decide +kernel) (by decide +kernel)
set_option maxRecDepth 20000 in
theorem gX0_clocks_X0_forgetMoves : GoodIn wsX0_clocks (wsV RX0 70 RX0 yX0_forgetMoves wsX0_forgetMoves) := goodIn_app (goodIn_of _ (by decide +kernel)) ggX0_clocks_X0_forgetMoves
theorem dX0_clocks_0 : decode cX0_clocks 0 = .ok (.iload_n 1, 1) := by decide +kernel
theorem dX0_clocks_1 : decode cX0_clocks 1 = .ok (.ifCond .lt 10, 3) := by decide +kernel
theorem dX0_clocks_4 : decode cX0_clocks 4 = .ok (.iload_n 1, 1) := by decide +kernel
theorem dX0_clocks_5 : decode cX0_clocks 5 = .ok (.sipush 9999, 3) := by decide +kernel
theorem dX0_clocks_8 : decode cX0_clocks 8 = .ok (.if_icmp .le 13, 3) := by decide +kernel
theorem dX0_clocks_11 : decode cX0_clocks 11 = .ok (.new 56, 3) := by decide +kernel
theorem dX0_clocks_14 : decode cX0_clocks 14 = .ok (.dup, 1) := by decide +kernel
theorem dX0_clocks_15 : decode cX0_clocks 15 = .ok (.ldc 88, 2) := by decide +kernel
theorem dX0_clocks_17 : decode cX0_clocks 17 = .ok (.invokespecial 60, 3) := by decide +kernel
theorem dX0_clocks_20 : decode cX0_clocks 20 = .ok (.athrow, 1) := by decide +kernel
theorem dX0_clocks_21 : decode cX0_clocks 21 = .ok (.iload_n 2, 1) := by decide +kernel
theorem dX0_clocks_22 : decode cX0_clocks 22 = .ok (.iconst 1, 1) := by decide +kernel
theorem dX0_clocks_23 : decode cX0_clocks 23 = .ok (.if_icmp .lt 10, 3) := by decide +kernel
theorem dX0_clocks_26 : decode cX0_clocks 26 = .ok (.iload_n 2, 1) := by decide +kernel
theorem dX0_clocks_27 : decode cX0_clocks 27 = .ok (.sipush 9999, 3) := by decide +kernel
theorem dX0_clocks_30 : decode cX0_clocks 30 = .ok (.if_icmp .le 13, 3) := by decide +kernel
theorem dX0_clocks_33 : decode cX0_clocks 33 = .ok (.new 56, 3) := by decide +kernel
theorem dX0_clocks_36 : decode cX0_clocks 36 = .ok (.dup, 1) := by decide +kernel
theorem dX0_clocks_37 : decode cX0_clocks 37 = .ok (.ldc 90, 2) := by decide +kernel
theorem dX0_clocks_39 : decode cX0_clocks 39 = .ok (.invokespecial 60, 3) := by decide +kernel
theorem dX0_clocks_42 : decode cX0_clocks 42 = .ok (.athrow, 1) := by decide +kernel
theorem dX0_clocks_43 : decode cX0_clocks 43 = .ok (.aload_n 0, 1) := by decide +kernel
theorem dX0_clocks_44 : decode cX0_clocks 44 = .ok (.iload_n 1, 1) := by decide +kernel
theorem dX0_clocks_45 : decode cX0_clocks 45 = .ok (.putfield 92, 3) := by decide +kernel
theorem dX0_clocks_48 : decode cX0_clocks 48 = .ok (.aload_n 0, 1) := by decide +kernel
theorem dX0_clocks_49 : decode cX0_clocks 49 = .ok (.iload_n 2, 1) := by decide +kernel
theorem dX0_clocks_50 : decode cX0_clocks 50 = .ok (.putfield 95, 3) := by decide +kernel
theorem dX0_clocks_53 : decode cX0_clocks 53 = .ok (.aload_n 0, 1) := by decide +kernel
theorem dX0_clocks_54 : decode cX0_clocks 54 = .ok (.invokevirtual 70, 3) := by decide +kernel
theorem dX0_clocks_57 : decode cX0_clocks 57 = .ok (.return_, 1) := by decide +kernel
set_option maxRecDepth 20000 in
theorem ggX0_fits_X0_fromOf : GoodIn wsX0_fits wsX0_fromOf := goodIn_r _ [6] (by decide +kernel) (by decide +kernel)
set_option maxRecDepth 20000 in
theorem gX0_fits_X0_fromOf : GoodIn wsX0_fits (va_wsS RX0 98 yX0_fromOf wsX0_fromOf) := goodIn_app (goodIn_of _ (by decide +kernel)) ggX0_fits_X0_fromOf
set_option maxRecDepth 20000 in
theorem ggX0_fits_X0_toOf : GoodIn wsX0_fits wsX0_toOf := goodIn_r _ [9] (by decide +kernel) (by decide +kernel)
set_option maxRecDepth 20000 in
theorem gX0_fits_X0_toOf : GoodIn wsX0_fits (va_wsS RX0 102 yX0_toOf wsX0_toOf) := goodIn_app (goodIn_of _ (by decide +kernel)) ggX0_fits_X0_toOf
set_option maxRecDepth 20000 in
theorem ggX0_fits_X0_sideOf : GoodIn wsX0_fits wsX0_sideOf := goodIn_r _ [12] (by decide +kernel) (by decide +kernel)
set_option maxRecDepth 20000 in
theorem gX0_fits_X0_sideOf : GoodIn wsX0_fits (va_wsS RX0 105 yX0_sideOf wsX0_sideOf) := goodIn_app (goodIn_of _ (by decide +kernel)) ggX0_fits_X0_sideOf
set_option maxRecDepth 20000 in
theorem ggX0_fits_X0_typeOf : GoodIn wsX0_fits wsX0_typeOf := goodIn_r _ [15] (by decide +kernel) (by decide +kernel)
set_option maxRecDepth 20000 in
theorem gX0_fits_X0_typeOf : GoodIn wsX0_fits (va_wsS RX0 108 yX0_typeOf wsX0_typeOf) := goodIn_app (goodIn_of _ (by decide +kernel)) ggX0_fits_X0_typeOf
set_option maxRecDepth 20000 in
theorem ggX0_fits_X0_kindOf : GoodIn wsX0_fits wsX0_kindOf := goodIn_r _ [18] (by decide +kernel) (by decide +kernel)
set_option maxRecDepth 20000 in
theorem gX0_fits_X0_kindOf : GoodIn wsX0_fits (va_wsS RX0 111 yX0_kindOf wsX0_kindOf) := goodIn_app (goodIn_of _ (by decide +kernel)) ggX0_fits_X0_kindOf
set_option maxRecDepth 20000 in
theorem ggX0_fits_X0_becomesWhatItMay : GoodIn wsX0_fits wsX0_becomesWhatItMay := goodIn_r _ [21, 13, 14, 5, 15, 22, 23, 24, 10, 11, 12, 25, 26, 27] (by decide +kernel) (by decide +kernel)
set_option maxRecDepth 20000 in
theorem gX0_fits_X0_becomesWhatItMay : GoodIn wsX0_fits (va_wsS RX0 114 yX0_becomesWhatItMay wsX0_becomesWhatItMay) := goodIn_app (goodIn_of _ (by decide +kernel)) ggX0_fits_X0_becomesWhatItMay
set_option maxRecDepth 20000 in
theorem ggX0_fits_X0_goes : GoodIn wsX0_fits wsX0_goes := goodIn_r _ [31, 1, 13, 14, 5, 15, 32, 33, 34, 35, 2, 36, 37, 38, 39, 40, 41, 42, 43, 44, 45, 22, 23, 24, 46, 47, 48, 49, 50, 51, 52, 53, 54, 55, 56, 57, 58, 59, 60, 61, 62, 10, 11, 12, 63, 64, 65, 66, 67, 68, 69, 70, 71, 72, 73, 74, 75, 76, 77, 78, 79, 80, 81, 82, 83, 84, 85, 86, 87, 88, 89, 90, 91, 92, 93, 94, 95, 96, 97, 98, 99, 100, 101, 102, 103, 104, 105, 106, 107, 108, 109, 110, 111, 112, 113, 114, 115, 116, 117, 118, 119, 120, 121, 122, 123, 124, 125, 126] (by decide +kernel) (by decide +kernel)
set_option maxRecDepth 20000 in
theorem gX0_fits_X0_goes : GoodIn wsX0_fits (wsV RX0 118 RX0 yX0_goes wsX0_goes) := goodIn_app (goodIn_of _ (by decide +kernel)) ggX0_fits_X0_goes
theorem dX0_fits_0 : decode cX0_fits 0 = .ok (.iload_n 1, 1) := by decide +kernel
theorem dX0_fits_1 : decode cX0_fits 1 = .ok (.ifCond .ge 5, 3) := by decide +kernel
theorem dX0_fits_4 : decode cX0_fits 4 = .ok (.iconst 0, 1) := by decide +kernel
theorem dX0_fits_5 : decode cX0_fits 5 = .ok (.ireturn, 1) := by decide +kernel
theorem dX0_fits_6 : decode cX0_fits 6 = .ok (.iload_n 1, 1) := by decide +kernel
theorem dX0_fits_7 : decode cX0_fits 7 = .ok (.invokestatic 98, 3) := by decide +kernel
theorem dX0_fits_10 : decode cX0_fits 10 = .ok (.istore_n 2, 1) := by decide +kernel
theorem dX0_fits_11 : decode cX0_fits 11 = .ok (.iload_n 1, 1) := by decide +kernel
theorem dX0_fits_12 : decode cX0_fits 12 = .ok (.invokestatic 102, 3) := by decide +kernel
theorem dX0_fits_15 : decode cX0_fits 15 = .ok (.istore_n 3, 1) := by decide +kernel
theorem dX0_fits_16 : decode cX0_fits 16 = .ok (.aload_n 0, 1) := by decide +kernel
theorem dX0_fits_17 : decode cX0_fits 17 = .ok (.getfield 9, 3) := by decide +kernel
theorem dX0_fits_20 : decode cX0_fits 20 = .ok (.iload_n 2, 1) := by decide +kernel
theorem dX0_fits_21 : decode cX0_fits 21 = .ok (.iaload, 1) := by decide +kernel
theorem dX0_fits_22 : decode cX0_fits 22 = .ok (.invokestatic 105, 3) := by decide +kernel
theorem dX0_fits_25 : decode cX0_fits 25 = .ok (.aload_n 0, 1) := by decide +kernel
theorem dX0_fits_26 : decode cX0_fits 26 = .ok (.getfield 82, 3) := by decide +kernel
theorem dX0_fits_29 : decode cX0_fits 29 = .ok (.if_icmp .ne 63, 3) := by decide +kernel
theorem dX0_fits_32 : decode cX0_fits 32 = .ok (.aload_n 0, 1) := by decide +kernel
theorem dX0_fits_33 : decode cX0_fits 33 = .ok (.getfield 9, 3) := by decide +kernel
theorem dX0_fits_36 : decode cX0_fits 36 = .ok (.iload_n 3, 1) := by decide +kernel
theorem dX0_fits_37 : decode cX0_fits 37 = .ok (.iaload, 1) := by decide +kernel
theorem dX0_fits_38 : decode cX0_fits 38 = .ok (.invokestatic 105, 3) := by decide +kernel
theorem dX0_fits_41 : decode cX0_fits 41 = .ok (.aload_n 0, 1) := by decide +kernel
theorem dX0_fits_42 : decode cX0_fits 42 = .ok (.getfield 82, 3) := by decide +kernel
theorem dX0_fits_45 : decode cX0_fits 45 = .ok (.if_icmp .eq 47, 3) := by decide +kernel
theorem dX0_fits_48 : decode cX0_fits 48 = .ok (.aload_n 0, 1) := by decide +kernel
theorem dX0_fits_49 : decode cX0_fits 49 = .ok (.getfield 9, 3) := by decide +kernel
theorem dX0_fits_52 : decode cX0_fits 52 = .ok (.iload_n 3, 1) := by decide +kernel
theorem dX0_fits_53 : decode cX0_fits 53 = .ok (.iaload, 1) := by decide +kernel
theorem dX0_fits_54 : decode cX0_fits 54 = .ok (.invokestatic 108, 3) := by decide +kernel
theorem dX0_fits_57 : decode cX0_fits 57 = .ok (.bipush 6, 2) := by decide +kernel
theorem dX0_fits_59 : decode cX0_fits 59 = .ok (.if_icmp .eq 33, 3) := by decide +kernel
theorem dX0_fits_62 : decode cX0_fits 62 = .ok (.aload_n 0, 1) := by decide +kernel
theorem dX0_fits_63 : decode cX0_fits 63 = .ok (.getfield 9, 3) := by decide +kernel
theorem dX0_fits_66 : decode cX0_fits 66 = .ok (.iload_n 2, 1) := by decide +kernel
theorem dX0_fits_67 : decode cX0_fits 67 = .ok (.iaload, 1) := by decide +kernel
theorem dX0_fits_68 : decode cX0_fits 68 = .ok (.iload_n 3, 1) := by decide +kernel
theorem dX0_fits_69 : decode cX0_fits 69 = .ok (.iload_n 1, 1) := by decide +kernel
theorem dX0_fits_70 : decode cX0_fits 70 = .ok (.invokestatic 111, 3) := by decide +kernel
theorem dX0_fits_73 : decode cX0_fits 73 = .ok (.invokestatic 114, 3) := by decide +kernel
theorem dX0_fits_76 : decode cX0_fits 76 = .ok (.ifCond .eq 16, 3) := by decide +kernel
theorem dX0_fits_79 : decode cX0_fits 79 = .ok (.aload_n 0, 1) := by decide +kernel
theorem dX0_fits_80 : decode cX0_fits 80 = .ok (.iload_n 2, 1) := by decide +kernel
theorem dX0_fits_81 : decode cX0_fits 81 = .ok (.iload_n 3, 1) := by decide +kernel
theorem dX0_fits_82 : decode cX0_fits 82 = .ok (.invokevirtual 118, 3) := by decide +kernel
theorem dX0_fits_85 : decode cX0_fits 85 = .ok (.ifCond .eq 7, 3) := by decide +kernel
theorem dX0_fits_88 : decode cX0_fits 88 = .ok (.iconst 1, 1) := by decide +kernel
theorem dX0_fits_89 : decode cX0_fits 89 = .ok (.goto 4, 3) := by decide +kernel
theorem dX0_fits_92 : decode cX0_fits 92 = .ok (.iconst 0, 1) := by decide +kernel
theorem dX0_fits_93 : decode cX0_fits 93 = .ok (.ireturn, 1) := by decide +kernel
set_option maxRecDepth 20000 in
theorem ggX0_make_X0_fits : GoodIn wsX0_make wsX0_fits := goodIn_r _ [16, 6, 10, 17, 18, 15, 19, 20, 21, 22, 23, 24, 25, 26, 27, 28, 29, 30, 31, 32, 33, 34, 35, 36, 37, 38, 39, 40, 41, 42, 43, 44, 45, 46, 47, 48, 49, 50, 51, 52, 53, 54, 55, 56, 57, 58, 59, 60, 61, 62, 63, 64, 65, 66, 67, 68, 69, 70, 71, 72, 73, 74, 75, 76, 77, 78, 79, 80, 81, 82, 8, 83, 84, 85, 86, 87, 88, 89, 90, 91, 92, 93, 94, 95, 96, 97, 98, 99, 100, 101, 102, 103, 104, 105, 106, 107, 108, 109, 110, 111, 112, 7, 113, 114, 115, 116, 117, 118, 119, 120, 121, 122, 123, 124, 157, 158, 159, 160, 161, 162, 163, 164, 165, 166, 167, 168, 169] (by decide +kernel) (by decide +kernel)
set_option maxRecDepth 20000 in
theorem gX0_make_X0_fits : GoodIn wsX0_make (wsV RX0 122 RX0 yX0_fits wsX0_fits) := goodIn_app (goodIn_of _ (by decide +kernel)) ggX0_make_X0_fits
set_option maxRecDepth 20000 in
theorem ggX0_make_X0_fromOf : GoodIn wsX0_make wsX0_fromOf := goodIn_r _ [19] (by decide +kernel) (by decide +kernel)
set_option maxRecDepth 20000 in
theorem gX0_make_X0_fromOf : GoodIn wsX0_make (va_wsS RX0 98 yX0_fromOf wsX0_fromOf) := goodIn_app (goodIn_of _ (by decide +kernel)) ggX0_make_X0_fromOf
set_option maxRecDepth 20000 in
theorem ggX0_make_X0_toOf : GoodIn wsX0_make wsX0_toOf := goodIn_r _ [22] (by decide +kernel) (by decide +kernel)
set_option maxRecDepth 20000 in
theorem gX0_make_X0_toOf : GoodIn wsX0_make (va_wsS RX0 102 yX0_toOf wsX0_toOf) := goodIn_app (goodIn_of _ (by decide +kernel)) ggX0_make_X0_toOf
set_option maxRecDepth 20000 in
theorem ggX0_make_X0_squareTaken : GoodIn wsX0_make wsX0_squareTaken := goodIn_r _ [128, 6, 10, 26, 27, 15, 28, 66, 67, 68, 69, 70, 71, 72, 35, 36, 37, 49, 50, 51, 73, 74, 75, 79, 80, 81, 82, 8, 52, 53, 54, 55, 56, 57, 58, 83, 84, 85, 86, 76, 77, 78, 87, 88, 89, 90, 91, 92, 93, 157, 158, 159, 160, 161, 162, 163, 164, 165, 166, 167, 168, 169] (by decide +kernel) (by decide +kernel)
set_option maxRecDepth 20000 in
theorem gX0_make_X0_squareTaken : GoodIn wsX0_make (wsV RX0 132 RX0 yX0_squareTaken wsX0_squareTaken) := goodIn_app (goodIn_of _ (by decide +kernel)) ggX0_make_X0_squareTaken
set_option maxRecDepth 20000 in
theorem ggX0_make_X0_remember : GoodIn wsX0_make wsX0_remember := goodIn_r _ [132, 133, 5, 134, 135, 136, 7, 137, 8, 138, 9, 157, 158, 159, 160, 161, 162, 163, 164, 165, 166, 167, 168, 169] (by decide +kernel) (by decide +kernel)
set_option maxRecDepth 20000 in
theorem gX0_make_X0_remember : GoodIn wsX0_make (wsV RX0 135 RX0 yX0_remember wsX0_remember) := goodIn_app (goodIn_of _ (by decide +kernel)) ggX0_make_X0_remember
set_option maxRecDepth 20000 in
theorem ggX0_make_X0_carryOver : GoodIn wsX0_make wsX0_carryOver := goodIn_r _ [142, 6, 10, 17, 18, 15, 19, 20, 21, 22, 29, 30, 31, 143, 144, 145, 26, 27, 28, 116, 117, 118, 69, 70, 71, 72, 35, 36, 37, 119, 120, 121, 146, 147, 148, 149, 56, 57, 58, 87, 88, 89, 157, 158, 159, 160, 161, 162, 163, 164, 165, 166, 167, 168, 169] (by decide +kernel) (by decide +kernel)
set_option maxRecDepth 20000 in
theorem gX0_make_X0_carryOver : GoodIn wsX0_make (wsV RX0 139 RX0 yX0_carryOver wsX0_carryOver) := goodIn_app (goodIn_of _ (by decide +kernel)) ggX0_make_X0_carryOver
set_option maxRecDepth 20000 in
theorem ggX0_make_X0_rightsOfKing : GoodIn wsX0_make wsX0_rightsOfKing := goodIn_r _ [152, 26, 27, 15, 28, 23, 24, 25] (by decide +kernel) (by decide +kernel)
set_option maxRecDepth 20000 in
theorem gX0_make_X0_rightsOfKing : GoodIn wsX0_make (va_wsS RX0 143 yX0_rightsOfKing wsX0_rightsOfKing) := goodIn_app (goodIn_of _ (by decide +kernel)) ggX0_make_X0_rightsOfKing
set_option maxRecDepth 20000 in
theorem ggX0_make_X0_rightOfCorner : GoodIn wsX0_make wsX0_rightOfCorner := goodIn_r _ [124] (by decide +kernel) (by decide +kernel)
set_option maxRecDepth 20000 in
theorem gX0_make_X0_rightOfCorner : GoodIn wsX0_make (va_wsS RX0 146 yX0_rightOfCorner wsX0_rightOfCorner) := goodIn_app (goodIn_of _ (by decide +kernel)) ggX0_make_X0_rightOfCorner
set_option maxRecDepth 20000 in
theorem ggX0_make_X0_passingBehind : GoodIn wsX0_make wsX0_passingBehind := goodIn_r _ [156, 6, 69, 70, 71, 72, 10, 26, 27, 15, 28, 76, 77, 78, 87, 88, 89, 66, 67, 68, 35, 36, 37, 49, 50, 51, 73, 74, 75, 157, 158, 159, 160, 161, 162, 163, 164, 165, 166, 167, 168, 169] (by decide +kernel) (by decide +kernel)
set_option maxRecDepth 20000 in
theorem gX0_make_X0_passingBehind : GoodIn wsX0_make (wsV RX0 149 RX0 yX0_passingBehind wsX0_passingBehind) := goodIn_app (goodIn_of _ (by decide +kernel)) ggX0_make_X0_passingBehind
set_option maxRecDepth 20000 in
theorem ggX0_make_X0_typeOf : GoodIn wsX0_make wsX0_typeOf := goodIn_r _ [28] (by decide +kernel) (by decide +kernel)
set_option maxRecDepth 20000 in
theorem gX0_make_X0_typeOf : GoodIn wsX0_make (va_wsS RX0 108 yX0_typeOf wsX0_typeOf) := goodIn_app (goodIn_of _ (by decide +kernel)) ggX0_make_X0_typeOf
set_option maxRecDepth 20000 in
theorem ggX0_make_X0_otherThan : GoodIn wsX0_make wsX0_otherThan := goodIn_r _ [78] (by decide +kernel) (by decide +kernel)
set_option maxRecDepth 20000 in
theorem gX0_make_X0_otherThan : GoodIn wsX0_make (va_wsS RX0 152 yX0_otherThan wsX0_otherThan) := goodIn_app (goodIn_of _ (by decide +kernel)) ggX0_make_X0_otherThan
theorem dX0_make_0 : decode cX0_make 0 = .ok (.aload_n 0, 1) := by decide +kernel
theorem dX0_make_1 : decode cX0_make 1 = .ok (.iload_n 1, 1) := by decide +kernel
theorem dX0_make_2 : decode cX0_make 2 = .ok (.invokevirtual 122, 3) := by decide +kernel
theorem dX0_make_5 : decode cX0_make 5 = .ok (.ifCond .ne 13, 3) := by decide +kernel
theorem dX0_make_8 : decode cX0_make 8 = .ok (.new 56, 3) := by decide +kernel
theorem dX0_make_11 : decode cX0_make 11 = .ok (.dup, 1) := by decide +kernel
theorem dX0_make_12 : decode cX0_make 12 = .ok (.ldc 125, 2) := by decide +kernel
theorem dX0_make_14 : decode cX0_make 14 = .ok (.invokespecial 60, 3) := by decide +kernel
theorem dX0_make_17 : decode cX0_make 17 = .ok (.athrow, 1) := by decide +kernel
theorem dX0_make_18 : decode cX0_make 18 = .ok (.aload_n 0, 1) := by decide +kernel
theorem dX0_make_19 : decode cX0_make 19 = .ok (.getfield 127, 3) := by decide +kernel
theorem dX0_make_22 : decode cX0_make 22 = .ok (.sipush 600, 3) := by decide +kernel
theorem dX0_make_25 : decode cX0_make 25 = .ok (.if_icmp .lt 13, 3) := by decide +kernel
theorem dX0_make_28 : decode cX0_make 28 = .ok (.new 65, 3) := by decide +kernel
theorem dX0_make_31 : decode cX0_make 31 = .ok (.dup, 1) := by decide +kernel
theorem dX0_make_32 : decode cX0_make 32 = .ok (.ldc 130, 2) := by decide +kernel
theorem dX0_make_34 : decode cX0_make 34 = .ok (.invokespecial 69, 3) := by decide +kernel
theorem dX0_make_37 : decode cX0_make 37 = .ok (.athrow, 1) := by decide +kernel
theorem dX0_make_38 : decode cX0_make 38 = .ok (.iload_n 1, 1) := by decide +kernel
theorem dX0_make_39 : decode cX0_make 39 = .ok (.invokestatic 98, 3) := by decide +kernel
theorem dX0_make_42 : decode cX0_make 42 = .ok (.istore_n 2, 1) := by decide +kernel
theorem dX0_make_43 : decode cX0_make 43 = .ok (.iload_n 1, 1) := by decide +kernel
theorem dX0_make_44 : decode cX0_make 44 = .ok (.invokestatic 102, 3) := by decide +kernel
theorem dX0_make_47 : decode cX0_make 47 = .ok (.istore_n 3, 1) := by decide +kernel
theorem dX0_make_48 : decode cX0_make 48 = .ok (.aload_n 0, 1) := by decide +kernel
theorem dX0_make_49 : decode cX0_make 49 = .ok (.getfield 9, 3) := by decide +kernel
theorem dX0_make_52 : decode cX0_make 52 = .ok (.iload_n 2, 1) := by decide +kernel
theorem dX0_make_53 : decode cX0_make 53 = .ok (.iaload, 1) := by decide +kernel
theorem dX0_make_54 : decode cX0_make 54 = .ok (.istore 4, 2) := by decide +kernel
theorem dX0_make_56 : decode cX0_make 56 = .ok (.aload_n 0, 1) := by decide +kernel
theorem dX0_make_57 : decode cX0_make 57 = .ok (.iload_n 2, 1) := by decide +kernel
theorem dX0_make_58 : decode cX0_make 58 = .ok (.iload_n 3, 1) := by decide +kernel
theorem dX0_make_59 : decode cX0_make 59 = .ok (.invokevirtual 132, 3) := by decide +kernel
theorem dX0_make_62 : decode cX0_make 62 = .ok (.istore 5, 2) := by decide +kernel
theorem dX0_make_64 : decode cX0_make 64 = .ok (.aload_n 0, 1) := by decide +kernel
theorem dX0_make_65 : decode cX0_make 65 = .ok (.getfield 9, 3) := by decide +kernel
theorem dX0_make_68 : decode cX0_make 68 = .ok (.iload 5, 2) := by decide +kernel
theorem dX0_make_70 : decode cX0_make 70 = .ok (.iaload, 1) := by decide +kernel
theorem dX0_make_71 : decode cX0_make 71 = .ok (.istore 6, 2) := by decide +kernel
theorem dX0_make_73 : decode cX0_make 73 = .ok (.aload_n 0, 1) := by decide +kernel
theorem dX0_make_74 : decode cX0_make 74 = .ok (.iload_n 1, 1) := by decide +kernel
theorem dX0_make_75 : decode cX0_make 75 = .ok (.iload 6, 2) := by decide +kernel
theorem dX0_make_77 : decode cX0_make 77 = .ok (.iload 5, 2) := by decide +kernel
theorem dX0_make_79 : decode cX0_make 79 = .ok (.invokevirtual 135, 3) := by decide +kernel
theorem dX0_make_82 : decode cX0_make 82 = .ok (.aload_n 0, 1) := by decide +kernel
theorem dX0_make_83 : decode cX0_make 83 = .ok (.iload_n 1, 1) := by decide +kernel
theorem dX0_make_84 : decode cX0_make 84 = .ok (.iload 5, 2) := by decide +kernel
theorem dX0_make_86 : decode cX0_make 86 = .ok (.invokevirtual 139, 3) := by decide +kernel
theorem dX0_make_89 : decode cX0_make 89 = .ok (.aload_n 0, 1) := by decide +kernel
theorem dX0_make_90 : decode cX0_make 90 = .ok (.dup, 1) := by decide +kernel
theorem dX0_make_91 : decode cX0_make 91 = .ok (.getfield 41, 3) := by decide +kernel
theorem dX0_make_94 : decode cX0_make 94 = .ok (.iload 4, 2) := by decide +kernel
theorem dX0_make_96 : decode cX0_make 96 = .ok (.invokestatic 143, 3) := by decide +kernel
theorem dX0_make_99 : decode cX0_make 99 = .ok (.iload_n 2, 1) := by decide +kernel
theorem dX0_make_100 : decode cX0_make 100 = .ok (.invokestatic 146, 3) := by decide +kernel
theorem dX0_make_103 : decode cX0_make 103 = .ok (.ior, 1) := by decide +kernel
theorem dX0_make_104 : decode cX0_make 104 = .ok (.iload_n 3, 1) := by decide +kernel
theorem dX0_make_105 : decode cX0_make 105 = .ok (.invokestatic 146, 3) := by decide +kernel
theorem dX0_make_108 : decode cX0_make 108 = .ok (.ior, 1) := by decide +kernel
theorem dX0_make_109 : decode cX0_make 109 = .ok (.iconst (-1), 1) := by decide +kernel
theorem dX0_make_110 : decode cX0_make 110 = .ok (.ixor, 1) := by decide +kernel
theorem dX0_make_111 : decode cX0_make 111 = .ok (.iand, 1) := by decide +kernel
theorem dX0_make_112 : decode cX0_make 112 = .ok (.putfield 41, 3) := by decide +kernel
theorem dX0_make_115 : decode cX0_make 115 = .ok (.aload_n 0, 1) := by decide +kernel
theorem dX0_make_116 : decode cX0_make 116 = .ok (.aload_n 0, 1) := by decide +kernel
theorem dX0_make_117 : decode cX0_make 117 = .ok (.iload_n 2, 1) := by decide +kernel
theorem dX0_make_118 : decode cX0_make 118 = .ok (.iload_n 3, 1) := by decide +kernel
theorem dX0_make_119 : decode cX0_make 119 = .ok (.invokevirtual 149, 3) := by decide +kernel
theorem dX0_make_122 : decode cX0_make 122 = .ok (.putfield 85, 3) := by decide +kernel
theorem dX0_make_125 : decode cX0_make 125 = .ok (.aload_n 0, 1) := by decide +kernel
theorem dX0_make_126 : decode cX0_make 126 = .ok (.iload 4, 2) := by decide +kernel
theorem dX0_make_128 : decode cX0_make 128 = .ok (.invokestatic 108, 3) := by decide +kernel
theorem dX0_make_131 : decode cX0_make 131 = .ok (.iconst 1, 1) := by decide +kernel
theorem dX0_make_132 : decode cX0_make 132 = .ok (.if_icmp .eq 8, 3) := by decide +kernel
theorem dX0_make_135 : decode cX0_make 135 = .ok (.iload 6, 2) := by decide +kernel
theorem dX0_make_137 : decode cX0_make 137 = .ok (.ifCond .eq 7, 3) := by decide +kernel
theorem dX0_make_140 : decode cX0_make 140 = .ok (.iconst 0, 1) := by decide +kernel
theorem dX0_make_141 : decode cX0_make 141 = .ok (.goto 9, 3) := by decide +kernel
theorem dX0_make_144 : decode cX0_make 144 = .ok (.aload_n 0, 1) := by decide +kernel
theorem dX0_make_145 : decode cX0_make 145 = .ok (.getfield 92, 3) := by decide +kernel
theorem dX0_make_148 : decode cX0_make 148 = .ok (.iconst 1, 1) := by decide +kernel
theorem dX0_make_149 : decode cX0_make 149 = .ok (.iadd, 1) := by decide +kernel
theorem dX0_make_150 : decode cX0_make 150 = .ok (.putfield 92, 3) := by decide +kernel
theorem dX0_make_153 : decode cX0_make 153 = .ok (.aload_n 0, 1) := by decide +kernel
theorem dX0_make_154 : decode cX0_make 154 = .ok (.aload_n 0, 1) := by decide +kernel
theorem dX0_make_155 : decode cX0_make 155 = .ok (.getfield 82, 3) := by decide +kernel
theorem dX0_make_158 : decode cX0_make 158 = .ok (.iconst 1, 1) := by decide +kernel
theorem dX0_make_159 : decode cX0_make 159 = .ok (.if_icmp .ne 12, 3) := by decide +kernel
theorem dX0_make_162 : decode cX0_make 162 = .ok (.aload_n 0, 1) := by decide +kernel
theorem dX0_make_163 : decode cX0_make 163 = .ok (.getfield 95, 3) := by decide +kernel
theorem dX0_make_166 : decode cX0_make 166 = .ok (.iconst 1, 1) := by decide +kernel
theorem dX0_make_167 : decode cX0_make 167 = .ok (.iadd, 1) := by decide +kernel
theorem dX0_make_168 : decode cX0_make 168 = .ok (.goto 7, 3) := by decide +kernel
theorem dX0_make_171 : decode cX0_make 171 = .ok (.aload_n 0, 1) := by decide +kernel
theorem dX0_make_172 : decode cX0_make 172 = .ok (.getfield 95, 3) := by decide +kernel
theorem dX0_make_175 : decode cX0_make 175 = .ok (.putfield 95, 3) := by decide +kernel
theorem dX0_make_178 : decode cX0_make 178 = .ok (.aload_n 0, 1) := by decide +kernel
theorem dX0_make_179 : decode cX0_make 179 = .ok (.aload_n 0, 1) := by decide +kernel
theorem dX0_make_180 : decode cX0_make 180 = .ok (.getfield 82, 3) := by decide +kernel
theorem dX0_make_183 : decode cX0_make 183 = .ok (.invokestatic 152, 3) := by decide +kernel
theorem dX0_make_186 : decode cX0_make 186 = .ok (.putfield 82, 3) := by decide +kernel
theorem dX0_make_189 : decode cX0_make 189 = .ok (.iload 6, 2) := by decide +kernel
theorem dX0_make_191 : decode cX0_make 191 = .ok (.ireturn, 1) := by decide +kernel
set_option maxRecDepth 20000 in
theorem ggX0_unmake_X0_otherThan : GoodIn wsX0_unmake wsX0_otherThan := goodIn_r _ [18] (by decide +kernel) (by decide +kernel)
set_option maxRecDepth 20000 in
theorem gX0_unmake_X0_otherThan : GoodIn wsX0_unmake (va_wsS RX0 152 yX0_otherThan wsX0_otherThan) := goodIn_app (goodIn_of _ (by decide +kernel)) ggX0_unmake_X0_otherThan
set_option maxRecDepth 20000 in
theorem ggX0_unmake_X0_carryBack : GoodIn wsX0_unmake wsX0_carryBack := goodIn_r _ [22, 23, 11, 24, 25, 17, 26, 27, 28, 29, 30, 31, 32, 33, 34, 35, 36, 37, 38, 39, 40, 41, 42, 43, 44, 45, 46, 47, 48, 49, 50, 51, 52, 53, 54, 55, 56, 57, 58, 59, 60, 61, 62, 63, 64, 65, 66, 67, 68, 69, 70, 71, 72, 73, 74] (by decide +kernel) (by decide +kernel)
set_option maxRecDepth 20000 in
theorem gX0_unmake_X0_carryBack : GoodIn wsX0_unmake (wsV RX0 157 RX0 yX0_carryBack wsX0_carryBack) := goodIn_app (goodIn_of _ (by decide +kernel)) ggX0_unmake_X0_carryBack
theorem dX0_unmake_0 : decode cX0_unmake 0 = .ok (.aload_n 0, 1) := by decide +kernel
theorem dX0_unmake_1 : decode cX0_unmake 1 = .ok (.getfield 127, 3) := by decide +kernel
theorem dX0_unmake_4 : decode cX0_unmake 4 = .ok (.ifCond .gt 13, 3) := by decide +kernel
theorem dX0_unmake_7 : decode cX0_unmake 7 = .ok (.new 65, 3) := by decide +kernel
theorem dX0_unmake_10 : decode cX0_unmake 10 = .ok (.dup, 1) := by decide +kernel
theorem dX0_unmake_11 : decode cX0_unmake 11 = .ok (.ldc 155, 2) := by decide +kernel
theorem dX0_unmake_13 : decode cX0_unmake 13 = .ok (.invokespecial 69, 3) := by decide +kernel
theorem dX0_unmake_16 : decode cX0_unmake 16 = .ok (.athrow, 1) := by decide +kernel
theorem dX0_unmake_17 : decode cX0_unmake 17 = .ok (.aload_n 0, 1) := by decide +kernel
theorem dX0_unmake_18 : decode cX0_unmake 18 = .ok (.dup, 1) := by decide +kernel
theorem dX0_unmake_19 : decode cX0_unmake 19 = .ok (.getfield 127, 3) := by decide +kernel
theorem dX0_unmake_22 : decode cX0_unmake 22 = .ok (.iconst 1, 1) := by decide +kernel
theorem dX0_unmake_23 : decode cX0_unmake 23 = .ok (.isub, 1) := by decide +kernel
theorem dX0_unmake_24 : decode cX0_unmake 24 = .ok (.putfield 127, 3) := by decide +kernel
theorem dX0_unmake_27 : decode cX0_unmake 27 = .ok (.aload_n 0, 1) := by decide +kernel
theorem dX0_unmake_28 : decode cX0_unmake 28 = .ok (.getfield 13, 3) := by decide +kernel
theorem dX0_unmake_31 : decode cX0_unmake 31 = .ok (.aload_n 0, 1) := by decide +kernel
theorem dX0_unmake_32 : decode cX0_unmake 32 = .ok (.getfield 127, 3) := by decide +kernel
theorem dX0_unmake_35 : decode cX0_unmake 35 = .ok (.iaload, 1) := by decide +kernel
theorem dX0_unmake_36 : decode cX0_unmake 36 = .ok (.istore_n 1, 1) := by decide +kernel
theorem dX0_unmake_37 : decode cX0_unmake 37 = .ok (.aload_n 0, 1) := by decide +kernel
theorem dX0_unmake_38 : decode cX0_unmake 38 = .ok (.aload_n 0, 1) := by decide +kernel
theorem dX0_unmake_39 : decode cX0_unmake 39 = .ok (.getfield 22, 3) := by decide +kernel
theorem dX0_unmake_42 : decode cX0_unmake 42 = .ok (.aload_n 0, 1) := by decide +kernel
theorem dX0_unmake_43 : decode cX0_unmake 43 = .ok (.getfield 127, 3) := by decide +kernel
theorem dX0_unmake_46 : decode cX0_unmake 46 = .ok (.iaload, 1) := by decide +kernel
theorem dX0_unmake_47 : decode cX0_unmake 47 = .ok (.putfield 41, 3) := by decide +kernel
theorem dX0_unmake_50 : decode cX0_unmake 50 = .ok (.aload_n 0, 1) := by decide +kernel
theorem dX0_unmake_51 : decode cX0_unmake 51 = .ok (.aload_n 0, 1) := by decide +kernel
theorem dX0_unmake_52 : decode cX0_unmake 52 = .ok (.getfield 25, 3) := by decide +kernel
theorem dX0_unmake_55 : decode cX0_unmake 55 = .ok (.aload_n 0, 1) := by decide +kernel
theorem dX0_unmake_56 : decode cX0_unmake 56 = .ok (.getfield 127, 3) := by decide +kernel
theorem dX0_unmake_59 : decode cX0_unmake 59 = .ok (.iaload, 1) := by decide +kernel
theorem dX0_unmake_60 : decode cX0_unmake 60 = .ok (.putfield 85, 3) := by decide +kernel
theorem dX0_unmake_63 : decode cX0_unmake 63 = .ok (.aload_n 0, 1) := by decide +kernel
theorem dX0_unmake_64 : decode cX0_unmake 64 = .ok (.aload_n 0, 1) := by decide +kernel
theorem dX0_unmake_65 : decode cX0_unmake 65 = .ok (.getfield 28, 3) := by decide +kernel
theorem dX0_unmake_68 : decode cX0_unmake 68 = .ok (.aload_n 0, 1) := by decide +kernel
theorem dX0_unmake_69 : decode cX0_unmake 69 = .ok (.getfield 127, 3) := by decide +kernel
theorem dX0_unmake_72 : decode cX0_unmake 72 = .ok (.iaload, 1) := by decide +kernel
theorem dX0_unmake_73 : decode cX0_unmake 73 = .ok (.putfield 92, 3) := by decide +kernel
theorem dX0_unmake_76 : decode cX0_unmake 76 = .ok (.aload_n 0, 1) := by decide +kernel
theorem dX0_unmake_77 : decode cX0_unmake 77 = .ok (.aload_n 0, 1) := by decide +kernel
theorem dX0_unmake_78 : decode cX0_unmake 78 = .ok (.getfield 82, 3) := by decide +kernel
theorem dX0_unmake_81 : decode cX0_unmake 81 = .ok (.invokestatic 152, 3) := by decide +kernel
theorem dX0_unmake_84 : decode cX0_unmake 84 = .ok (.putfield 82, 3) := by decide +kernel
theorem dX0_unmake_87 : decode cX0_unmake 87 = .ok (.aload_n 0, 1) := by decide +kernel
theorem dX0_unmake_88 : decode cX0_unmake 88 = .ok (.aload_n 0, 1) := by decide +kernel
theorem dX0_unmake_89 : decode cX0_unmake 89 = .ok (.getfield 82, 3) := by decide +kernel
theorem dX0_unmake_92 : decode cX0_unmake 92 = .ok (.iconst 1, 1) := by decide +kernel
theorem dX0_unmake_93 : decode cX0_unmake 93 = .ok (.if_icmp .ne 12, 3) := by decide +kernel
theorem dX0_unmake_96 : decode cX0_unmake 96 = .ok (.aload_n 0, 1) := by decide +kernel
theorem dX0_unmake_97 : decode cX0_unmake 97 = .ok (.getfield 95, 3) := by decide +kernel
theorem dX0_unmake_100 : decode cX0_unmake 100 = .ok (.iconst 1, 1) := by decide +kernel
theorem dX0_unmake_101 : decode cX0_unmake 101 = .ok (.isub, 1) := by decide +kernel
theorem dX0_unmake_102 : decode cX0_unmake 102 = .ok (.goto 7, 3) := by decide +kernel
theorem dX0_unmake_105 : decode cX0_unmake 105 = .ok (.aload_n 0, 1) := by decide +kernel
theorem dX0_unmake_106 : decode cX0_unmake 106 = .ok (.getfield 95, 3) := by decide +kernel
theorem dX0_unmake_109 : decode cX0_unmake 109 = .ok (.putfield 95, 3) := by decide +kernel
theorem dX0_unmake_112 : decode cX0_unmake 112 = .ok (.aload_n 0, 1) := by decide +kernel
theorem dX0_unmake_113 : decode cX0_unmake 113 = .ok (.iload_n 1, 1) := by decide +kernel
theorem dX0_unmake_114 : decode cX0_unmake 114 = .ok (.aload_n 0, 1) := by decide +kernel
theorem dX0_unmake_115 : decode cX0_unmake 115 = .ok (.getfield 16, 3) := by decide +kernel
theorem dX0_unmake_118 : decode cX0_unmake 118 = .ok (.aload_n 0, 1) := by decide +kernel
theorem dX0_unmake_119 : decode cX0_unmake 119 = .ok (.getfield 127, 3) := by decide +kernel
theorem dX0_unmake_122 : decode cX0_unmake 122 = .ok (.iaload, 1) := by decide +kernel
theorem dX0_unmake_123 : decode cX0_unmake 123 = .ok (.aload_n 0, 1) := by decide +kernel
theorem dX0_unmake_124 : decode cX0_unmake 124 = .ok (.getfield 19, 3) := by decide +kernel
theorem dX0_unmake_127 : decode cX0_unmake 127 = .ok (.aload_n 0, 1) := by decide +kernel
theorem dX0_unmake_128 : decode cX0_unmake 128 = .ok (.getfield 127, 3) := by decide +kernel
theorem dX0_unmake_131 : decode cX0_unmake 131 = .ok (.iaload, 1) := by decide +kernel
theorem dX0_unmake_132 : decode cX0_unmake 132 = .ok (.invokevirtual 157, 3) := by decide +kernel
theorem dX0_unmake_135 : decode cX0_unmake 135 = .ok (.iload_n 1, 1) := by decide +kernel
theorem dX0_unmake_136 : decode cX0_unmake 136 = .ok (.ireturn, 1) := by decide +kernel
set_option maxRecDepth 20000 in
theorem ggX0_at_X0_isSquare : GoodIn wsX0_at wsX0_isSquare := goodIn_r _ [7] (by decide +kernel) (by decide +kernel)
set_option maxRecDepth 20000 in
theorem gX0_at_X0_isSquare : GoodIn wsX0_at (va_wsS RX0 45 yX0_isSquare wsX0_isSquare) := goodIn_app (goodIn_of _ (by decide +kernel)) ggX0_at_X0_isSquare
theorem dX0_at_0 : decode cX0_at 0 = .ok (.iload_n 1, 1) := by decide +kernel
theorem dX0_at_1 : decode cX0_at 1 = .ok (.invokestatic 45, 3) := by decide +kernel
theorem dX0_at_4 : decode cX0_at 4 = .ok (.ifCond .ne 13, 3) := by decide +kernel
theorem dX0_at_7 : decode cX0_at 7 = .ok (.new 49, 3) := by decide +kernel
theorem dX0_at_10 : decode cX0_at 10 = .ok (.dup, 1) := by decide +kernel
theorem dX0_at_11 : decode cX0_at 11 = .ok (.ldc 51, 2) := by decide +kernel
theorem dX0_at_13 : decode cX0_at 13 = .ok (.invokespecial 53, 3) := by decide +kernel
theorem dX0_at_16 : decode cX0_at 16 = .ok (.athrow, 1) := by decide +kernel
theorem dX0_at_17 : decode cX0_at 17 = .ok (.aload_n 0, 1) := by decide +kernel
theorem dX0_at_18 : decode cX0_at 18 = .ok (.getfield 9, 3) := by decide +kernel
theorem dX0_at_21 : decode cX0_at 21 = .ok (.iload_n 1, 1) := by decide +kernel
theorem dX0_at_22 : decode cX0_at 22 = .ok (.iaload, 1) := by decide +kernel
theorem dX0_at_23 : decode cX0_at 23 = .ok (.ireturn, 1) := by decide +kernel
theorem dX0_where_0 : decode cX0_where 0 = .ok (.lconst 0, 1) := by decide +kernel
theorem dX0_where_1 : decode cX0_where 1 = .ok (.lstore_n 2, 1) := by decide +kernel
theorem dX0_where_2 : decode cX0_where 2 = .ok (.iconst 0, 1) := by decide +kernel
theorem dX0_where_3 : decode cX0_where 3 = .ok (.istore 4, 2) := by decide +kernel
theorem dX0_where_5 : decode cX0_where 5 = .ok (.iload 4, 2) := by decide +kernel
theorem dX0_where_7 : decode cX0_where 7 = .ok (.bipush 64, 2) := by decide +kernel
theorem dX0_where_9 : decode cX0_where 9 = .ok (.if_icmp .ge 27, 3) := by decide +kernel
theorem dX0_where_12 : decode cX0_where 12 = .ok (.aload_n 0, 1) := by decide +kernel
theorem dX0_where_13 : decode cX0_where 13 = .ok (.getfield 9, 3) := by decide +kernel
theorem dX0_where_16 : decode cX0_where 16 = .ok (.iload 4, 2) := by decide +kernel
theorem dX0_where_18 : decode cX0_where 18 = .ok (.iaload, 1) := by decide +kernel
theorem dX0_where_19 : decode cX0_where 19 = .ok (.iload_n 1, 1) := by decide +kernel
theorem dX0_where_20 : decode cX0_where 20 = .ok (.if_icmp .ne 10, 3) := by decide +kernel
theorem dX0_where_23 : decode cX0_where 23 = .ok (.lload_n 2, 1) := by decide +kernel
theorem dX0_where_24 : decode cX0_where 24 = .ok (.lconst 1, 1) := by decide +kernel
theorem dX0_where_25 : decode cX0_where 25 = .ok (.iload 4, 2) := by decide +kernel
theorem dX0_where_27 : decode cX0_where 27 = .ok (.lshl, 1) := by decide +kernel
theorem dX0_where_28 : decode cX0_where 28 = .ok (.lor, 1) := by decide +kernel
theorem dX0_where_29 : decode cX0_where 29 = .ok (.lstore_n 2, 1) := by decide +kernel
theorem dX0_where_30 : decode cX0_where 30 = .ok (.iinc 4 1, 3) := by decide +kernel
theorem dX0_where_33 : decode cX0_where 33 = .ok (.goto (-28), 3) := by decide +kernel
theorem dX0_where_36 : decode cX0_where 36 = .ok (.lload_n 2, 1) := by decide +kernel
theorem dX0_where_37 : decode cX0_where 37 = .ok (.lreturn, 1) := by decide +kernel
set_option maxRecDepth 20000 in
theorem ggX0_attackers_X0_isSquare : GoodIn wsX0_attackers wsX0_isSquare := goodIn_r _ [9] (by decide +kernel) (by decide +kernel)
set_option maxRecDepth 20000 in
theorem gX0_attackers_X0_isSquare : GoodIn wsX0_attackers (va_wsS RX0 45 yX0_isSquare wsX0_isSquare) := goodIn_app (goodIn_of _ (by decide +kernel)) ggX0_attackers_X0_isSquare
set_option maxRecDepth 20000 in
theorem ggX0_attackers_X0_isSide : GoodIn wsX0_attackers wsX0_isSide := goodIn_r _ [12] (by decide +kernel) (by decide +kernel)
set_option maxRecDepth 20000 in
theorem gX0_attackers_X0_isSide : GoodIn wsX0_attackers (va_wsS RX0 73 yX0_isSide wsX0_isSide) := goodIn_app (goodIn_of _ (by decide +kernel)) ggX0_attackers_X0_isSide
set_option maxRecDepth 20000 in
theorem ggX0_attackers_X0_sideOf : GoodIn wsX0_attackers wsX0_sideOf := goodIn_r _ [15] (by decide +kernel) (by decide +kernel)
set_option maxRecDepth 20000 in
theorem gX0_attackers_X0_sideOf : GoodIn wsX0_attackers (va_wsS RX0 105 yX0_sideOf wsX0_sideOf) := goodIn_app (goodIn_of _ (by decide +kernel)) ggX0_attackers_X0_sideOf
set_option maxRecDepth 20000 in
theorem ggX0_attackers_X0_attacks : GoodIn wsX0_attackers wsX0_attacks := goodIn_r _ [19, 5, 20, 21, 22, 23, 24, 25, 8, 26, 27, 28, 29, 30, 31, 32, 13, 14, 15, 33, 34, 35, 36, 37, 38, 39, 40, 41, 42, 43, 44, 45, 46, 47, 48, 49, 50, 51, 52, 53, 6, 7, 9, 54, 55, 56, 57, 58, 59, 60, 61, 62, 63, 64, 65, 66] (by decide +kernel) (by decide +kernel)
set_option maxRecDepth 20000 in
theorem gX0_attackers_X0_attacks : GoodIn wsX0_attackers (wsV RX0 160 RX0 yX0_attacks wsX0_attacks) := goodIn_app (goodIn_of _ (by decide +kernel)) ggX0_attackers_X0_attacks
theorem dX0_attackers_0 : decode cX0_attackers 0 = .ok (.iload_n 1, 1) := by decide +kernel
theorem dX0_attackers_1 : decode cX0_attackers 1 = .ok (.invokestatic 45, 3) := by decide +kernel
theorem dX0_attackers_4 : decode cX0_attackers 4 = .ok (.ifCond .ne 13, 3) := by decide +kernel
theorem dX0_attackers_7 : decode cX0_attackers 7 = .ok (.new 49, 3) := by decide +kernel
theorem dX0_attackers_10 : decode cX0_attackers 10 = .ok (.dup, 1) := by decide +kernel
theorem dX0_attackers_11 : decode cX0_attackers 11 = .ok (.ldc 51, 2) := by decide +kernel
theorem dX0_attackers_13 : decode cX0_attackers 13 = .ok (.invokespecial 53, 3) := by decide +kernel
theorem dX0_attackers_16 : decode cX0_attackers 16 = .ok (.athrow, 1) := by decide +kernel
theorem dX0_attackers_17 : decode cX0_attackers 17 = .ok (.iload_n 2, 1) := by decide +kernel
theorem dX0_attackers_18 : decode cX0_attackers 18 = .ok (.invokestatic 73, 3) := by decide +kernel
theorem dX0_attackers_21 : decode cX0_attackers 21 = .ok (.ifCond .ne 13, 3) := by decide +kernel
theorem dX0_attackers_24 : decode cX0_attackers 24 = .ok (.new 56, 3) := by decide +kernel
theorem dX0_attackers_27 : decode cX0_attackers 27 = .ok (.dup, 1) := by decide +kernel
theorem dX0_attackers_28 : decode cX0_attackers 28 = .ok (.ldc 76, 2) := by decide +kernel
theorem dX0_attackers_30 : decode cX0_attackers 30 = .ok (.invokespecial 60, 3) := by decide +kernel
theorem dX0_attackers_33 : decode cX0_attackers 33 = .ok (.athrow, 1) := by decide +kernel
theorem dX0_attackers_34 : decode cX0_attackers 34 = .ok (.lconst 0, 1) := by decide +kernel
theorem dX0_attackers_35 : decode cX0_attackers 35 = .ok (.lstore_n 3, 1) := by decide +kernel
theorem dX0_attackers_36 : decode cX0_attackers 36 = .ok (.iconst 0, 1) := by decide +kernel
theorem dX0_attackers_37 : decode cX0_attackers 37 = .ok (.istore 5, 2) := by decide +kernel
theorem dX0_attackers_39 : decode cX0_attackers 39 = .ok (.iload 5, 2) := by decide +kernel
theorem dX0_attackers_41 : decode cX0_attackers 41 = .ok (.bipush 64, 2) := by decide +kernel
theorem dX0_attackers_43 : decode cX0_attackers 43 = .ok (.if_icmp .ge 40, 3) := by decide +kernel
theorem dX0_attackers_46 : decode cX0_attackers 46 = .ok (.aload_n 0, 1) := by decide +kernel
theorem dX0_attackers_47 : decode cX0_attackers 47 = .ok (.getfield 9, 3) := by decide +kernel
theorem dX0_attackers_50 : decode cX0_attackers 50 = .ok (.iload 5, 2) := by decide +kernel
theorem dX0_attackers_52 : decode cX0_attackers 52 = .ok (.iaload, 1) := by decide +kernel
theorem dX0_attackers_53 : decode cX0_attackers 53 = .ok (.invokestatic 105, 3) := by decide +kernel
theorem dX0_attackers_56 : decode cX0_attackers 56 = .ok (.iload_n 2, 1) := by decide +kernel
theorem dX0_attackers_57 : decode cX0_attackers 57 = .ok (.if_icmp .ne 20, 3) := by decide +kernel
theorem dX0_attackers_60 : decode cX0_attackers 60 = .ok (.aload_n 0, 1) := by decide +kernel
theorem dX0_attackers_61 : decode cX0_attackers 61 = .ok (.iload 5, 2) := by decide +kernel
theorem dX0_attackers_63 : decode cX0_attackers 63 = .ok (.iload_n 1, 1) := by decide +kernel
theorem dX0_attackers_64 : decode cX0_attackers 64 = .ok (.invokevirtual 160, 3) := by decide +kernel
theorem dX0_attackers_67 : decode cX0_attackers 67 = .ok (.ifCond .eq 10, 3) := by decide +kernel
theorem dX0_attackers_70 : decode cX0_attackers 70 = .ok (.lload_n 3, 1) := by decide +kernel
theorem dX0_attackers_71 : decode cX0_attackers 71 = .ok (.lconst 1, 1) := by decide +kernel
theorem dX0_attackers_72 : decode cX0_attackers 72 = .ok (.iload 5, 2) := by decide +kernel
theorem dX0_attackers_74 : decode cX0_attackers 74 = .ok (.lshl, 1) := by decide +kernel
theorem dX0_attackers_75 : decode cX0_attackers 75 = .ok (.lor, 1) := by decide +kernel
theorem dX0_attackers_76 : decode cX0_attackers 76 = .ok (.lstore_n 3, 1) := by decide +kernel
theorem dX0_attackers_77 : decode cX0_attackers 77 = .ok (.iinc 5 1, 3) := by decide +kernel
theorem dX0_attackers_80 : decode cX0_attackers 80 = .ok (.goto (-41), 3) := by decide +kernel
theorem dX0_attackers_83 : decode cX0_attackers 83 = .ok (.lload_n 3, 1) := by decide +kernel
theorem dX0_attackers_84 : decode cX0_attackers 84 = .ok (.lreturn, 1) := by decide +kernel
set_option maxRecDepth 20000 in
theorem ggX0_check_X0_isSide : GoodIn wsX0_check wsX0_isSide := goodIn_r _ [5] (by decide +kernel) (by decide +kernel)
set_option maxRecDepth 20000 in
theorem gX0_check_X0_isSide : GoodIn wsX0_check (va_wsS RX0 73 yX0_isSide wsX0_isSide) := goodIn_app (goodIn_of _ (by decide +kernel)) ggX0_check_X0_isSide
set_option maxRecDepth 20000 in
theorem ggX0_check_X0_pieceOf : GoodIn wsX0_check wsX0_pieceOf := goodIn_r _ [8] (by decide +kernel) (by decide +kernel)
set_option maxRecDepth 20000 in
theorem gX0_check_X0_pieceOf : GoodIn wsX0_check (va_wsS RX0 37 yX0_pieceOf wsX0_pieceOf) := goodIn_app (goodIn_of _ (by decide +kernel)) ggX0_check_X0_pieceOf
set_option maxRecDepth 20000 in
theorem ggX0_check_X0_otherThan : GoodIn wsX0_check wsX0_otherThan := goodIn_r _ [11] (by decide +kernel) (by decide +kernel)
set_option maxRecDepth 20000 in
theorem gX0_check_X0_otherThan : GoodIn wsX0_check (va_wsS RX0 152 yX0_otherThan wsX0_otherThan) := goodIn_app (goodIn_of _ (by decide +kernel)) ggX0_check_X0_otherThan
