set_option maxRecDepth 20000 in
theorem ggX0_check_X0_attackers : GoodIn wsX0_check wsX0_attackers := goodIn_ca (goodIn_ca (goodIn_r _ [15, 16, 17, 18, 19, 1, 20, 21, 4, 22, 2, 3, 5, 23, 24, 25, 26, 27, 28, 29, 30, 31, 32, 33, 34, 35, 36, 37, 38, 39, 40, 41, 42, 43, 44, 45, 46, 47, 48, 49, 50, 51, 52, 53, 54, 55, 56, 57, 58, 59, 60, 61, 62, 63, 64, 65, 66, 67, 68, 69, 70, 71, 72, 73, 74, 75, 76] (by decide +kernel) (by decide +kernel)) (goodIn_sub (fun _ h => List.mem_cons_of_mem _ (List.mem_append_left _ (List.mem_append_right _ h))) (by decide +kernel))) (goodIn_sub (fun _ h => List.mem_cons_of_mem _ (List.mem_append_right _ h)) (by decide +kernel))
set_option maxRecDepth 20000 in
theorem gX0_check_X0_attackers : GoodIn wsX0_check (wsV RX0 163 RX0 yX0_attackers wsX0_attackers) := goodIn_app (goodIn_of _ (by decide +kernel)) ggX0_check_X0_attackers
theorem dX0_check_0 : decode cX0_check 0 = .ok (.iload_n 1, 1) := by decide +kernel
theorem dX0_check_1 : decode cX0_check 1 = .ok (.invokestatic 73, 3) := by decide +kernel
theorem dX0_check_4 : decode cX0_check 4 = .ok (.ifCond .ne 5, 3) := by decide +kernel
theorem dX0_check_7 : decode cX0_check 7 = .ok (.iconst 0, 1) := by decide +kernel
theorem dX0_check_8 : decode cX0_check 8 = .ok (.ireturn, 1) := by decide +kernel
theorem dX0_check_9 : decode cX0_check 9 = .ok (.iconst 0, 1) := by decide +kernel
theorem dX0_check_10 : decode cX0_check 10 = .ok (.istore_n 2, 1) := by decide +kernel
theorem dX0_check_11 : decode cX0_check 11 = .ok (.iload_n 2, 1) := by decide +kernel
theorem dX0_check_12 : decode cX0_check 12 = .ok (.bipush 64, 2) := by decide +kernel
theorem dX0_check_14 : decode cX0_check 14 = .ok (.if_icmp .ge 40, 3) := by decide +kernel
theorem dX0_check_17 : decode cX0_check 17 = .ok (.aload_n 0, 1) := by decide +kernel
theorem dX0_check_18 : decode cX0_check 18 = .ok (.getfield 9, 3) := by decide +kernel
theorem dX0_check_21 : decode cX0_check 21 = .ok (.iload_n 2, 1) := by decide +kernel
theorem dX0_check_22 : decode cX0_check 22 = .ok (.iaload, 1) := by decide +kernel
theorem dX0_check_23 : decode cX0_check 23 = .ok (.bipush 6, 2) := by decide +kernel
theorem dX0_check_25 : decode cX0_check 25 = .ok (.iload_n 1, 1) := by decide +kernel
theorem dX0_check_26 : decode cX0_check 26 = .ok (.invokestatic 37, 3) := by decide +kernel
theorem dX0_check_29 : decode cX0_check 29 = .ok (.if_icmp .ne 19, 3) := by decide +kernel
theorem dX0_check_32 : decode cX0_check 32 = .ok (.aload_n 0, 1) := by decide +kernel
theorem dX0_check_33 : decode cX0_check 33 = .ok (.iload_n 2, 1) := by decide +kernel
theorem dX0_check_34 : decode cX0_check 34 = .ok (.iload_n 1, 1) := by decide +kernel
theorem dX0_check_35 : decode cX0_check 35 = .ok (.invokestatic 152, 3) := by decide +kernel
theorem dX0_check_38 : decode cX0_check 38 = .ok (.invokevirtual 163, 3) := by decide +kernel
theorem dX0_check_41 : decode cX0_check 41 = .ok (.lconst 0, 1) := by decide +kernel
theorem dX0_check_42 : decode cX0_check 42 = .ok (.lcmp, 1) := by decide +kernel
theorem dX0_check_43 : decode cX0_check 43 = .ok (.ifCond .eq 5, 3) := by decide +kernel
theorem dX0_check_46 : decode cX0_check 46 = .ok (.iconst 1, 1) := by decide +kernel
theorem dX0_check_47 : decode cX0_check 47 = .ok (.ireturn, 1) := by decide +kernel
theorem dX0_check_48 : decode cX0_check 48 = .ok (.iinc 2 1, 3) := by decide +kernel
theorem dX0_check_51 : decode cX0_check 51 = .ok (.goto (-40), 3) := by decide +kernel
theorem dX0_check_54 : decode cX0_check 54 = .ok (.iconst 0, 1) := by decide +kernel
theorem dX0_check_55 : decode cX0_check 55 = .ok (.ireturn, 1) := by decide +kernel
set_option maxRecDepth 20000 in
theorem ggX0_key_X0_mixed : GoodIn wsX0_key wsX0_mixed := goodIn_r _ [9, 10, 11, 12] (by decide +kernel) (by decide +kernel)
set_option maxRecDepth 20000 in
theorem gX0_key_X0_mixed : GoodIn wsX0_key (va_wsS RX0 167 yX0_mixed wsX0_mixed) := goodIn_app (goodIn_of _ (by decide +kernel)) ggX0_key_X0_mixed
theorem dX0_key_0 : decode cX0_key 0 = .ok (.sipush 900, 3) := by decide +kernel
theorem dX0_key_3 : decode cX0_key 3 = .ok (.aload_n 0, 1) := by decide +kernel
theorem dX0_key_4 : decode cX0_key 4 = .ok (.getfield 41, 3) := by decide +kernel
theorem dX0_key_7 : decode cX0_key 7 = .ok (.iadd, 1) := by decide +kernel
theorem dX0_key_8 : decode cX0_key 8 = .ok (.i2l, 1) := by decide +kernel
theorem dX0_key_9 : decode cX0_key 9 = .ok (.invokestatic 167, 3) := by decide +kernel
theorem dX0_key_12 : decode cX0_key 12 = .ok (.sipush 1000, 3) := by decide +kernel
theorem dX0_key_15 : decode cX0_key 15 = .ok (.aload_n 0, 1) := by decide +kernel
theorem dX0_key_16 : decode cX0_key 16 = .ok (.getfield 85, 3) := by decide +kernel
theorem dX0_key_19 : decode cX0_key 19 = .ok (.iadd, 1) := by decide +kernel
theorem dX0_key_20 : decode cX0_key 20 = .ok (.i2l, 1) := by decide +kernel
theorem dX0_key_21 : decode cX0_key 21 = .ok (.invokestatic 167, 3) := by decide +kernel
theorem dX0_key_24 : decode cX0_key 24 = .ok (.lxor, 1) := by decide +kernel
theorem dX0_key_25 : decode cX0_key 25 = .ok (.lstore_n 1, 1) := by decide +kernel
theorem dX0_key_26 : decode cX0_key 26 = .ok (.aload_n 0, 1) := by decide +kernel
theorem dX0_key_27 : decode cX0_key 27 = .ok (.getfield 82, 3) := by decide +kernel
theorem dX0_key_30 : decode cX0_key 30 = .ok (.iconst 1, 1) := by decide +kernel
theorem dX0_key_31 : decode cX0_key 31 = .ok (.if_icmp .ne 12, 3) := by decide +kernel
theorem dX0_key_34 : decode cX0_key 34 = .ok (.lload_n 1, 1) := by decide +kernel
theorem dX0_key_35 : decode cX0_key 35 = .ok (.ldc2_w 171, 3) := by decide +kernel
theorem dX0_key_38 : decode cX0_key 38 = .ok (.invokestatic 167, 3) := by decide +kernel
theorem dX0_key_41 : decode cX0_key 41 = .ok (.lxor, 1) := by decide +kernel
theorem dX0_key_42 : decode cX0_key 42 = .ok (.lstore_n 1, 1) := by decide +kernel
theorem dX0_key_43 : decode cX0_key 43 = .ok (.iconst 0, 1) := by decide +kernel
theorem dX0_key_44 : decode cX0_key 44 = .ok (.istore_n 3, 1) := by decide +kernel
theorem dX0_key_45 : decode cX0_key 45 = .ok (.iload_n 3, 1) := by decide +kernel
theorem dX0_key_46 : decode cX0_key 46 = .ok (.bipush 64, 2) := by decide +kernel
theorem dX0_key_48 : decode cX0_key 48 = .ok (.if_icmp .ge 36, 3) := by decide +kernel
theorem dX0_key_51 : decode cX0_key 51 = .ok (.aload_n 0, 1) := by decide +kernel
theorem dX0_key_52 : decode cX0_key 52 = .ok (.getfield 9, 3) := by decide +kernel
theorem dX0_key_55 : decode cX0_key 55 = .ok (.iload_n 3, 1) := by decide +kernel
theorem dX0_key_56 : decode cX0_key 56 = .ok (.iaload, 1) := by decide +kernel
theorem dX0_key_57 : decode cX0_key 57 = .ok (.ifCond .eq 21, 3) := by decide +kernel
theorem dX0_key_60 : decode cX0_key 60 = .ok (.lload_n 1, 1) := by decide +kernel
theorem dX0_key_61 : decode cX0_key 61 = .ok (.bipush 64, 2) := by decide +kernel
theorem dX0_key_63 : decode cX0_key 63 = .ok (.aload_n 0, 1) := by decide +kernel
theorem dX0_key_64 : decode cX0_key 64 = .ok (.getfield 9, 3) := by decide +kernel
theorem dX0_key_67 : decode cX0_key 67 = .ok (.iload_n 3, 1) := by decide +kernel
theorem dX0_key_68 : decode cX0_key 68 = .ok (.iaload, 1) := by decide +kernel
theorem dX0_key_69 : decode cX0_key 69 = .ok (.imul, 1) := by decide +kernel
theorem dX0_key_70 : decode cX0_key 70 = .ok (.iload_n 3, 1) := by decide +kernel
theorem dX0_key_71 : decode cX0_key 71 = .ok (.iadd, 1) := by decide +kernel
theorem dX0_key_72 : decode cX0_key 72 = .ok (.i2l, 1) := by decide +kernel
theorem dX0_key_73 : decode cX0_key 73 = .ok (.invokestatic 167, 3) := by decide +kernel
theorem dX0_key_76 : decode cX0_key 76 = .ok (.lxor, 1) := by decide +kernel
theorem dX0_key_77 : decode cX0_key 77 = .ok (.lstore_n 1, 1) := by decide +kernel
theorem dX0_key_78 : decode cX0_key 78 = .ok (.iinc 3 1, 3) := by decide +kernel
theorem dX0_key_81 : decode cX0_key 81 = .ok (.goto (-36), 3) := by decide +kernel
theorem dX0_key_84 : decode cX0_key 84 = .ok (.lload_n 1, 1) := by decide +kernel
theorem dX0_key_85 : decode cX0_key 85 = .ok (.lreturn, 1) := by decide +kernel
theorem dX0_move_0 : decode cX0_move 0 = .ok (.iload_n 1, 1) := by decide +kernel
theorem dX0_move_1 : decode cX0_move 1 = .ok (.ifCond .lt 20, 3) := by decide +kernel
theorem dX0_move_4 : decode cX0_move 4 = .ok (.iload_n 1, 1) := by decide +kernel
theorem dX0_move_5 : decode cX0_move 5 = .ok (.aload_n 0, 1) := by decide +kernel
theorem dX0_move_6 : decode cX0_move 6 = .ok (.getfield 127, 3) := by decide +kernel
theorem dX0_move_9 : decode cX0_move 9 = .ok (.if_icmp .ge 12, 3) := by decide +kernel
theorem dX0_move_12 : decode cX0_move 12 = .ok (.aload_n 0, 1) := by decide +kernel
theorem dX0_move_13 : decode cX0_move 13 = .ok (.getfield 13, 3) := by decide +kernel
theorem dX0_move_16 : decode cX0_move 16 = .ok (.iload_n 1, 1) := by decide +kernel
theorem dX0_move_17 : decode cX0_move 17 = .ok (.iaload, 1) := by decide +kernel
theorem dX0_move_18 : decode cX0_move 18 = .ok (.goto 4, 3) := by decide +kernel
theorem dX0_move_21 : decode cX0_move 21 = .ok (.iconst (-1), 1) := by decide +kernel
theorem dX0_move_22 : decode cX0_move 22 = .ok (.ireturn, 1) := by decide +kernel
set_option maxRecDepth 20000 in
theorem ggX0_look_X0_piecesOnBoard : GoodIn wsX0_look wsX0_piecesOnBoard := goodIn_r _ [11, 12, 13, 14, 10, 15, 16, 17, 18, 19, 20, 21, 22, 23, 37, 38, 39, 40, 41, 42, 43, 44, 45, 46, 47, 48, 49] (by decide +kernel) (by decide +kernel)
set_option maxRecDepth 20000 in
theorem gX0_look_X0_piecesOnBoard : GoodIn wsX0_look (wsV RX0 61 RX0 yX0_piecesOnBoard wsX0_piecesOnBoard) := goodIn_app (goodIn_of _ (by decide +kernel)) ggX0_look_X0_piecesOnBoard
set_option maxRecDepth 20000 in
theorem ggX0_look_X0_material : GoodIn wsX0_look wsX0_material := goodIn_r _ [27, 16, 28, 29, 10, 30, 31, 32, 33, 34, 35, 36, 37, 38, 39, 40, 41, 42, 43, 44, 45, 46, 47, 48, 49] (by decide +kernel) (by decide +kernel)
set_option maxRecDepth 20000 in
theorem gX0_look_X0_material : GoodIn wsX0_look (wsV RX0 173 RX0 yX0_material wsX0_material) := goodIn_app (goodIn_of _ (by decide +kernel)) ggX0_look_X0_material
theorem dX0_look_0 : decode cX0_look 0 = .ok (.iload_n 1, 1) := by decide +kernel
theorem dX0_look_1 : decode cX0_look 1 = .ok (.tableswitch 98 0 8 #[51, 56, 61, 66, 71, 76, 81, 86, 92], 51) := by decide +kernel
theorem dX0_look_52 : decode cX0_look 52 = .ok (.aload_n 0, 1) := by decide +kernel
theorem dX0_look_53 : decode cX0_look 53 = .ok (.getfield 82, 3) := by decide +kernel
theorem dX0_look_56 : decode cX0_look 56 = .ok (.ireturn, 1) := by decide +kernel
theorem dX0_look_57 : decode cX0_look 57 = .ok (.aload_n 0, 1) := by decide +kernel
theorem dX0_look_58 : decode cX0_look 58 = .ok (.getfield 41, 3) := by decide +kernel
theorem dX0_look_61 : decode cX0_look 61 = .ok (.ireturn, 1) := by decide +kernel
theorem dX0_look_62 : decode cX0_look 62 = .ok (.aload_n 0, 1) := by decide +kernel
theorem dX0_look_63 : decode cX0_look 63 = .ok (.getfield 85, 3) := by decide +kernel
theorem dX0_look_66 : decode cX0_look 66 = .ok (.ireturn, 1) := by decide +kernel
theorem dX0_look_67 : decode cX0_look 67 = .ok (.aload_n 0, 1) := by decide +kernel
theorem dX0_look_68 : decode cX0_look 68 = .ok (.getfield 92, 3) := by decide +kernel
theorem dX0_look_71 : decode cX0_look 71 = .ok (.ireturn, 1) := by decide +kernel
theorem dX0_look_72 : decode cX0_look 72 = .ok (.aload_n 0, 1) := by decide +kernel
theorem dX0_look_73 : decode cX0_look 73 = .ok (.getfield 95, 3) := by decide +kernel
theorem dX0_look_76 : decode cX0_look 76 = .ok (.ireturn, 1) := by decide +kernel
theorem dX0_look_77 : decode cX0_look 77 = .ok (.aload_n 0, 1) := by decide +kernel
theorem dX0_look_78 : decode cX0_look 78 = .ok (.invokevirtual 61, 3) := by decide +kernel
theorem dX0_look_81 : decode cX0_look 81 = .ok (.ireturn, 1) := by decide +kernel
theorem dX0_look_82 : decode cX0_look 82 = .ok (.aload_n 0, 1) := by decide +kernel
theorem dX0_look_83 : decode cX0_look 83 = .ok (.getfield 127, 3) := by decide +kernel
theorem dX0_look_86 : decode cX0_look 86 = .ok (.ireturn, 1) := by decide +kernel
theorem dX0_look_87 : decode cX0_look 87 = .ok (.aload_n 0, 1) := by decide +kernel
theorem dX0_look_88 : decode cX0_look 88 = .ok (.iconst 0, 1) := by decide +kernel
theorem dX0_look_89 : decode cX0_look 89 = .ok (.invokevirtual 173, 3) := by decide +kernel
theorem dX0_look_92 : decode cX0_look 92 = .ok (.ireturn, 1) := by decide +kernel
theorem dX0_look_93 : decode cX0_look 93 = .ok (.aload_n 0, 1) := by decide +kernel
theorem dX0_look_94 : decode cX0_look 94 = .ok (.iconst 1, 1) := by decide +kernel
theorem dX0_look_95 : decode cX0_look 95 = .ok (.invokevirtual 173, 3) := by decide +kernel
theorem dX0_look_98 : decode cX0_look 98 = .ok (.ireturn, 1) := by decide +kernel
theorem dX0_look_99 : decode cX0_look 99 = .ok (.iconst (-1), 1) := by decide +kernel
theorem dX0_look_100 : decode cX0_look 100 = .ok (.ireturn, 1) := by decide +kernel
set_option maxRecDepth 20000 in
theorem ggX0_setAllAsAtFirst_X0_forgetMoves : GoodIn wsX0_setAllAsAtFirst wsX0_forgetMoves := goodIn_r _ [11, 12, 13, 14, 15, 16, 17, 18, 19, 20, 21, 22, 23, 24, 25] (by decide +kernel) (by decide +kernel)
set_option maxRecDepth 20000 in
theorem gX0_setAllAsAtFirst_X0_forgetMoves : GoodIn wsX0_setAllAsAtFirst (wsV RX0 70 RX0 yX0_forgetMoves wsX0_forgetMoves) := goodIn_app (goodIn_of _ (by decide +kernel)) ggX0_setAllAsAtFirst_X0_forgetMoves
theorem dX0_setAllAsAtFirst_0 : decode cX0_setAllAsAtFirst 0 = .ok (.iconst 0, 1) := by decide +kernel
theorem dX0_setAllAsAtFirst_1 : decode cX0_setAllAsAtFirst 1 = .ok (.istore_n 1, 1) := by decide +kernel
theorem dX0_setAllAsAtFirst_2 : decode cX0_setAllAsAtFirst 2 = .ok (.iload_n 1, 1) := by decide +kernel
theorem dX0_setAllAsAtFirst_3 : decode cX0_setAllAsAtFirst 3 = .ok (.bipush 64, 2) := by decide +kernel
theorem dX0_setAllAsAtFirst_5 : decode cX0_setAllAsAtFirst 5 = .ok (.if_icmp .ge 16, 3) := by decide +kernel
theorem dX0_setAllAsAtFirst_8 : decode cX0_setAllAsAtFirst 8 = .ok (.aload_n 0, 1) := by decide +kernel
theorem dX0_setAllAsAtFirst_9 : decode cX0_setAllAsAtFirst 9 = .ok (.getfield 9, 3) := by decide +kernel
theorem dX0_setAllAsAtFirst_12 : decode cX0_setAllAsAtFirst 12 = .ok (.iload_n 1, 1) := by decide +kernel
theorem dX0_setAllAsAtFirst_13 : decode cX0_setAllAsAtFirst 13 = .ok (.iconst 0, 1) := by decide +kernel
theorem dX0_setAllAsAtFirst_14 : decode cX0_setAllAsAtFirst 14 = .ok (.iastore, 1) := by decide +kernel
theorem dX0_setAllAsAtFirst_15 : decode cX0_setAllAsAtFirst 15 = .ok (.iinc 1 1, 3) := by decide +kernel
theorem dX0_setAllAsAtFirst_18 : decode cX0_setAllAsAtFirst 18 = .ok (.goto (-16), 3) := by decide +kernel
theorem dX0_setAllAsAtFirst_21 : decode cX0_setAllAsAtFirst 21 = .ok (.aload_n 0, 1) := by decide +kernel
theorem dX0_setAllAsAtFirst_22 : decode cX0_setAllAsAtFirst 22 = .ok (.iconst 0, 1) := by decide +kernel
theorem dX0_setAllAsAtFirst_23 : decode cX0_setAllAsAtFirst 23 = .ok (.putfield 82, 3) := by decide +kernel
theorem dX0_setAllAsAtFirst_26 : decode cX0_setAllAsAtFirst 26 = .ok (.aload_n 0, 1) := by decide +kernel
theorem dX0_setAllAsAtFirst_27 : decode cX0_setAllAsAtFirst 27 = .ok (.iconst 0, 1) := by decide +kernel
theorem dX0_setAllAsAtFirst_28 : decode cX0_setAllAsAtFirst 28 = .ok (.putfield 41, 3) := by decide +kernel
theorem dX0_setAllAsAtFirst_31 : decode cX0_setAllAsAtFirst 31 = .ok (.aload_n 0, 1) := by decide +kernel
theorem dX0_setAllAsAtFirst_32 : decode cX0_setAllAsAtFirst 32 = .ok (.iconst (-1), 1) := by decide +kernel
theorem dX0_setAllAsAtFirst_33 : decode cX0_setAllAsAtFirst 33 = .ok (.putfield 85, 3) := by decide +kernel
theorem dX0_setAllAsAtFirst_36 : decode cX0_setAllAsAtFirst 36 = .ok (.aload_n 0, 1) := by decide +kernel
theorem dX0_setAllAsAtFirst_37 : decode cX0_setAllAsAtFirst 37 = .ok (.iconst 0, 1) := by decide +kernel
theorem dX0_setAllAsAtFirst_38 : decode cX0_setAllAsAtFirst 38 = .ok (.putfield 92, 3) := by decide +kernel
theorem dX0_setAllAsAtFirst_41 : decode cX0_setAllAsAtFirst 41 = .ok (.aload_n 0, 1) := by decide +kernel
theorem dX0_setAllAsAtFirst_42 : decode cX0_setAllAsAtFirst 42 = .ok (.iconst 1, 1) := by decide +kernel
theorem dX0_setAllAsAtFirst_43 : decode cX0_setAllAsAtFirst 43 = .ok (.putfield 95, 3) := by decide +kernel
theorem dX0_setAllAsAtFirst_46 : decode cX0_setAllAsAtFirst 46 = .ok (.aload_n 0, 1) := by decide +kernel
theorem dX0_setAllAsAtFirst_47 : decode cX0_setAllAsAtFirst 47 = .ok (.invokevirtual 70, 3) := by decide +kernel
theorem dX0_setAllAsAtFirst_50 : decode cX0_setAllAsAtFirst 50 = .ok (.return_, 1) := by decide +kernel
theorem dX0_forgetMoves_0 : decode cX0_forgetMoves 0 = .ok (.aload_n 0, 1) := by decide +kernel
theorem dX0_forgetMoves_1 : decode cX0_forgetMoves 1 = .ok (.iconst 0, 1) := by decide +kernel
theorem dX0_forgetMoves_2 : decode cX0_forgetMoves 2 = .ok (.putfield 127, 3) := by decide +kernel
theorem dX0_forgetMoves_5 : decode cX0_forgetMoves 5 = .ok (.return_, 1) := by decide +kernel
set_option maxRecDepth 20000 in
theorem ggX0_piecesOnBoard_X0_where : GoodIn wsX0_piecesOnBoard wsX0_where := goodIn_r _ [5, 6, 14, 15, 16, 17, 18, 19, 20, 21, 22, 23, 24, 25, 26] (by decide +kernel) (by decide +kernel)
set_option maxRecDepth 20000 in
theorem gX0_piecesOnBoard_X0_where : GoodIn wsX0_piecesOnBoard (wsV RX0 176 RX0 yX0_where wsX0_where) := goodIn_app (goodIn_of _ (by decide +kernel)) ggX0_piecesOnBoard_X0_where
set_option maxRecDepth 20000 in
theorem ggX0_piecesOnBoard_J13_bitCount_95d88 : GoodIn wsX0_piecesOnBoard wsJ13_bitCount_95d88 := goodIn_r _ [10, 11, 12, 13] (by decide +kernel) (by decide +kernel)
set_option maxRecDepth 20000 in
theorem gX0_piecesOnBoard_J13_bitCount_95d88 : GoodIn wsX0_piecesOnBoard (va_wsS RX0 180 yJ13_bitCount_95d88 wsJ13_bitCount_95d88) := goodIn_app (goodIn_of _ (by decide +kernel)) ggX0_piecesOnBoard_J13_bitCount_95d88
theorem dX0_piecesOnBoard_0 : decode cX0_piecesOnBoard 0 = .ok (.bipush 64, 2) := by decide +kernel
theorem dX0_piecesOnBoard_2 : decode cX0_piecesOnBoard 2 = .ok (.aload_n 0, 1) := by decide +kernel
theorem dX0_piecesOnBoard_3 : decode cX0_piecesOnBoard 3 = .ok (.iconst 0, 1) := by decide +kernel
theorem dX0_piecesOnBoard_4 : decode cX0_piecesOnBoard 4 = .ok (.invokevirtual 176, 3) := by decide +kernel
theorem dX0_piecesOnBoard_7 : decode cX0_piecesOnBoard 7 = .ok (.invokestatic 180, 3) := by decide +kernel
theorem dX0_piecesOnBoard_10 : decode cX0_piecesOnBoard 10 = .ok (.isub, 1) := by decide +kernel
theorem dX0_piecesOnBoard_11 : decode cX0_piecesOnBoard 11 = .ok (.ireturn, 1) := by decide +kernel
set_option maxRecDepth 20000 in
theorem ggX0_material_X0_sideOf : GoodIn wsX0_material wsX0_sideOf := goodIn_r _ [5] (by decide +kernel) (by decide +kernel)
set_option maxRecDepth 20000 in
theorem gX0_material_X0_sideOf : GoodIn wsX0_material (va_wsS RX0 105 yX0_sideOf wsX0_sideOf) := goodIn_app (goodIn_of _ (by decide +kernel)) ggX0_material_X0_sideOf
set_option maxRecDepth 20000 in
theorem ggX0_material_X0_typeOf : GoodIn wsX0_material wsX0_typeOf := goodIn_r _ [8] (by decide +kernel) (by decide +kernel)
set_option maxRecDepth 20000 in
theorem gX0_material_X0_typeOf : GoodIn wsX0_material (va_wsS RX0 108 yX0_typeOf wsX0_typeOf) := goodIn_app (goodIn_of _ (by decide +kernel)) ggX0_material_X0_typeOf
set_option maxRecDepth 20000 in
theorem ggX0_material_X0_worthOf : GoodIn wsX0_material wsX0_worthOf := goodIn_r _ [11] (by decide +kernel) (by decide +kernel)
set_option maxRecDepth 20000 in
theorem gX0_material_X0_worthOf : GoodIn wsX0_material (va_wsS RX0 186 yX0_worthOf wsX0_worthOf) := goodIn_app (goodIn_of _ (by decide +kernel)) ggX0_material_X0_worthOf
theorem dX0_material_0 : decode cX0_material 0 = .ok (.iconst 0, 1) := by decide +kernel
theorem dX0_material_1 : decode cX0_material 1 = .ok (.istore_n 2, 1) := by decide +kernel
theorem dX0_material_2 : decode cX0_material 2 = .ok (.iconst 0, 1) := by decide +kernel
theorem dX0_material_3 : decode cX0_material 3 = .ok (.istore_n 3, 1) := by decide +kernel
theorem dX0_material_4 : decode cX0_material 4 = .ok (.iload_n 3, 1) := by decide +kernel
theorem dX0_material_5 : decode cX0_material 5 = .ok (.bipush 64, 2) := by decide +kernel
theorem dX0_material_7 : decode cX0_material 7 = .ok (.if_icmp .ge 37, 3) := by decide +kernel
theorem dX0_material_10 : decode cX0_material 10 = .ok (.aload_n 0, 1) := by decide +kernel
theorem dX0_material_11 : decode cX0_material 11 = .ok (.getfield 9, 3) := by decide +kernel
theorem dX0_material_14 : decode cX0_material 14 = .ok (.iload_n 3, 1) := by decide +kernel
theorem dX0_material_15 : decode cX0_material 15 = .ok (.iaload, 1) := by decide +kernel
theorem dX0_material_16 : decode cX0_material 16 = .ok (.invokestatic 105, 3) := by decide +kernel
theorem dX0_material_19 : decode cX0_material 19 = .ok (.iload_n 1, 1) := by decide +kernel
theorem dX0_material_20 : decode cX0_material 20 = .ok (.if_icmp .ne 18, 3) := by decide +kernel
theorem dX0_material_23 : decode cX0_material 23 = .ok (.iload_n 2, 1) := by decide +kernel
theorem dX0_material_24 : decode cX0_material 24 = .ok (.aload_n 0, 1) := by decide +kernel
theorem dX0_material_25 : decode cX0_material 25 = .ok (.getfield 9, 3) := by decide +kernel
theorem dX0_material_28 : decode cX0_material 28 = .ok (.iload_n 3, 1) := by decide +kernel
theorem dX0_material_29 : decode cX0_material 29 = .ok (.iaload, 1) := by decide +kernel
theorem dX0_material_30 : decode cX0_material 30 = .ok (.invokestatic 108, 3) := by decide +kernel
theorem dX0_material_33 : decode cX0_material 33 = .ok (.invokestatic 186, 3) := by decide +kernel
theorem dX0_material_36 : decode cX0_material 36 = .ok (.iadd, 1) := by decide +kernel
theorem dX0_material_37 : decode cX0_material 37 = .ok (.istore_n 2, 1) := by decide +kernel
theorem dX0_material_38 : decode cX0_material 38 = .ok (.iinc 3 1, 3) := by decide +kernel
theorem dX0_material_41 : decode cX0_material 41 = .ok (.goto (-37), 3) := by decide +kernel
theorem dX0_material_44 : decode cX0_material 44 = .ok (.iload_n 2, 1) := by decide +kernel
theorem dX0_material_45 : decode cX0_material 45 = .ok (.ireturn, 1) := by decide +kernel
set_option maxRecDepth 20000 in
theorem ggX0_becomesWhatItMay_X0_typeOf : GoodIn wsX0_becomesWhatItMay wsX0_typeOf := goodIn_r _ [4] (by decide +kernel) (by decide +kernel)
set_option maxRecDepth 20000 in
theorem gX0_becomesWhatItMay_X0_typeOf : GoodIn wsX0_becomesWhatItMay (va_wsS RX0 108 yX0_typeOf wsX0_typeOf) := goodIn_app (goodIn_of _ (by decide +kernel)) ggX0_becomesWhatItMay_X0_typeOf
set_option maxRecDepth 20000 in
theorem ggX0_becomesWhatItMay_X0_rankOf : GoodIn wsX0_becomesWhatItMay wsX0_rankOf := goodIn_r _ [7] (by decide +kernel) (by decide +kernel)
set_option maxRecDepth 20000 in
theorem gX0_becomesWhatItMay_X0_rankOf : GoodIn wsX0_becomesWhatItMay (va_wsS RX0 189 yX0_rankOf wsX0_rankOf) := goodIn_app (goodIn_of _ (by decide +kernel)) ggX0_becomesWhatItMay_X0_rankOf
set_option maxRecDepth 20000 in
theorem ggX0_becomesWhatItMay_X0_sideOf : GoodIn wsX0_becomesWhatItMay wsX0_sideOf := goodIn_r _ [10] (by decide +kernel) (by decide +kernel)
set_option maxRecDepth 20000 in
theorem gX0_becomesWhatItMay_X0_sideOf : GoodIn wsX0_becomesWhatItMay (va_wsS RX0 105 yX0_sideOf wsX0_sideOf) := goodIn_app (goodIn_of _ (by decide +kernel)) ggX0_becomesWhatItMay_X0_sideOf
set_option maxRecDepth 20000 in
theorem ggX0_becomesWhatItMay_X0_lastRankOf : GoodIn wsX0_becomesWhatItMay wsX0_lastRankOf := goodIn_r _ [13] (by decide +kernel) (by decide +kernel)
set_option maxRecDepth 20000 in
theorem gX0_becomesWhatItMay_X0_lastRankOf : GoodIn wsX0_becomesWhatItMay (va_wsS RX0 192 yX0_lastRankOf wsX0_lastRankOf) := goodIn_app (goodIn_of _ (by decide +kernel)) ggX0_becomesWhatItMay_X0_lastRankOf
theorem dX0_becomesWhatItMay_0 : decode cX0_becomesWhatItMay 0 = .ok (.iload_n 0, 1) := by decide +kernel
theorem dX0_becomesWhatItMay_1 : decode cX0_becomesWhatItMay 1 = .ok (.invokestatic 108, 3) := by decide +kernel
theorem dX0_becomesWhatItMay_4 : decode cX0_becomesWhatItMay 4 = .ok (.iconst 1, 1) := by decide +kernel
theorem dX0_becomesWhatItMay_5 : decode cX0_becomesWhatItMay 5 = .ok (.if_icmp .ne 21, 3) := by decide +kernel
theorem dX0_becomesWhatItMay_8 : decode cX0_becomesWhatItMay 8 = .ok (.iload_n 1, 1) := by decide +kernel
theorem dX0_becomesWhatItMay_9 : decode cX0_becomesWhatItMay 9 = .ok (.invokestatic 189, 3) := by decide +kernel
theorem dX0_becomesWhatItMay_12 : decode cX0_becomesWhatItMay 12 = .ok (.iload_n 0, 1) := by decide +kernel
theorem dX0_becomesWhatItMay_13 : decode cX0_becomesWhatItMay 13 = .ok (.invokestatic 105, 3) := by decide +kernel
theorem dX0_becomesWhatItMay_16 : decode cX0_becomesWhatItMay 16 = .ok (.invokestatic 192, 3) := by decide +kernel
theorem dX0_becomesWhatItMay_19 : decode cX0_becomesWhatItMay 19 = .ok (.if_icmp .ne 7, 3) := by decide +kernel
theorem dX0_becomesWhatItMay_22 : decode cX0_becomesWhatItMay 22 = .ok (.iconst 1, 1) := by decide +kernel
theorem dX0_becomesWhatItMay_23 : decode cX0_becomesWhatItMay 23 = .ok (.goto 4, 3) := by decide +kernel
theorem dX0_becomesWhatItMay_26 : decode cX0_becomesWhatItMay 26 = .ok (.iconst 0, 1) := by decide +kernel
theorem dX0_becomesWhatItMay_27 : decode cX0_becomesWhatItMay 27 = .ok (.istore_n 3, 1) := by decide +kernel
theorem dX0_becomesWhatItMay_28 : decode cX0_becomesWhatItMay 28 = .ok (.iload_n 3, 1) := by decide +kernel
theorem dX0_becomesWhatItMay_29 : decode cX0_becomesWhatItMay 29 = .ok (.ifCond .eq 21, 3) := by decide +kernel
theorem dX0_becomesWhatItMay_32 : decode cX0_becomesWhatItMay 32 = .ok (.iload_n 2, 1) := by decide +kernel
theorem dX0_becomesWhatItMay_33 : decode cX0_becomesWhatItMay 33 = .ok (.iconst 2, 1) := by decide +kernel
theorem dX0_becomesWhatItMay_34 : decode cX0_becomesWhatItMay 34 = .ok (.if_icmp .lt 12, 3) := by decide +kernel
theorem dX0_becomesWhatItMay_37 : decode cX0_becomesWhatItMay 37 = .ok (.iload_n 2, 1) := by decide +kernel
theorem dX0_becomesWhatItMay_38 : decode cX0_becomesWhatItMay 38 = .ok (.iconst 5, 1) := by decide +kernel
theorem dX0_becomesWhatItMay_39 : decode cX0_becomesWhatItMay 39 = .ok (.if_icmp .gt 7, 3) := by decide +kernel
theorem dX0_becomesWhatItMay_42 : decode cX0_becomesWhatItMay 42 = .ok (.iconst 1, 1) := by decide +kernel
theorem dX0_becomesWhatItMay_43 : decode cX0_becomesWhatItMay 43 = .ok (.goto 16, 3) := by decide +kernel
theorem dX0_becomesWhatItMay_46 : decode cX0_becomesWhatItMay 46 = .ok (.iconst 0, 1) := by decide +kernel
theorem dX0_becomesWhatItMay_47 : decode cX0_becomesWhatItMay 47 = .ok (.goto 12, 3) := by decide +kernel
theorem dX0_becomesWhatItMay_50 : decode cX0_becomesWhatItMay 50 = .ok (.iload_n 2, 1) := by decide +kernel
theorem dX0_becomesWhatItMay_51 : decode cX0_becomesWhatItMay 51 = .ok (.ifCond .ne 7, 3) := by decide +kernel
theorem dX0_becomesWhatItMay_54 : decode cX0_becomesWhatItMay 54 = .ok (.iconst 1, 1) := by decide +kernel
theorem dX0_becomesWhatItMay_55 : decode cX0_becomesWhatItMay 55 = .ok (.goto 4, 3) := by decide +kernel
theorem dX0_becomesWhatItMay_58 : decode cX0_becomesWhatItMay 58 = .ok (.iconst 0, 1) := by decide +kernel
theorem dX0_becomesWhatItMay_59 : decode cX0_becomesWhatItMay 59 = .ok (.ireturn, 1) := by decide +kernel
set_option maxRecDepth 20000 in
theorem ggX0_goes_X0_typeOf : GoodIn wsX0_goes wsX0_typeOf := goodIn_r _ [5] (by decide +kernel) (by decide +kernel)
set_option maxRecDepth 20000 in
theorem gX0_goes_X0_typeOf : GoodIn wsX0_goes (va_wsS RX0 108 yX0_typeOf wsX0_typeOf) := goodIn_app (goodIn_of _ (by decide +kernel)) ggX0_goes_X0_typeOf
set_option maxRecDepth 20000 in
theorem ggX0_goes_X0_pawnSteps : GoodIn wsX0_goes wsX0_pawnSteps := goodIn_r _ [9, 10, 11, 12, 4, 13, 14, 15, 16, 17, 1, 18, 19, 20, 21, 22, 23, 24, 25, 26, 95, 96, 97, 98, 99, 100, 101, 102, 103, 104, 105, 106, 107] (by decide +kernel) (by decide +kernel)
set_option maxRecDepth 20000 in
theorem gX0_goes_X0_pawnSteps : GoodIn wsX0_goes (wsV RX0 195 RX0 yX0_pawnSteps wsX0_pawnSteps) := goodIn_app (goodIn_of _ (by decide +kernel)) ggX0_goes_X0_pawnSteps
set_option maxRecDepth 20000 in
theorem ggX0_goes_X0_pawnTakes : GoodIn wsX0_goes wsX0_pawnTakes := goodIn_r _ [30, 10, 1, 31, 32, 4, 33, 34, 35, 36, 37, 21, 22, 23, 11, 12, 13, 38, 39, 40, 41, 42, 43, 44, 45, 46, 47, 48, 49, 50, 51, 14, 15, 16, 17, 18, 19, 20, 52, 53, 54, 55, 56, 57, 58, 59, 60, 61, 62, 95, 96, 97, 98, 99, 100, 101, 102, 103, 104, 105, 106, 107] (by decide +kernel) (by decide +kernel)
set_option maxRecDepth 20000 in
theorem gX0_goes_X0_pawnTakes : GoodIn wsX0_goes (wsV RX0 198 RX0 yX0_pawnTakes wsX0_pawnTakes) := goodIn_app (goodIn_of _ (by decide +kernel)) ggX0_goes_X0_pawnTakes
set_option maxRecDepth 20000 in
theorem ggX0_goes_X0_attacks : GoodIn wsX0_goes wsX0_attacks := goodIn_r _ [66, 1, 34, 35, 36, 37, 38, 39, 4, 40, 21, 22, 23, 2, 3, 5, 41, 42, 43, 31, 32, 33, 11, 12, 13, 67, 68, 69, 70, 71, 72, 73, 74, 75, 76, 77, 14, 15, 16, 17, 18, 19, 20, 95, 96, 97, 98, 99, 100, 101, 102, 103, 104, 105, 106, 107] (by decide +kernel) (by decide +kernel)
set_option maxRecDepth 20000 in
theorem gX0_goes_X0_attacks : GoodIn wsX0_goes (wsV RX0 160 RX0 yX0_attacks wsX0_attacks) := goodIn_app (goodIn_of _ (by decide +kernel)) ggX0_goes_X0_attacks
set_option maxRecDepth 20000 in
theorem ggX0_goes_X0_castles : GoodIn wsX0_goes wsX0_castles := goodIn_r _ [81, 10, 82, 83, 84, 4, 85, 86, 87, 88, 34, 35, 36, 37, 21, 22, 23, 89, 90, 91, 92, 93, 94, 56, 57, 58, 59, 60, 61, 62, 1, 18, 19, 20, 67, 68, 69, 70, 71, 72, 73, 38, 39, 40, 74, 75, 76, 77, 14, 15, 16, 17, 95, 96, 97, 98, 99, 100, 101, 102, 103, 104, 105, 106, 107] (by decide +kernel) (by decide +kernel)
set_option maxRecDepth 20000 in
theorem gX0_goes_X0_castles : GoodIn wsX0_goes (wsV RX0 201 RX0 yX0_castles wsX0_castles) := goodIn_app (goodIn_of _ (by decide +kernel)) ggX0_goes_X0_castles
theorem dX0_goes_0 : decode cX0_goes 0 = .ok (.aload_n 0, 1) := by decide +kernel
theorem dX0_goes_1 : decode cX0_goes 1 = .ok (.getfield 9, 3) := by decide +kernel
theorem dX0_goes_4 : decode cX0_goes 4 = .ok (.iload_n 1, 1) := by decide +kernel
theorem dX0_goes_5 : decode cX0_goes 5 = .ok (.iaload, 1) := by decide +kernel
theorem dX0_goes_6 : decode cX0_goes 6 = .ok (.invokestatic 108, 3) := by decide +kernel
theorem dX0_goes_9 : decode cX0_goes 9 = .ok (.lookupswitch 75 #[(1, 27), (6, 51)], 27) := by decide +kernel
theorem dX0_goes_36 : decode cX0_goes 36 = .ok (.aload_n 0, 1) := by decide +kernel
theorem dX0_goes_37 : decode cX0_goes 37 = .ok (.iload_n 1, 1) := by decide +kernel
theorem dX0_goes_38 : decode cX0_goes 38 = .ok (.iload_n 2, 1) := by decide +kernel
theorem dX0_goes_39 : decode cX0_goes 39 = .ok (.invokevirtual 195, 3) := by decide +kernel
theorem dX0_goes_42 : decode cX0_goes 42 = .ok (.ifCond .ne 12, 3) := by decide +kernel
theorem dX0_goes_45 : decode cX0_goes 45 = .ok (.aload_n 0, 1) := by decide +kernel
theorem dX0_goes_46 : decode cX0_goes 46 = .ok (.iload_n 1, 1) := by decide +kernel
theorem dX0_goes_47 : decode cX0_goes 47 = .ok (.iload_n 2, 1) := by decide +kernel
theorem dX0_goes_48 : decode cX0_goes 48 = .ok (.invokevirtual 198, 3) := by decide +kernel
theorem dX0_goes_51 : decode cX0_goes 51 = .ok (.ifCond .eq 7, 3) := by decide +kernel
theorem dX0_goes_54 : decode cX0_goes 54 = .ok (.iconst 1, 1) := by decide +kernel
theorem dX0_goes_55 : decode cX0_goes 55 = .ok (.goto 4, 3) := by decide +kernel
theorem dX0_goes_58 : decode cX0_goes 58 = .ok (.iconst 0, 1) := by decide +kernel
theorem dX0_goes_59 : decode cX0_goes 59 = .ok (.ireturn, 1) := by decide +kernel
theorem dX0_goes_60 : decode cX0_goes 60 = .ok (.aload_n 0, 1) := by decide +kernel
theorem dX0_goes_61 : decode cX0_goes 61 = .ok (.iload_n 1, 1) := by decide +kernel
theorem dX0_goes_62 : decode cX0_goes 62 = .ok (.iload_n 2, 1) := by decide +kernel
theorem dX0_goes_63 : decode cX0_goes 63 = .ok (.invokevirtual 160, 3) := by decide +kernel
theorem dX0_goes_66 : decode cX0_goes 66 = .ok (.ifCond .ne 12, 3) := by decide +kernel
theorem dX0_goes_69 : decode cX0_goes 69 = .ok (.aload_n 0, 1) := by decide +kernel
theorem dX0_goes_70 : decode cX0_goes 70 = .ok (.iload_n 1, 1) := by decide +kernel
theorem dX0_goes_71 : decode cX0_goes 71 = .ok (.iload_n 2, 1) := by decide +kernel
theorem dX0_goes_72 : decode cX0_goes 72 = .ok (.invokevirtual 201, 3) := by decide +kernel
theorem dX0_goes_75 : decode cX0_goes 75 = .ok (.ifCond .eq 7, 3) := by decide +kernel
theorem dX0_goes_78 : decode cX0_goes 78 = .ok (.iconst 1, 1) := by decide +kernel
theorem dX0_goes_79 : decode cX0_goes 79 = .ok (.goto 4, 3) := by decide +kernel
theorem dX0_goes_82 : decode cX0_goes 82 = .ok (.iconst 0, 1) := by decide +kernel
theorem dX0_goes_83 : decode cX0_goes 83 = .ok (.ireturn, 1) := by decide +kernel
theorem dX0_goes_84 : decode cX0_goes 84 = .ok (.aload_n 0, 1) := by decide +kernel
theorem dX0_goes_85 : decode cX0_goes 85 = .ok (.iload_n 1, 1) := by decide +kernel
theorem dX0_goes_86 : decode cX0_goes 86 = .ok (.iload_n 2, 1) := by decide +kernel
theorem dX0_goes_87 : decode cX0_goes 87 = .ok (.invokevirtual 160, 3) := by decide +kernel
theorem dX0_goes_90 : decode cX0_goes 90 = .ok (.ireturn, 1) := by decide +kernel
set_option maxRecDepth 20000 in
theorem ggX0_pawnSteps_X0_onward : GoodIn wsX0_pawnSteps wsX0_onward := goodIn_r _ [5] (by decide +kernel) (by decide +kernel)
set_option maxRecDepth 20000 in
theorem gX0_pawnSteps_X0_onward : GoodIn wsX0_pawnSteps (va_wsS RX0 204 yX0_onward wsX0_onward) := goodIn_app (goodIn_of _ (by decide +kernel)) ggX0_pawnSteps_X0_onward
set_option maxRecDepth 20000 in
theorem ggX0_pawnSteps_X0_isFree : GoodIn wsX0_pawnSteps wsX0_isFree := goodIn_r _ [9, 10, 11, 12, 4, 13, 20, 21, 22, 23, 24, 25, 26, 27, 28, 29, 30, 31, 32] (by decide +kernel) (by decide +kernel)
set_option maxRecDepth 20000 in
theorem gX0_pawnSteps_X0_isFree : GoodIn wsX0_pawnSteps (wsV RX0 207 RX0 yX0_isFree wsX0_isFree) := goodIn_app (goodIn_of _ (by decide +kernel)) ggX0_pawnSteps_X0_isFree
set_option maxRecDepth 20000 in
theorem ggX0_pawnSteps_X0_rankOf : GoodIn wsX0_pawnSteps wsX0_rankOf := goodIn_r _ [16] (by decide +kernel) (by decide +kernel)
set_option maxRecDepth 20000 in
theorem gX0_pawnSteps_X0_rankOf : GoodIn wsX0_pawnSteps (va_wsS RX0 189 yX0_rankOf wsX0_rankOf) := goodIn_app (goodIn_of _ (by decide +kernel)) ggX0_pawnSteps_X0_rankOf
set_option maxRecDepth 20000 in
theorem ggX0_pawnSteps_X0_secondRankOf : GoodIn wsX0_pawnSteps wsX0_secondRankOf := goodIn_r _ [19] (by decide +kernel) (by decide +kernel)
set_option maxRecDepth 20000 in
theorem gX0_pawnSteps_X0_secondRankOf : GoodIn wsX0_pawnSteps (va_wsS RX0 210 yX0_secondRankOf wsX0_secondRankOf) := goodIn_app (goodIn_of _ (by decide +kernel)) ggX0_pawnSteps_X0_secondRankOf
theorem dX0_pawnSteps_0 : decode cX0_pawnSteps 0 = .ok (.iload_n 1, 1) := by decide +kernel
theorem dX0_pawnSteps_1 : decode cX0_pawnSteps 1 = .ok (.bipush 8, 2) := by decide +kernel
theorem dX0_pawnSteps_3 : decode cX0_pawnSteps 3 = .ok (.aload_n 0, 1) := by decide +kernel
theorem dX0_pawnSteps_4 : decode cX0_pawnSteps 4 = .ok (.getfield 82, 3) := by decide +kernel
theorem dX0_pawnSteps_7 : decode cX0_pawnSteps 7 = .ok (.invokestatic 204, 3) := by decide +kernel
theorem dX0_pawnSteps_10 : decode cX0_pawnSteps 10 = .ok (.imul, 1) := by decide +kernel
theorem dX0_pawnSteps_11 : decode cX0_pawnSteps 11 = .ok (.iadd, 1) := by decide +kernel
theorem dX0_pawnSteps_12 : decode cX0_pawnSteps 12 = .ok (.istore_n 3, 1) := by decide +kernel
theorem dX0_pawnSteps_13 : decode cX0_pawnSteps 13 = .ok (.aload_n 0, 1) := by decide +kernel
theorem dX0_pawnSteps_14 : decode cX0_pawnSteps 14 = .ok (.iload_n 3, 1) := by decide +kernel
theorem dX0_pawnSteps_15 : decode cX0_pawnSteps 15 = .ok (.invokevirtual 207, 3) := by decide +kernel
theorem dX0_pawnSteps_18 : decode cX0_pawnSteps 18 = .ok (.ifCond .eq 11, 3) := by decide +kernel
theorem dX0_pawnSteps_21 : decode cX0_pawnSteps 21 = .ok (.aload_n 0, 1) := by decide +kernel
theorem dX0_pawnSteps_22 : decode cX0_pawnSteps 22 = .ok (.iload_n 2, 1) := by decide +kernel
theorem dX0_pawnSteps_23 : decode cX0_pawnSteps 23 = .ok (.invokevirtual 207, 3) := by decide +kernel
theorem dX0_pawnSteps_26 : decode cX0_pawnSteps 26 = .ok (.ifCond .ne 5, 3) := by decide +kernel
theorem dX0_pawnSteps_29 : decode cX0_pawnSteps 29 = .ok (.iconst 0, 1) := by decide +kernel
theorem dX0_pawnSteps_30 : decode cX0_pawnSteps 30 = .ok (.ireturn, 1) := by decide +kernel
theorem dX0_pawnSteps_31 : decode cX0_pawnSteps 31 = .ok (.iload_n 1, 1) := by decide +kernel
theorem dX0_pawnSteps_32 : decode cX0_pawnSteps 32 = .ok (.invokestatic 189, 3) := by decide +kernel
theorem dX0_pawnSteps_35 : decode cX0_pawnSteps 35 = .ok (.aload_n 0, 1) := by decide +kernel
theorem dX0_pawnSteps_36 : decode cX0_pawnSteps 36 = .ok (.getfield 82, 3) := by decide +kernel
theorem dX0_pawnSteps_39 : decode cX0_pawnSteps 39 = .ok (.invokestatic 210, 3) := by decide +kernel
theorem dX0_pawnSteps_42 : decode cX0_pawnSteps 42 = .ok (.if_icmp .ne 23, 3) := by decide +kernel
theorem dX0_pawnSteps_45 : decode cX0_pawnSteps 45 = .ok (.iload_n 2, 1) := by decide +kernel
theorem dX0_pawnSteps_46 : decode cX0_pawnSteps 46 = .ok (.iload_n 3, 1) := by decide +kernel
theorem dX0_pawnSteps_47 : decode cX0_pawnSteps 47 = .ok (.bipush 8, 2) := by decide +kernel
theorem dX0_pawnSteps_49 : decode cX0_pawnSteps 49 = .ok (.aload_n 0, 1) := by decide +kernel
theorem dX0_pawnSteps_50 : decode cX0_pawnSteps 50 = .ok (.getfield 82, 3) := by decide +kernel
theorem dX0_pawnSteps_53 : decode cX0_pawnSteps 53 = .ok (.invokestatic 204, 3) := by decide +kernel
theorem dX0_pawnSteps_56 : decode cX0_pawnSteps 56 = .ok (.imul, 1) := by decide +kernel
theorem dX0_pawnSteps_57 : decode cX0_pawnSteps 57 = .ok (.iadd, 1) := by decide +kernel
theorem dX0_pawnSteps_58 : decode cX0_pawnSteps 58 = .ok (.if_icmp .ne 7, 3) := by decide +kernel
theorem dX0_pawnSteps_61 : decode cX0_pawnSteps 61 = .ok (.iconst 1, 1) := by decide +kernel
theorem dX0_pawnSteps_62 : decode cX0_pawnSteps 62 = .ok (.goto 4, 3) := by decide +kernel
theorem dX0_pawnSteps_65 : decode cX0_pawnSteps 65 = .ok (.iconst 0, 1) := by decide +kernel
theorem dX0_pawnSteps_66 : decode cX0_pawnSteps 66 = .ok (.istore 4, 2) := by decide +kernel
theorem dX0_pawnSteps_68 : decode cX0_pawnSteps 68 = .ok (.iload_n 2, 1) := by decide +kernel
theorem dX0_pawnSteps_69 : decode cX0_pawnSteps 69 = .ok (.iload_n 3, 1) := by decide +kernel
theorem dX0_pawnSteps_70 : decode cX0_pawnSteps 70 = .ok (.if_icmp .eq 8, 3) := by decide +kernel
theorem dX0_pawnSteps_73 : decode cX0_pawnSteps 73 = .ok (.iload 4, 2) := by decide +kernel
theorem dX0_pawnSteps_75 : decode cX0_pawnSteps 75 = .ok (.ifCond .eq 7, 3) := by decide +kernel
theorem dX0_pawnSteps_78 : decode cX0_pawnSteps 78 = .ok (.iconst 1, 1) := by decide +kernel
theorem dX0_pawnSteps_79 : decode cX0_pawnSteps 79 = .ok (.goto 4, 3) := by decide +kernel
theorem dX0_pawnSteps_82 : decode cX0_pawnSteps 82 = .ok (.iconst 0, 1) := by decide +kernel
theorem dX0_pawnSteps_83 : decode cX0_pawnSteps 83 = .ok (.ireturn, 1) := by decide +kernel
set_option maxRecDepth 20000 in
theorem ggX0_pawnTakes_X0_pawnAttacks : GoodIn wsX0_pawnTakes wsX0_pawnAttacks := goodIn_r _ [6, 7, 8, 9, 10, 11, 12, 5, 13, 14, 15, 16, 17, 18, 19] (by decide +kernel) (by decide +kernel)
set_option maxRecDepth 20000 in
theorem gX0_pawnTakes_X0_pawnAttacks : GoodIn wsX0_pawnTakes (va_wsS RX0 213 yX0_pawnAttacks wsX0_pawnAttacks) := goodIn_app (goodIn_of _ (by decide +kernel)) ggX0_pawnTakes_X0_pawnAttacks
set_option maxRecDepth 20000 in
theorem ggX0_pawnTakes_X0_sideOf : GoodIn wsX0_pawnTakes wsX0_sideOf := goodIn_r _ [22] (by decide +kernel) (by decide +kernel)
set_option maxRecDepth 20000 in
theorem gX0_pawnTakes_X0_sideOf : GoodIn wsX0_pawnTakes (va_wsS RX0 105 yX0_sideOf wsX0_sideOf) := goodIn_app (goodIn_of _ (by decide +kernel)) ggX0_pawnTakes_X0_sideOf
set_option maxRecDepth 20000 in
theorem ggX0_pawnTakes_X0_otherThan : GoodIn wsX0_pawnTakes wsX0_otherThan := goodIn_r _ [25] (by decide +kernel) (by decide +kernel)
set_option maxRecDepth 20000 in
theorem gX0_pawnTakes_X0_otherThan : GoodIn wsX0_pawnTakes (va_wsS RX0 152 yX0_otherThan wsX0_otherThan) := goodIn_app (goodIn_of _ (by decide +kernel)) ggX0_pawnTakes_X0_otherThan
set_option maxRecDepth 20000 in
theorem ggX0_pawnTakes_X0_canBeTakenInPassing : GoodIn wsX0_pawnTakes wsX0_canBeTakenInPassing := goodIn_r _ [29, 30, 1, 31, 32, 33, 5, 34, 2, 35, 36, 37, 38, 39, 40, 41, 14, 15, 16, 23, 24, 25, 42, 43, 44, 45, 46, 47, 48, 49, 50, 51, 52, 53, 54, 55, 56, 57, 58, 59, 60, 61] (by decide +kernel) (by decide +kernel)
set_option maxRecDepth 20000 in
theorem gX0_pawnTakes_X0_canBeTakenInPassing : GoodIn wsX0_pawnTakes (wsV RX0 216 RX0 yX0_canBeTakenInPassing wsX0_canBeTakenInPassing) := goodIn_app (goodIn_of _ (by decide +kernel)) ggX0_pawnTakes_X0_canBeTakenInPassing
theorem dX0_pawnTakes_0 : decode cX0_pawnTakes 0 = .ok (.aload_n 0, 1) := by decide +kernel
theorem dX0_pawnTakes_1 : decode cX0_pawnTakes 1 = .ok (.getfield 82, 3) := by decide +kernel
theorem dX0_pawnTakes_4 : decode cX0_pawnTakes 4 = .ok (.iload_n 1, 1) := by decide +kernel
theorem dX0_pawnTakes_5 : decode cX0_pawnTakes 5 = .ok (.iload_n 2, 1) := by decide +kernel
theorem dX0_pawnTakes_6 : decode cX0_pawnTakes 6 = .ok (.invokestatic 213, 3) := by decide +kernel
theorem dX0_pawnTakes_9 : decode cX0_pawnTakes 9 = .ok (.ifCond .eq 34, 3) := by decide +kernel
theorem dX0_pawnTakes_12 : decode cX0_pawnTakes 12 = .ok (.aload_n 0, 1) := by decide +kernel
theorem dX0_pawnTakes_13 : decode cX0_pawnTakes 13 = .ok (.getfield 9, 3) := by decide +kernel
theorem dX0_pawnTakes_16 : decode cX0_pawnTakes 16 = .ok (.iload_n 2, 1) := by decide +kernel
theorem dX0_pawnTakes_17 : decode cX0_pawnTakes 17 = .ok (.iaload, 1) := by decide +kernel
theorem dX0_pawnTakes_18 : decode cX0_pawnTakes 18 = .ok (.invokestatic 105, 3) := by decide +kernel
theorem dX0_pawnTakes_21 : decode cX0_pawnTakes 21 = .ok (.aload_n 0, 1) := by decide +kernel
theorem dX0_pawnTakes_22 : decode cX0_pawnTakes 22 = .ok (.getfield 82, 3) := by decide +kernel
theorem dX0_pawnTakes_25 : decode cX0_pawnTakes 25 = .ok (.invokestatic 152, 3) := by decide +kernel
theorem dX0_pawnTakes_28 : decode cX0_pawnTakes 28 = .ok (.if_icmp .eq 11, 3) := by decide +kernel
theorem dX0_pawnTakes_31 : decode cX0_pawnTakes 31 = .ok (.aload_n 0, 1) := by decide +kernel
theorem dX0_pawnTakes_32 : decode cX0_pawnTakes 32 = .ok (.iload_n 2, 1) := by decide +kernel
theorem dX0_pawnTakes_33 : decode cX0_pawnTakes 33 = .ok (.invokevirtual 216, 3) := by decide +kernel
theorem dX0_pawnTakes_36 : decode cX0_pawnTakes 36 = .ok (.ifCond .eq 7, 3) := by decide +kernel
theorem dX0_pawnTakes_39 : decode cX0_pawnTakes 39 = .ok (.iconst 1, 1) := by decide +kernel
theorem dX0_pawnTakes_40 : decode cX0_pawnTakes 40 = .ok (.goto 4, 3) := by decide +kernel
theorem dX0_pawnTakes_43 : decode cX0_pawnTakes 43 = .ok (.iconst 0, 1) := by decide +kernel
theorem dX0_pawnTakes_44 : decode cX0_pawnTakes 44 = .ok (.ireturn, 1) := by decide +kernel
set_option maxRecDepth 20000 in
theorem ggX0_canBeTakenInPassing_X0_isFree : GoodIn wsX0_canBeTakenInPassing wsX0_isFree := goodIn_r _ [7, 8, 9, 10, 6, 11, 29, 30, 31, 32, 33, 34, 35, 36, 37, 38, 39, 40, 41] (by decide +kernel) (by decide +kernel)
set_option maxRecDepth 20000 in
theorem gX0_canBeTakenInPassing_X0_isFree : GoodIn wsX0_canBeTakenInPassing (wsV RX0 207 RX0 yX0_isFree wsX0_isFree) := goodIn_app (goodIn_of _ (by decide +kernel)) ggX0_canBeTakenInPassing_X0_isFree
set_option maxRecDepth 20000 in
theorem ggX0_canBeTakenInPassing_X0_squareBehind : GoodIn wsX0_canBeTakenInPassing wsX0_squareBehind := goodIn_r _ [15, 2, 16, 17, 6, 18, 29, 30, 31, 32, 33, 34, 35, 36, 37, 38, 39, 40, 41] (by decide +kernel) (by decide +kernel)
set_option maxRecDepth 20000 in
theorem gX0_canBeTakenInPassing_X0_squareBehind : GoodIn wsX0_canBeTakenInPassing (wsV RX0 219 RX0 yX0_squareBehind wsX0_squareBehind) := goodIn_app (goodIn_of _ (by decide +kernel)) ggX0_canBeTakenInPassing_X0_squareBehind
set_option maxRecDepth 20000 in
theorem ggX0_canBeTakenInPassing_X0_otherThan : GoodIn wsX0_canBeTakenInPassing wsX0_otherThan := goodIn_r _ [21] (by decide +kernel) (by decide +kernel)
set_option maxRecDepth 20000 in
theorem gX0_canBeTakenInPassing_X0_otherThan : GoodIn wsX0_canBeTakenInPassing (va_wsS RX0 152 yX0_otherThan wsX0_otherThan) := goodIn_app (goodIn_of _ (by decide +kernel)) ggX0_canBeTakenInPassing_X0_otherThan
set_option maxRecDepth 20000 in
theorem ggX0_canBeTakenInPassing_X0_pieceOf : GoodIn wsX0_canBeTakenInPassing wsX0_pieceOf := goodIn_r _ [24] (by decide +kernel) (by decide +kernel)
set_option maxRecDepth 20000 in
theorem gX0_canBeTakenInPassing_X0_pieceOf : GoodIn wsX0_canBeTakenInPassing (va_wsS RX0 37 yX0_pieceOf wsX0_pieceOf) := goodIn_app (goodIn_of _ (by decide +kernel)) ggX0_canBeTakenInPassing_X0_pieceOf
set_option maxRecDepth 20000 in
theorem ggX0_canBeTakenInPassing_X0_holds : GoodIn wsX0_canBeTakenInPassing wsX0_holds := goodIn_r _ [28, 8, 9, 10, 6, 11, 29, 30, 31, 32, 33, 34, 35, 36, 37, 38, 39, 40, 41] (by decide +kernel) (by decide +kernel)
set_option maxRecDepth 20000 in
theorem gX0_canBeTakenInPassing_X0_holds : GoodIn wsX0_canBeTakenInPassing (wsV RX0 222 RX0 yX0_holds wsX0_holds) := goodIn_app (goodIn_of _ (by decide +kernel)) ggX0_canBeTakenInPassing_X0_holds
theorem dX0_canBeTakenInPassing_0 : decode cX0_canBeTakenInPassing 0 = .ok (.iload_n 1, 1) := by decide +kernel
theorem dX0_canBeTakenInPassing_1 : decode cX0_canBeTakenInPassing 1 = .ok (.aload_n 0, 1) := by decide +kernel
theorem dX0_canBeTakenInPassing_2 : decode cX0_canBeTakenInPassing 2 = .ok (.getfield 85, 3) := by decide +kernel
theorem dX0_canBeTakenInPassing_5 : decode cX0_canBeTakenInPassing 5 = .ok (.if_icmp .ne 38, 3) := by decide +kernel
theorem dX0_canBeTakenInPassing_8 : decode cX0_canBeTakenInPassing 8 = .ok (.aload_n 0, 1) := by decide +kernel
theorem dX0_canBeTakenInPassing_9 : decode cX0_canBeTakenInPassing 9 = .ok (.iload_n 1, 1) := by decide +kernel
theorem dX0_canBeTakenInPassing_10 : decode cX0_canBeTakenInPassing 10 = .ok (.invokevirtual 207, 3) := by decide +kernel
theorem dX0_canBeTakenInPassing_13 : decode cX0_canBeTakenInPassing 13 = .ok (.ifCond .eq 30, 3) := by decide +kernel
theorem dX0_canBeTakenInPassing_16 : decode cX0_canBeTakenInPassing 16 = .ok (.aload_n 0, 1) := by decide +kernel
theorem dX0_canBeTakenInPassing_17 : decode cX0_canBeTakenInPassing 17 = .ok (.aload_n 0, 1) := by decide +kernel
theorem dX0_canBeTakenInPassing_18 : decode cX0_canBeTakenInPassing 18 = .ok (.iload_n 1, 1) := by decide +kernel
theorem dX0_canBeTakenInPassing_19 : decode cX0_canBeTakenInPassing 19 = .ok (.invokevirtual 219, 3) := by decide +kernel
theorem dX0_canBeTakenInPassing_22 : decode cX0_canBeTakenInPassing 22 = .ok (.iconst 1, 1) := by decide +kernel
theorem dX0_canBeTakenInPassing_23 : decode cX0_canBeTakenInPassing 23 = .ok (.aload_n 0, 1) := by decide +kernel
theorem dX0_canBeTakenInPassing_24 : decode cX0_canBeTakenInPassing 24 = .ok (.getfield 82, 3) := by decide +kernel
theorem dX0_canBeTakenInPassing_27 : decode cX0_canBeTakenInPassing 27 = .ok (.invokestatic 152, 3) := by decide +kernel
theorem dX0_canBeTakenInPassing_30 : decode cX0_canBeTakenInPassing 30 = .ok (.invokestatic 37, 3) := by decide +kernel
theorem dX0_canBeTakenInPassing_33 : decode cX0_canBeTakenInPassing 33 = .ok (.invokevirtual 222, 3) := by decide +kernel
theorem dX0_canBeTakenInPassing_36 : decode cX0_canBeTakenInPassing 36 = .ok (.ifCond .eq 7, 3) := by decide +kernel
theorem dX0_canBeTakenInPassing_39 : decode cX0_canBeTakenInPassing 39 = .ok (.iconst 1, 1) := by decide +kernel
theorem dX0_canBeTakenInPassing_40 : decode cX0_canBeTakenInPassing 40 = .ok (.goto 4, 3) := by decide +kernel
theorem dX0_canBeTakenInPassing_43 : decode cX0_canBeTakenInPassing 43 = .ok (.iconst 0, 1) := by decide +kernel
theorem dX0_canBeTakenInPassing_44 : decode cX0_canBeTakenInPassing 44 = .ok (.ireturn, 1) := by decide +kernel
set_option maxRecDepth 20000 in
theorem ggX0_squareBehind_X0_onward : GoodIn wsX0_squareBehind wsX0_onward := goodIn_r _ [5] (by decide +kernel) (by decide +kernel)
set_option maxRecDepth 20000 in
theorem gX0_squareBehind_X0_onward : GoodIn wsX0_squareBehind (va_wsS RX0 204 yX0_onward wsX0_onward) := goodIn_app (goodIn_of _ (by decide +kernel)) ggX0_squareBehind_X0_onward
theorem dX0_squareBehind_0 : decode cX0_squareBehind 0 = .ok (.iload_n 1, 1) := by decide +kernel
theorem dX0_squareBehind_1 : decode cX0_squareBehind 1 = .ok (.bipush 8, 2) := by decide +kernel
theorem dX0_squareBehind_3 : decode cX0_squareBehind 3 = .ok (.aload_n 0, 1) := by decide +kernel
theorem dX0_squareBehind_4 : decode cX0_squareBehind 4 = .ok (.getfield 82, 3) := by decide +kernel
theorem dX0_squareBehind_7 : decode cX0_squareBehind 7 = .ok (.invokestatic 204, 3) := by decide +kernel
theorem dX0_squareBehind_10 : decode cX0_squareBehind 10 = .ok (.imul, 1) := by decide +kernel
theorem dX0_squareBehind_11 : decode cX0_squareBehind 11 = .ok (.isub, 1) := by decide +kernel
theorem dX0_squareBehind_12 : decode cX0_squareBehind 12 = .ok (.ireturn, 1) := by decide +kernel
set_option maxRecDepth 20000 in
theorem ggX0_castles_X0_homeOfKing : GoodIn wsX0_castles wsX0_homeOfKing := goodIn_r _ [6] (by decide +kernel) (by decide +kernel)
set_option maxRecDepth 20000 in
theorem gX0_castles_X0_homeOfKing : GoodIn wsX0_castles (va_wsS RX0 225 yX0_homeOfKing wsX0_homeOfKing) := goodIn_app (goodIn_of _ (by decide +kernel)) ggX0_castles_X0_homeOfKing
set_option maxRecDepth 20000 in
theorem ggX0_castles_X0_isTwoFilesAway : GoodIn wsX0_castles wsX0_isTwoFilesAway := goodIn_r _ [9, 10, 11, 12, 13, 14, 15, 5, 16] (by decide +kernel) (by decide +kernel)
set_option maxRecDepth 20000 in
theorem gX0_castles_X0_isTwoFilesAway : GoodIn wsX0_castles (va_wsS RX0 228 yX0_isTwoFilesAway wsX0_isTwoFilesAway) := goodIn_app (goodIn_of _ (by decide +kernel)) ggX0_castles_X0_isTwoFilesAway
set_option maxRecDepth 20000 in
theorem ggX0_castles_X0_cornerBeyond : GoodIn wsX0_castles wsX0_cornerBeyond := goodIn_r _ [19] (by decide +kernel) (by decide +kernel)
set_option maxRecDepth 20000 in
theorem gX0_castles_X0_cornerBeyond : GoodIn wsX0_castles (va_wsS RX0 231 yX0_cornerBeyond wsX0_cornerBeyond) := goodIn_app (goodIn_of _ (by decide +kernel)) ggX0_castles_X0_cornerBeyond
set_option maxRecDepth 20000 in
theorem ggX0_castles_X0_rightOfCorner : GoodIn wsX0_castles wsX0_rightOfCorner := goodIn_r _ [22] (by decide +kernel) (by decide +kernel)
set_option maxRecDepth 20000 in
theorem gX0_castles_X0_rightOfCorner : GoodIn wsX0_castles (va_wsS RX0 146 yX0_rightOfCorner wsX0_rightOfCorner) := goodIn_app (goodIn_of _ (by decide +kernel)) ggX0_castles_X0_rightOfCorner
set_option maxRecDepth 20000 in
theorem ggX0_castles_X0_pieceOf : GoodIn wsX0_castles wsX0_pieceOf := goodIn_r _ [25] (by decide +kernel) (by decide +kernel)
set_option maxRecDepth 20000 in
theorem gX0_castles_X0_pieceOf : GoodIn wsX0_castles (va_wsS RX0 37 yX0_pieceOf wsX0_pieceOf) := goodIn_app (goodIn_of _ (by decide +kernel)) ggX0_castles_X0_pieceOf
set_option maxRecDepth 20000 in
theorem ggX0_castles_X0_holds : GoodIn wsX0_castles wsX0_holds := goodIn_r _ [29, 30, 31, 32, 5, 33, 52, 53, 54, 55, 56, 57, 58, 59, 60, 61, 62, 63, 64] (by decide +kernel) (by decide +kernel)
set_option maxRecDepth 20000 in
theorem gX0_castles_X0_holds : GoodIn wsX0_castles (wsV RX0 222 RX0 yX0_holds wsX0_holds) := goodIn_app (goodIn_of _ (by decide +kernel)) ggX0_castles_X0_holds
set_option maxRecDepth 20000 in
theorem ggX0_castles_X0_isOpen : GoodIn wsX0_castles wsX0_isOpen := goodIn_r _ [37, 10, 11, 12, 13, 38, 39, 40, 41, 42, 5, 43, 14, 15, 16, 44, 45, 46, 47, 48, 49, 50, 51, 30, 31, 32, 33, 52, 53, 54, 55, 56, 57, 58, 59, 60, 61, 62, 63, 64] (by decide +kernel) (by decide +kernel)
set_option maxRecDepth 20000 in
theorem gX0_castles_X0_isOpen : GoodIn wsX0_castles (wsV RX0 234 RX0 yX0_isOpen wsX0_isOpen) := goodIn_app (goodIn_of _ (by decide +kernel)) ggX0_castles_X0_isOpen
theorem dX0_castles_0 : decode cX0_castles 0 = .ok (.iload_n 1, 1) := by decide +kernel
theorem dX0_castles_1 : decode cX0_castles 1 = .ok (.aload_n 0, 1) := by decide +kernel
theorem dX0_castles_2 : decode cX0_castles 2 = .ok (.getfield 82, 3) := by decide +kernel
theorem dX0_castles_5 : decode cX0_castles 5 = .ok (.invokestatic 225, 3) := by decide +kernel
theorem dX0_castles_8 : decode cX0_castles 8 = .ok (.if_icmp .ne 11, 3) := by decide +kernel
theorem dX0_castles_11 : decode cX0_castles 11 = .ok (.iload_n 1, 1) := by decide +kernel
theorem dX0_castles_12 : decode cX0_castles 12 = .ok (.iload_n 2, 1) := by decide +kernel
theorem dX0_castles_13 : decode cX0_castles 13 = .ok (.invokestatic 228, 3) := by decide +kernel
theorem dX0_castles_16 : decode cX0_castles 16 = .ok (.ifCond .ne 5, 3) := by decide +kernel
theorem dX0_castles_19 : decode cX0_castles 19 = .ok (.iconst 0, 1) := by decide +kernel
theorem dX0_castles_20 : decode cX0_castles 20 = .ok (.ireturn, 1) := by decide +kernel
theorem dX0_castles_21 : decode cX0_castles 21 = .ok (.iload_n 1, 1) := by decide +kernel
theorem dX0_castles_22 : decode cX0_castles 22 = .ok (.iload_n 2, 1) := by decide +kernel
theorem dX0_castles_23 : decode cX0_castles 23 = .ok (.invokestatic 231, 3) := by decide +kernel
theorem dX0_castles_26 : decode cX0_castles 26 = .ok (.istore_n 3, 1) := by decide +kernel
theorem dX0_castles_27 : decode cX0_castles 27 = .ok (.aload_n 0, 1) := by decide +kernel
theorem dX0_castles_28 : decode cX0_castles 28 = .ok (.getfield 41, 3) := by decide +kernel
theorem dX0_castles_31 : decode cX0_castles 31 = .ok (.iload_n 3, 1) := by decide +kernel
theorem dX0_castles_32 : decode cX0_castles 32 = .ok (.invokestatic 146, 3) := by decide +kernel
theorem dX0_castles_35 : decode cX0_castles 35 = .ok (.iand, 1) := by decide +kernel
theorem dX0_castles_36 : decode cX0_castles 36 = .ok (.ifCond .eq 32, 3) := by decide +kernel
theorem dX0_castles_39 : decode cX0_castles 39 = .ok (.aload_n 0, 1) := by decide +kernel
theorem dX0_castles_40 : decode cX0_castles 40 = .ok (.iload_n 3, 1) := by decide +kernel
theorem dX0_castles_41 : decode cX0_castles 41 = .ok (.iconst 4, 1) := by decide +kernel
theorem dX0_castles_42 : decode cX0_castles 42 = .ok (.aload_n 0, 1) := by decide +kernel
theorem dX0_castles_43 : decode cX0_castles 43 = .ok (.getfield 82, 3) := by decide +kernel
theorem dX0_castles_46 : decode cX0_castles 46 = .ok (.invokestatic 37, 3) := by decide +kernel
theorem dX0_castles_49 : decode cX0_castles 49 = .ok (.invokevirtual 222, 3) := by decide +kernel
theorem dX0_castles_52 : decode cX0_castles 52 = .ok (.ifCond .eq 16, 3) := by decide +kernel
theorem dX0_castles_55 : decode cX0_castles 55 = .ok (.aload_n 0, 1) := by decide +kernel
theorem dX0_castles_56 : decode cX0_castles 56 = .ok (.iload_n 1, 1) := by decide +kernel
theorem dX0_castles_57 : decode cX0_castles 57 = .ok (.iload_n 3, 1) := by decide +kernel
theorem dX0_castles_58 : decode cX0_castles 58 = .ok (.invokevirtual 234, 3) := by decide +kernel
theorem dX0_castles_61 : decode cX0_castles 61 = .ok (.ifCond .eq 7, 3) := by decide +kernel
theorem dX0_castles_64 : decode cX0_castles 64 = .ok (.iconst 1, 1) := by decide +kernel
theorem dX0_castles_65 : decode cX0_castles 65 = .ok (.goto 4, 3) := by decide +kernel
theorem dX0_castles_68 : decode cX0_castles 68 = .ok (.iconst 0, 1) := by decide +kernel
theorem dX0_castles_69 : decode cX0_castles 69 = .ok (.ireturn, 1) := by decide +kernel
set_option maxRecDepth 20000 in
theorem ggX0_attacks_X0_fileOf : GoodIn wsX0_attacks wsX0_fileOf := goodIn_r _ [9] (by decide +kernel) (by decide +kernel)
set_option maxRecDepth 20000 in
theorem gX0_attacks_X0_fileOf : GoodIn wsX0_attacks (va_wsS RX0 237 yX0_fileOf wsX0_fileOf) := goodIn_app (goodIn_of _ (by decide +kernel)) ggX0_attacks_X0_fileOf
set_option maxRecDepth 20000 in
theorem ggX0_attacks_X0_rankOf : GoodIn wsX0_attacks wsX0_rankOf := goodIn_r _ [12] (by decide +kernel) (by decide +kernel)
set_option maxRecDepth 20000 in
theorem gX0_attacks_X0_rankOf : GoodIn wsX0_attacks (va_wsS RX0 189 yX0_rankOf wsX0_rankOf) := goodIn_app (goodIn_of _ (by decide +kernel)) ggX0_attacks_X0_rankOf
set_option maxRecDepth 20000 in
theorem ggX0_attacks_X0_typeOf : GoodIn wsX0_attacks wsX0_typeOf := goodIn_r _ [15] (by decide +kernel) (by decide +kernel)
set_option maxRecDepth 20000 in
theorem gX0_attacks_X0_typeOf : GoodIn wsX0_attacks (va_wsS RX0 108 yX0_typeOf wsX0_typeOf) := goodIn_app (goodIn_of _ (by decide +kernel)) ggX0_attacks_X0_typeOf
set_option maxRecDepth 20000 in
theorem ggX0_attacks_X0_sideOf : GoodIn wsX0_attacks wsX0_sideOf := goodIn_r _ [18] (by decide +kernel) (by decide +kernel)
set_option maxRecDepth 20000 in
theorem gX0_attacks_X0_sideOf : GoodIn wsX0_attacks (va_wsS RX0 105 yX0_sideOf wsX0_sideOf) := goodIn_app (goodIn_of _ (by decide +kernel)) ggX0_attacks_X0_sideOf
set_option maxRecDepth 20000 in
theorem ggX0_attacks_X0_pawnAttacks : GoodIn wsX0_attacks wsX0_pawnAttacks := goodIn_r _ [21, 2, 3, 4, 5, 10, 11, 8, 12, 22, 23, 24, 6, 7, 9] (by decide +kernel) (by decide +kernel)
set_option maxRecDepth 20000 in
theorem gX0_attacks_X0_pawnAttacks : GoodIn wsX0_attacks (va_wsS RX0 213 yX0_pawnAttacks wsX0_pawnAttacks) := goodIn_app (goodIn_of _ (by decide +kernel)) ggX0_attacks_X0_pawnAttacks
set_option maxRecDepth 20000 in
theorem ggX0_attacks_X0_isOpen : GoodIn wsX0_attacks wsX0_isOpen := goodIn_r _ [28, 2, 3, 4, 5, 29, 30, 31, 6, 7, 8, 9, 10, 11, 12, 32, 33, 34, 35, 36, 37, 38, 39, 1, 40, 41, 42, 43, 44, 45, 46, 47, 48, 49, 50, 51, 52, 53, 54, 55] (by decide +kernel) (by decide +kernel)
set_option maxRecDepth 20000 in
theorem gX0_attacks_X0_isOpen : GoodIn wsX0_attacks (wsV RX0 234 RX0 yX0_isOpen wsX0_isOpen) := goodIn_app (goodIn_of _ (by decide +kernel)) ggX0_attacks_X0_isOpen
theorem dX0_attacks_0 : decode cX0_attacks 0 = .ok (.iload_n 1, 1) := by decide +kernel
theorem dX0_attacks_1 : decode cX0_attacks 1 = .ok (.iload_n 2, 1) := by decide +kernel
theorem dX0_attacks_2 : decode cX0_attacks 2 = .ok (.if_icmp .ne 5, 3) := by decide +kernel
theorem dX0_attacks_5 : decode cX0_attacks 5 = .ok (.iconst 0, 1) := by decide +kernel
theorem dX0_attacks_6 : decode cX0_attacks 6 = .ok (.ireturn, 1) := by decide +kernel
theorem dX0_attacks_7 : decode cX0_attacks 7 = .ok (.aload_n 0, 1) := by decide +kernel
theorem dX0_attacks_8 : decode cX0_attacks 8 = .ok (.getfield 9, 3) := by decide +kernel
theorem dX0_attacks_11 : decode cX0_attacks 11 = .ok (.iload_n 1, 1) := by decide +kernel
theorem dX0_attacks_12 : decode cX0_attacks 12 = .ok (.iaload, 1) := by decide +kernel
theorem dX0_attacks_13 : decode cX0_attacks 13 = .ok (.istore_n 3, 1) := by decide +kernel
theorem dX0_attacks_14 : decode cX0_attacks 14 = .ok (.iload_n 2, 1) := by decide +kernel
theorem dX0_attacks_15 : decode cX0_attacks 15 = .ok (.invokestatic 237, 3) := by decide +kernel
theorem dX0_attacks_18 : decode cX0_attacks 18 = .ok (.iload_n 1, 1) := by decide +kernel
theorem dX0_attacks_19 : decode cX0_attacks 19 = .ok (.invokestatic 237, 3) := by decide +kernel
theorem dX0_attacks_22 : decode cX0_attacks 22 = .ok (.isub, 1) := by decide +kernel
theorem dX0_attacks_23 : decode cX0_attacks 23 = .ok (.invokestatic 240, 3) := by decide +kernel
theorem dX0_attacks_26 : decode cX0_attacks 26 = .ok (.istore 4, 2) := by decide +kernel
theorem dX0_attacks_28 : decode cX0_attacks 28 = .ok (.iload_n 2, 1) := by decide +kernel
theorem dX0_attacks_29 : decode cX0_attacks 29 = .ok (.invokestatic 189, 3) := by decide +kernel
theorem dX0_attacks_32 : decode cX0_attacks 32 = .ok (.iload_n 1, 1) := by decide +kernel
theorem dX0_attacks_33 : decode cX0_attacks 33 = .ok (.invokestatic 189, 3) := by decide +kernel
theorem dX0_attacks_36 : decode cX0_attacks 36 = .ok (.isub, 1) := by decide +kernel
theorem dX0_attacks_37 : decode cX0_attacks 37 = .ok (.invokestatic 240, 3) := by decide +kernel
theorem dX0_attacks_40 : decode cX0_attacks 40 = .ok (.istore 5, 2) := by decide +kernel
theorem dX0_attacks_42 : decode cX0_attacks 42 = .ok (.iload 4, 2) := by decide +kernel
theorem dX0_attacks_44 : decode cX0_attacks 44 = .ok (.ifCond .eq 8, 3) := by decide +kernel
theorem dX0_attacks_47 : decode cX0_attacks 47 = .ok (.iload 5, 2) := by decide +kernel
theorem dX0_attacks_49 : decode cX0_attacks 49 = .ok (.ifCond .ne 7, 3) := by decide +kernel
theorem dX0_attacks_52 : decode cX0_attacks 52 = .ok (.iconst 1, 1) := by decide +kernel
theorem dX0_attacks_53 : decode cX0_attacks 53 = .ok (.goto 4, 3) := by decide +kernel
theorem dX0_attacks_56 : decode cX0_attacks 56 = .ok (.iconst 0, 1) := by decide +kernel
theorem dX0_attacks_57 : decode cX0_attacks 57 = .ok (.istore 6, 2) := by decide +kernel
