theorem dX1_key_90 : decode cX1_key 90 = .ok (.invokestatic 111, 3) := by decide +kernel
theorem dX1_key_93 : decode cX1_key 93 = .ok (.lxor, 1) := by decide +kernel
theorem dX1_key_94 : decode cX1_key 94 = .ok (.goto 4, 3) := by decide +kernel
theorem dX1_key_97 : decode cX1_key 97 = .ok (.lload_n 1, 1) := by decide +kernel
theorem dX1_key_98 : decode cX1_key 98 = .ok (.lreturn, 1) := by decide +kernel
theorem dX1_move_0 : decode cX1_move 0 = .ok (.aload_n 0, 1) := by decide +kernel
theorem dX1_move_1 : decode cX1_move 1 = .ok (.iconst 0, 1) := by decide +kernel
theorem dX1_move_2 : decode cX1_move 2 = .ok (.putfield 31, 3) := by decide +kernel
theorem dX1_move_5 : decode cX1_move 5 = .ok (.iload_n 1, 1) := by decide +kernel
theorem dX1_move_6 : decode cX1_move 6 = .ok (.ifCond .lt 11, 3) := by decide +kernel
theorem dX1_move_9 : decode cX1_move 9 = .ok (.iload_n 1, 1) := by decide +kernel
theorem dX1_move_10 : decode cX1_move 10 = .ok (.aload_n 0, 1) := by decide +kernel
theorem dX1_move_11 : decode cX1_move 11 = .ok (.getfield 43, 3) := by decide +kernel
theorem dX1_move_14 : decode cX1_move 14 = .ok (.if_icmp .lt 7, 3) := by decide +kernel
theorem dX1_move_17 : decode cX1_move 17 = .ok (.iconst (-1), 1) := by decide +kernel
theorem dX1_move_18 : decode cX1_move 18 = .ok (.goto 9, 3) := by decide +kernel
theorem dX1_move_21 : decode cX1_move 21 = .ok (.aload_n 0, 1) := by decide +kernel
theorem dX1_move_22 : decode cX1_move 22 = .ok (.getfield 20, 3) := by decide +kernel
theorem dX1_move_25 : decode cX1_move 25 = .ok (.iload_n 1, 1) := by decide +kernel
theorem dX1_move_26 : decode cX1_move 26 = .ok (.iaload, 1) := by decide +kernel
theorem dX1_move_27 : decode cX1_move 27 = .ok (.ireturn, 1) := by decide +kernel
set_option maxRecDepth 20000 in
theorem ggX1_material_X1_sideOf : GoodIn wsX1_material wsX1_sideOf := goodIn_r _ [5] (by decide +kernel) (by decide +kernel)
set_option maxRecDepth 20000 in
theorem gX1_material_X1_sideOf : GoodIn wsX1_material (va_wsS RX1 68 yX1_sideOf wsX1_sideOf) := goodIn_app (goodIn_of _ (by decide +kernel)) ggX1_material_X1_sideOf
set_option maxRecDepth 20000 in
theorem ggX1_material_X1_kindOf : GoodIn wsX1_material wsX1_kindOf := goodIn_r _ [8] (by decide +kernel) (by decide +kernel)
set_option maxRecDepth 20000 in
theorem gX1_material_X1_kindOf : GoodIn wsX1_material (va_wsS RX1 61 yX1_kindOf wsX1_kindOf) := goodIn_app (goodIn_of _ (by decide +kernel)) ggX1_material_X1_kindOf
theorem dX1_material_0 : decode cX1_material 0 = .ok (.iconst 0, 1) := by decide +kernel
theorem dX1_material_1 : decode cX1_material 1 = .ok (.istore_n 2, 1) := by decide +kernel
theorem dX1_material_2 : decode cX1_material 2 = .ok (.iconst 0, 1) := by decide +kernel
theorem dX1_material_3 : decode cX1_material 3 = .ok (.istore_n 3, 1) := by decide +kernel
theorem dX1_material_4 : decode cX1_material 4 = .ok (.iload_n 3, 1) := by decide +kernel
theorem dX1_material_5 : decode cX1_material 5 = .ok (.bipush 64, 2) := by decide +kernel
theorem dX1_material_7 : decode cX1_material 7 = .ok (.if_icmp .ge 88, 3) := by decide +kernel
theorem dX1_material_10 : decode cX1_material 10 = .ok (.aload_n 0, 1) := by decide +kernel
theorem dX1_material_11 : decode cX1_material 11 = .ok (.getfield 7, 3) := by decide +kernel
theorem dX1_material_14 : decode cX1_material 14 = .ok (.iload_n 3, 1) := by decide +kernel
theorem dX1_material_15 : decode cX1_material 15 = .ok (.iaload, 1) := by decide +kernel
theorem dX1_material_16 : decode cX1_material 16 = .ok (.invokestatic 68, 3) := by decide +kernel
theorem dX1_material_19 : decode cX1_material 19 = .ok (.iload_n 1, 1) := by decide +kernel
theorem dX1_material_20 : decode cX1_material 20 = .ok (.if_icmp .ne 15, 3) := by decide +kernel
theorem dX1_material_23 : decode cX1_material 23 = .ok (.aload_n 0, 1) := by decide +kernel
theorem dX1_material_24 : decode cX1_material 24 = .ok (.getfield 7, 3) := by decide +kernel
theorem dX1_material_27 : decode cX1_material 27 = .ok (.iload_n 3, 1) := by decide +kernel
theorem dX1_material_28 : decode cX1_material 28 = .ok (.iaload, 1) := by decide +kernel
theorem dX1_material_29 : decode cX1_material 29 = .ok (.invokestatic 61, 3) := by decide +kernel
theorem dX1_material_32 : decode cX1_material 32 = .ok (.goto 4, 3) := by decide +kernel
theorem dX1_material_35 : decode cX1_material 35 = .ok (.iconst 0, 1) := by decide +kernel
theorem dX1_material_36 : decode cX1_material 36 = .ok (.istore 4, 2) := by decide +kernel
theorem dX1_material_38 : decode cX1_material 38 = .ok (.iload_n 2, 1) := by decide +kernel
theorem dX1_material_39 : decode cX1_material 39 = .ok (.iload 4, 2) := by decide +kernel
theorem dX1_material_41 : decode cX1_material 41 = .ok (.iconst 1, 1) := by decide +kernel
theorem dX1_material_42 : decode cX1_material 42 = .ok (.if_icmp .ne 7, 3) := by decide +kernel
theorem dX1_material_45 : decode cX1_material 45 = .ok (.iconst 1, 1) := by decide +kernel
theorem dX1_material_46 : decode cX1_material 46 = .ok (.goto 41, 3) := by decide +kernel
theorem dX1_material_49 : decode cX1_material 49 = .ok (.iload 4, 2) := by decide +kernel
theorem dX1_material_51 : decode cX1_material 51 = .ok (.iconst 2, 1) := by decide +kernel
theorem dX1_material_52 : decode cX1_material 52 = .ok (.if_icmp .eq 9, 3) := by decide +kernel
theorem dX1_material_55 : decode cX1_material 55 = .ok (.iload 4, 2) := by decide +kernel
theorem dX1_material_57 : decode cX1_material 57 = .ok (.iconst 3, 1) := by decide +kernel
theorem dX1_material_58 : decode cX1_material 58 = .ok (.if_icmp .ne 7, 3) := by decide +kernel
theorem dX1_material_61 : decode cX1_material 61 = .ok (.iconst 3, 1) := by decide +kernel
theorem dX1_material_62 : decode cX1_material 62 = .ok (.goto 25, 3) := by decide +kernel
theorem dX1_material_65 : decode cX1_material 65 = .ok (.iload 4, 2) := by decide +kernel
theorem dX1_material_67 : decode cX1_material 67 = .ok (.iconst 4, 1) := by decide +kernel
theorem dX1_material_68 : decode cX1_material 68 = .ok (.if_icmp .ne 7, 3) := by decide +kernel
theorem dX1_material_71 : decode cX1_material 71 = .ok (.iconst 5, 1) := by decide +kernel
theorem dX1_material_72 : decode cX1_material 72 = .ok (.goto 15, 3) := by decide +kernel
theorem dX1_material_75 : decode cX1_material 75 = .ok (.iload 4, 2) := by decide +kernel
theorem dX1_material_77 : decode cX1_material 77 = .ok (.iconst 5, 1) := by decide +kernel
theorem dX1_material_78 : decode cX1_material 78 = .ok (.if_icmp .ne 8, 3) := by decide +kernel
theorem dX1_material_81 : decode cX1_material 81 = .ok (.bipush 9, 2) := by decide +kernel
theorem dX1_material_83 : decode cX1_material 83 = .ok (.goto 4, 3) := by decide +kernel
theorem dX1_material_86 : decode cX1_material 86 = .ok (.iconst 0, 1) := by decide +kernel
theorem dX1_material_87 : decode cX1_material 87 = .ok (.iadd, 1) := by decide +kernel
theorem dX1_material_88 : decode cX1_material 88 = .ok (.istore_n 2, 1) := by decide +kernel
theorem dX1_material_89 : decode cX1_material 89 = .ok (.iinc 3 1, 3) := by decide +kernel
theorem dX1_material_92 : decode cX1_material 92 = .ok (.goto (-88), 3) := by decide +kernel
theorem dX1_material_95 : decode cX1_material 95 = .ok (.iload_n 2, 1) := by decide +kernel
theorem dX1_material_96 : decode cX1_material 96 = .ok (.ireturn, 1) := by decide +kernel
set_option maxRecDepth 20000 in
theorem ggX1_look_X1_pieces : GoodIn wsX1_look wsX1_pieces := goodIn_r _ [12, 13, 24, 25, 26, 27, 28, 29, 30, 31, 32, 33, 34] (by decide +kernel) (by decide +kernel)
set_option maxRecDepth 20000 in
theorem gX1_look_X1_pieces : GoodIn wsX1_look (wsV RX1 57 RX1 yX1_pieces wsX1_pieces) := goodIn_app (goodIn_of _ (by decide +kernel)) ggX1_look_X1_pieces
set_option maxRecDepth 20000 in
theorem ggX1_look_X1_material : GoodIn wsX1_look wsX1_material := goodIn_r _ [17, 13, 18, 19, 11, 20, 21, 22, 23, 24, 25, 26, 27, 28, 29, 30, 31, 32, 33, 34] (by decide +kernel) (by decide +kernel)
set_option maxRecDepth 20000 in
theorem gX1_look_X1_material : GoodIn wsX1_look (wsV RX1 121 RX1 yX1_material wsX1_material) := goodIn_app (goodIn_of _ (by decide +kernel)) ggX1_look_X1_material
theorem dX1_look_0 : decode cX1_look 0 = .ok (.aload_n 0, 1) := by decide +kernel
theorem dX1_look_1 : decode cX1_look 1 = .ok (.iconst 0, 1) := by decide +kernel
theorem dX1_look_2 : decode cX1_look 2 = .ok (.putfield 31, 3) := by decide +kernel
theorem dX1_look_5 : decode cX1_look 5 = .ok (.iload_n 1, 1) := by decide +kernel
theorem dX1_look_6 : decode cX1_look 6 = .ok (.tableswitch 94 0 8 #[50, 55, 60, 65, 70, 75, 80, 85, 85], 50) := by decide +kernel
theorem dX1_look_56 : decode cX1_look 56 = .ok (.aload_n 0, 1) := by decide +kernel
theorem dX1_look_57 : decode cX1_look 57 = .ok (.getfield 34, 3) := by decide +kernel
theorem dX1_look_60 : decode cX1_look 60 = .ok (.ireturn, 1) := by decide +kernel
theorem dX1_look_61 : decode cX1_look 61 = .ok (.aload_n 0, 1) := by decide +kernel
theorem dX1_look_62 : decode cX1_look 62 = .ok (.getfield 37, 3) := by decide +kernel
theorem dX1_look_65 : decode cX1_look 65 = .ok (.ireturn, 1) := by decide +kernel
theorem dX1_look_66 : decode cX1_look 66 = .ok (.aload_n 0, 1) := by decide +kernel
theorem dX1_look_67 : decode cX1_look 67 = .ok (.getfield 13, 3) := by decide +kernel
theorem dX1_look_70 : decode cX1_look 70 = .ok (.ireturn, 1) := by decide +kernel
theorem dX1_look_71 : decode cX1_look 71 = .ok (.aload_n 0, 1) := by decide +kernel
theorem dX1_look_72 : decode cX1_look 72 = .ok (.getfield 40, 3) := by decide +kernel
theorem dX1_look_75 : decode cX1_look 75 = .ok (.ireturn, 1) := by decide +kernel
theorem dX1_look_76 : decode cX1_look 76 = .ok (.aload_n 0, 1) := by decide +kernel
theorem dX1_look_77 : decode cX1_look 77 = .ok (.getfield 17, 3) := by decide +kernel
theorem dX1_look_80 : decode cX1_look 80 = .ok (.ireturn, 1) := by decide +kernel
theorem dX1_look_81 : decode cX1_look 81 = .ok (.aload_n 0, 1) := by decide +kernel
theorem dX1_look_82 : decode cX1_look 82 = .ok (.invokevirtual 57, 3) := by decide +kernel
theorem dX1_look_85 : decode cX1_look 85 = .ok (.ireturn, 1) := by decide +kernel
theorem dX1_look_86 : decode cX1_look 86 = .ok (.aload_n 0, 1) := by decide +kernel
theorem dX1_look_87 : decode cX1_look 87 = .ok (.getfield 43, 3) := by decide +kernel
theorem dX1_look_90 : decode cX1_look 90 = .ok (.ireturn, 1) := by decide +kernel
theorem dX1_look_91 : decode cX1_look 91 = .ok (.aload_n 0, 1) := by decide +kernel
theorem dX1_look_92 : decode cX1_look 92 = .ok (.iload_n 1, 1) := by decide +kernel
theorem dX1_look_93 : decode cX1_look 93 = .ok (.bipush 7, 2) := by decide +kernel
theorem dX1_look_95 : decode cX1_look 95 = .ok (.isub, 1) := by decide +kernel
theorem dX1_look_96 : decode cX1_look 96 = .ok (.invokevirtual 121, 3) := by decide +kernel
theorem dX1_look_99 : decode cX1_look 99 = .ok (.ireturn, 1) := by decide +kernel
theorem dX1_look_100 : decode cX1_look 100 = .ok (.iconst (-1), 1) := by decide +kernel
theorem dX1_look_101 : decode cX1_look 101 = .ok (.ireturn, 1) := by decide +kernel
theorem dJ6_compare_7cf53_0 : decode cJ6_compare_7cf53 0 = .ok (.iload_n 0, 1) := by decide +kernel
theorem dJ6_compare_7cf53_1 : decode cJ6_compare_7cf53 1 = .ok (.iload_n 1, 1) := by decide +kernel
theorem dJ6_compare_7cf53_2 : decode cJ6_compare_7cf53 2 = .ok (.if_icmp .ge 7, 3) := by decide +kernel
theorem dJ6_compare_7cf53_5 : decode cJ6_compare_7cf53 5 = .ok (.iconst (-1), 1) := by decide +kernel
theorem dJ6_compare_7cf53_6 : decode cJ6_compare_7cf53 6 = .ok (.goto 13, 3) := by decide +kernel
theorem dJ6_compare_7cf53_9 : decode cJ6_compare_7cf53 9 = .ok (.iload_n 0, 1) := by decide +kernel
theorem dJ6_compare_7cf53_10 : decode cJ6_compare_7cf53 10 = .ok (.iload_n 1, 1) := by decide +kernel
theorem dJ6_compare_7cf53_11 : decode cJ6_compare_7cf53 11 = .ok (.if_icmp .ne 7, 3) := by decide +kernel
theorem dJ6_compare_7cf53_14 : decode cJ6_compare_7cf53 14 = .ok (.iconst 0, 1) := by decide +kernel
theorem dJ6_compare_7cf53_15 : decode cJ6_compare_7cf53 15 = .ok (.goto 4, 3) := by decide +kernel
theorem dJ6_compare_7cf53_18 : decode cJ6_compare_7cf53 18 = .ok (.iconst 1, 1) := by decide +kernel
theorem dJ6_compare_7cf53_19 : decode cJ6_compare_7cf53 19 = .ok (.ireturn, 1) := by decide +kernel
theorem dJ13_bitCount_95d88_0 : decode cJ13_bitCount_95d88 0 = .ok (.lload_n 0, 1) := by decide +kernel
theorem dJ13_bitCount_95d88_1 : decode cJ13_bitCount_95d88 1 = .ok (.lload_n 0, 1) := by decide +kernel
theorem dJ13_bitCount_95d88_2 : decode cJ13_bitCount_95d88 2 = .ok (.iconst 1, 1) := by decide +kernel
theorem dJ13_bitCount_95d88_3 : decode cJ13_bitCount_95d88 3 = .ok (.lushr, 1) := by decide +kernel
theorem dJ13_bitCount_95d88_4 : decode cJ13_bitCount_95d88 4 = .ok (.ldc2_w 314, 3) := by decide +kernel
theorem dJ13_bitCount_95d88_7 : decode cJ13_bitCount_95d88 7 = .ok (.land, 1) := by decide +kernel
theorem dJ13_bitCount_95d88_8 : decode cJ13_bitCount_95d88 8 = .ok (.lsub, 1) := by decide +kernel
theorem dJ13_bitCount_95d88_9 : decode cJ13_bitCount_95d88 9 = .ok (.lstore_n 0, 1) := by decide +kernel
theorem dJ13_bitCount_95d88_10 : decode cJ13_bitCount_95d88 10 = .ok (.lload_n 0, 1) := by decide +kernel
theorem dJ13_bitCount_95d88_11 : decode cJ13_bitCount_95d88 11 = .ok (.ldc2_w 316, 3) := by decide +kernel
theorem dJ13_bitCount_95d88_14 : decode cJ13_bitCount_95d88 14 = .ok (.land, 1) := by decide +kernel
theorem dJ13_bitCount_95d88_15 : decode cJ13_bitCount_95d88 15 = .ok (.lload_n 0, 1) := by decide +kernel
theorem dJ13_bitCount_95d88_16 : decode cJ13_bitCount_95d88 16 = .ok (.iconst 2, 1) := by decide +kernel
theorem dJ13_bitCount_95d88_17 : decode cJ13_bitCount_95d88 17 = .ok (.lushr, 1) := by decide +kernel
theorem dJ13_bitCount_95d88_18 : decode cJ13_bitCount_95d88 18 = .ok (.ldc2_w 316, 3) := by decide +kernel
theorem dJ13_bitCount_95d88_21 : decode cJ13_bitCount_95d88 21 = .ok (.land, 1) := by decide +kernel
theorem dJ13_bitCount_95d88_22 : decode cJ13_bitCount_95d88 22 = .ok (.ladd, 1) := by decide +kernel
theorem dJ13_bitCount_95d88_23 : decode cJ13_bitCount_95d88 23 = .ok (.lstore_n 0, 1) := by decide +kernel
theorem dJ13_bitCount_95d88_24 : decode cJ13_bitCount_95d88 24 = .ok (.lload_n 0, 1) := by decide +kernel
theorem dJ13_bitCount_95d88_25 : decode cJ13_bitCount_95d88 25 = .ok (.lload_n 0, 1) := by decide +kernel
theorem dJ13_bitCount_95d88_26 : decode cJ13_bitCount_95d88 26 = .ok (.iconst 4, 1) := by decide +kernel
theorem dJ13_bitCount_95d88_27 : decode cJ13_bitCount_95d88 27 = .ok (.lushr, 1) := by decide +kernel
theorem dJ13_bitCount_95d88_28 : decode cJ13_bitCount_95d88 28 = .ok (.ladd, 1) := by decide +kernel
theorem dJ13_bitCount_95d88_29 : decode cJ13_bitCount_95d88 29 = .ok (.ldc2_w 318, 3) := by decide +kernel
theorem dJ13_bitCount_95d88_32 : decode cJ13_bitCount_95d88 32 = .ok (.land, 1) := by decide +kernel
theorem dJ13_bitCount_95d88_33 : decode cJ13_bitCount_95d88 33 = .ok (.lstore_n 0, 1) := by decide +kernel
theorem dJ13_bitCount_95d88_34 : decode cJ13_bitCount_95d88 34 = .ok (.lload_n 0, 1) := by decide +kernel
theorem dJ13_bitCount_95d88_35 : decode cJ13_bitCount_95d88 35 = .ok (.lload_n 0, 1) := by decide +kernel
theorem dJ13_bitCount_95d88_36 : decode cJ13_bitCount_95d88 36 = .ok (.bipush 8, 2) := by decide +kernel
theorem dJ13_bitCount_95d88_38 : decode cJ13_bitCount_95d88 38 = .ok (.lushr, 1) := by decide +kernel
theorem dJ13_bitCount_95d88_39 : decode cJ13_bitCount_95d88 39 = .ok (.ladd, 1) := by decide +kernel
theorem dJ13_bitCount_95d88_40 : decode cJ13_bitCount_95d88 40 = .ok (.lstore_n 0, 1) := by decide +kernel
theorem dJ13_bitCount_95d88_41 : decode cJ13_bitCount_95d88 41 = .ok (.lload_n 0, 1) := by decide +kernel
theorem dJ13_bitCount_95d88_42 : decode cJ13_bitCount_95d88 42 = .ok (.lload_n 0, 1) := by decide +kernel
theorem dJ13_bitCount_95d88_43 : decode cJ13_bitCount_95d88 43 = .ok (.bipush 16, 2) := by decide +kernel
theorem dJ13_bitCount_95d88_45 : decode cJ13_bitCount_95d88 45 = .ok (.lushr, 1) := by decide +kernel
theorem dJ13_bitCount_95d88_46 : decode cJ13_bitCount_95d88 46 = .ok (.ladd, 1) := by decide +kernel
theorem dJ13_bitCount_95d88_47 : decode cJ13_bitCount_95d88 47 = .ok (.lstore_n 0, 1) := by decide +kernel
theorem dJ13_bitCount_95d88_48 : decode cJ13_bitCount_95d88 48 = .ok (.lload_n 0, 1) := by decide +kernel
theorem dJ13_bitCount_95d88_49 : decode cJ13_bitCount_95d88 49 = .ok (.lload_n 0, 1) := by decide +kernel
theorem dJ13_bitCount_95d88_50 : decode cJ13_bitCount_95d88 50 = .ok (.bipush 32, 2) := by decide +kernel
theorem dJ13_bitCount_95d88_52 : decode cJ13_bitCount_95d88 52 = .ok (.lushr, 1) := by decide +kernel
theorem dJ13_bitCount_95d88_53 : decode cJ13_bitCount_95d88 53 = .ok (.ladd, 1) := by decide +kernel
theorem dJ13_bitCount_95d88_54 : decode cJ13_bitCount_95d88 54 = .ok (.lstore_n 0, 1) := by decide +kernel
theorem dJ13_bitCount_95d88_55 : decode cJ13_bitCount_95d88 55 = .ok (.lload_n 0, 1) := by decide +kernel
theorem dJ13_bitCount_95d88_56 : decode cJ13_bitCount_95d88 56 = .ok (.l2i, 1) := by decide +kernel
theorem dJ13_bitCount_95d88_57 : decode cJ13_bitCount_95d88 57 = .ok (.bipush 127, 2) := by decide +kernel
theorem dJ13_bitCount_95d88_59 : decode cJ13_bitCount_95d88 59 = .ok (.iand, 1) := by decide +kernel
theorem dJ13_bitCount_95d88_60 : decode cJ13_bitCount_95d88 60 = .ok (.ireturn, 1) := by decide +kernel
theorem dJ9_abs_0f7a4_0 : decode cJ9_abs_0f7a4 0 = .ok (.iload_n 0, 1) := by decide +kernel
theorem dJ9_abs_0f7a4_1 : decode cJ9_abs_0f7a4 1 = .ok (.ifCond .ge 8, 3) := by decide +kernel
theorem dJ9_abs_0f7a4_4 : decode cJ9_abs_0f7a4 4 = .ok (.iload_n 0, 1) := by decide +kernel
theorem dJ9_abs_0f7a4_5 : decode cJ9_abs_0f7a4 5 = .ok (.ineg, 1) := by decide +kernel
theorem dJ9_abs_0f7a4_6 : decode cJ9_abs_0f7a4 6 = .ok (.goto 4, 3) := by decide +kernel
theorem dJ9_abs_0f7a4_9 : decode cJ9_abs_0f7a4 9 = .ok (.iload_n 0, 1) := by decide +kernel
theorem dJ9_abs_0f7a4_10 : decode cJ9_abs_0f7a4 10 = .ok (.ireturn, 1) := by decide +kernel
theorem dJ9_max_7cf53_0 : decode cJ9_max_7cf53 0 = .ok (.iload_n 0, 1) := by decide +kernel
theorem dJ9_max_7cf53_1 : decode cJ9_max_7cf53 1 = .ok (.iload_n 1, 1) := by decide +kernel
theorem dJ9_max_7cf53_2 : decode cJ9_max_7cf53 2 = .ok (.if_icmp .lt 7, 3) := by decide +kernel
theorem dJ9_max_7cf53_5 : decode cJ9_max_7cf53 5 = .ok (.iload_n 0, 1) := by decide +kernel
theorem dJ9_max_7cf53_6 : decode cJ9_max_7cf53 6 = .ok (.goto 4, 3) := by decide +kernel
theorem dJ9_max_7cf53_9 : decode cJ9_max_7cf53 9 = .ok (.iload_n 1, 1) := by decide +kernel
theorem dJ9_max_7cf53_10 : decode cJ9_max_7cf53 10 = .ok (.ireturn, 1) := by decide +kernel
set_option maxRecDepth 20000 in
theorem ggL_put_X0_put : GoodIn wsL_put wsX0_put := goodIn_ca (goodIn_ca (goodIn_ca (goodIn_r _ [8, 9, 10, 11, 12, 13, 14, 15, 16, 17, 7, 18, 19, 20, 21, 22, 23, 24, 25, 26, 27, 28, 29, 30, 31, 32, 33, 34, 35, 36, 37, 38, 39, 40, 41, 42, 43, 44, 45, 46, 47, 48, 49, 50, 51] (by decide +kernel) (by decide +kernel)) (goodIn_sub (fun _ h => List.mem_cons_of_mem _ (List.mem_append_left _ (List.mem_append_left _ (List.mem_append_right _ h)))) (by decide +kernel))) (goodIn_sub (fun _ h => List.mem_cons_of_mem _ (List.mem_append_left _ (List.mem_append_right _ h))) (by decide +kernel))) (goodIn_sub (fun _ h => List.mem_cons_of_mem _ (List.mem_append_right _ h)) (by decide +kernel))
set_option maxRecDepth 20000 in
theorem gL_put_X0_put : GoodIn wsL_put (wsV RL 7 RX0 yX0_put wsX0_put) := goodIn_app (goodIn_of _ (by decide +kernel)) ggL_put_X0_put
theorem dL_put_0 : decode cL_put 0 = .ok (.aload_n 0, 1) := by decide +kernel
theorem dL_put_1 : decode cL_put 1 = .ok (.iload_n 1, 1) := by decide +kernel
theorem dL_put_2 : decode cL_put 2 = .ok (.iload_n 2, 1) := by decide +kernel
theorem dL_put_3 : decode cL_put 3 = .ok (.invokevirtual 7, 3) := by decide +kernel
theorem dL_put_6 : decode cL_put 6 = .ok (.goto 12, 3) := by decide +kernel
theorem dL_put_9 : decode cL_put 9 = .ok (.astore_n 3, 1) := by decide +kernel
theorem dL_put_10 : decode cL_put 10 = .ok (.iconst 1, 1) := by decide +kernel
theorem dL_put_11 : decode cL_put 11 = .ok (.ireturn, 1) := by decide +kernel
theorem dL_put_12 : decode cL_put 12 = .ok (.astore_n 3, 1) := by decide +kernel
theorem dL_put_13 : decode cL_put 13 = .ok (.iconst 2, 1) := by decide +kernel
theorem dL_put_14 : decode cL_put 14 = .ok (.ireturn, 1) := by decide +kernel
theorem dL_put_15 : decode cL_put 15 = .ok (.astore_n 3, 1) := by decide +kernel
theorem dL_put_16 : decode cL_put 16 = .ok (.iconst 3, 1) := by decide +kernel
theorem dL_put_17 : decode cL_put 17 = .ok (.ireturn, 1) := by decide +kernel
theorem dL_put_18 : decode cL_put 18 = .ok (.iconst 0, 1) := by decide +kernel
theorem dL_put_19 : decode cL_put 19 = .ok (.ireturn, 1) := by decide +kernel
set_option maxRecDepth 20000 in
theorem ggL_state_X0_state : GoodIn wsL_state wsX0_state := goodIn_ca (goodIn_r _ [6, 7, 8, 9, 10, 11, 12, 13, 5, 14, 15, 16, 17, 18, 19, 20, 21, 22, 23, 24, 25, 26, 27, 28, 29, 30, 31, 32, 33, 34, 35] (by decide +kernel) (by decide +kernel)) (goodIn_sub (fun _ h => List.mem_cons_of_mem _ (List.mem_append_right _ h)) (by decide +kernel))
set_option maxRecDepth 20000 in
theorem gL_state_X0_state : GoodIn wsL_state (wsV RL 19 RX0 yX0_state wsX0_state) := goodIn_app (goodIn_of _ (by decide +kernel)) ggL_state_X0_state
theorem dL_state_0 : decode cL_state 0 = .ok (.aload_n 0, 1) := by decide +kernel
theorem dL_state_1 : decode cL_state 1 = .ok (.iload_n 1, 1) := by decide +kernel
theorem dL_state_2 : decode cL_state 2 = .ok (.iload_n 2, 1) := by decide +kernel
theorem dL_state_3 : decode cL_state 3 = .ok (.iload_n 3, 1) := by decide +kernel
theorem dL_state_4 : decode cL_state 4 = .ok (.invokevirtual 19, 3) := by decide +kernel
theorem dL_state_7 : decode cL_state 7 = .ok (.goto 7, 3) := by decide +kernel
theorem dL_state_10 : decode cL_state 10 = .ok (.astore 4, 2) := by decide +kernel
theorem dL_state_12 : decode cL_state 12 = .ok (.iconst 1, 1) := by decide +kernel
theorem dL_state_13 : decode cL_state 13 = .ok (.ireturn, 1) := by decide +kernel
theorem dL_state_14 : decode cL_state 14 = .ok (.iconst 0, 1) := by decide +kernel
theorem dL_state_15 : decode cL_state 15 = .ok (.ireturn, 1) := by decide +kernel
set_option maxRecDepth 20000 in
theorem ggL_clocks_X0_clocks : GoodIn wsL_clocks wsX0_clocks := goodIn_ca (goodIn_r _ [6, 7, 8, 9, 10, 11, 12, 13, 5, 14, 15, 16, 17, 18, 19, 20, 21, 22, 23, 24, 25, 26, 27, 28] (by decide +kernel) (by decide +kernel)) (goodIn_sub (fun _ h => List.mem_cons_of_mem _ (List.mem_append_right _ h)) (by decide +kernel))
set_option maxRecDepth 20000 in
theorem gL_clocks_X0_clocks : GoodIn wsL_clocks (wsV RL 23 RX0 yX0_clocks wsX0_clocks) := goodIn_app (goodIn_of _ (by decide +kernel)) ggL_clocks_X0_clocks
theorem dL_clocks_0 : decode cL_clocks 0 = .ok (.aload_n 0, 1) := by decide +kernel
theorem dL_clocks_1 : decode cL_clocks 1 = .ok (.iload_n 1, 1) := by decide +kernel
theorem dL_clocks_2 : decode cL_clocks 2 = .ok (.iload_n 2, 1) := by decide +kernel
theorem dL_clocks_3 : decode cL_clocks 3 = .ok (.invokevirtual 23, 3) := by decide +kernel
theorem dL_clocks_6 : decode cL_clocks 6 = .ok (.goto 6, 3) := by decide +kernel
theorem dL_clocks_9 : decode cL_clocks 9 = .ok (.astore_n 3, 1) := by decide +kernel
theorem dL_clocks_10 : decode cL_clocks 10 = .ok (.iconst 1, 1) := by decide +kernel
theorem dL_clocks_11 : decode cL_clocks 11 = .ok (.ireturn, 1) := by decide +kernel
theorem dL_clocks_12 : decode cL_clocks 12 = .ok (.iconst 0, 1) := by decide +kernel
theorem dL_clocks_13 : decode cL_clocks 13 = .ok (.ireturn, 1) := by decide +kernel
set_option maxRecDepth 20000 in
theorem ggL_make_X0_make : GoodIn wsL_make wsX0_make := goodIn_ca (goodIn_ca (goodIn_r _ [7, 8, 9, 10, 11, 12, 13, 14, 15, 16, 17, 18, 19, 20, 21, 6, 22, 23, 24, 25, 26, 27, 28, 29, 30, 31, 32, 33, 34, 35, 36, 37, 38, 39, 40, 41, 42, 43, 44, 45, 46, 47, 48, 49, 50, 51, 52, 53, 54, 55, 56, 57, 58, 59, 60, 61, 62, 63, 64, 65, 66, 67, 68, 69, 70, 71, 72, 73, 74, 75, 76, 77, 78, 79, 80, 81, 82, 83, 84, 85, 86, 87, 88, 89, 90, 91, 92, 93, 94, 95, 96, 97, 98, 99, 100, 101, 102, 103, 104, 105, 106, 107, 108, 109, 110, 111, 112, 113, 114, 115, 116, 117, 118, 119, 120, 121, 122, 123, 124, 125, 126, 127, 128, 129, 130, 131, 132, 133, 134, 135, 136, 137, 138, 139, 140, 141, 142, 143, 144, 145, 146, 147, 148, 149, 150, 151, 152, 153, 154, 155, 156, 157, 158, 159, 160, 161, 162, 163, 164, 165, 166, 167, 168, 169, 170, 171, 172, 173, 174, 175] (by decide +kernel) (by decide +kernel)) (goodIn_sub (fun _ h => List.mem_cons_of_mem _ (List.mem_append_left _ (List.mem_append_right _ h))) (by decide +kernel))) (goodIn_sub (fun _ h => List.mem_cons_of_mem _ (List.mem_append_right _ h)) (by decide +kernel))
set_option maxRecDepth 20000 in
theorem gL_make_X0_make : GoodIn wsL_make (wsV RL 26 RX0 yX0_make wsX0_make) := goodIn_app (goodIn_of _ (by decide +kernel)) ggL_make_X0_make
theorem dL_make_0 : decode cL_make 0 = .ok (.aload_n 2, 1) := by decide +kernel
theorem dL_make_1 : decode cL_make 1 = .ok (.iconst 0, 1) := by decide +kernel
theorem dL_make_2 : decode cL_make 2 = .ok (.aload_n 0, 1) := by decide +kernel
theorem dL_make_3 : decode cL_make 3 = .ok (.iload_n 1, 1) := by decide +kernel
theorem dL_make_4 : decode cL_make 4 = .ok (.invokevirtual 26, 3) := by decide +kernel
theorem dL_make_7 : decode cL_make 7 = .ok (.i2l, 1) := by decide +kernel
theorem dL_make_8 : decode cL_make 8 = .ok (.lastore, 1) := by decide +kernel
theorem dL_make_9 : decode cL_make 9 = .ok (.goto 9, 3) := by decide +kernel
theorem dL_make_12 : decode cL_make 12 = .ok (.astore_n 3, 1) := by decide +kernel
theorem dL_make_13 : decode cL_make 13 = .ok (.iconst 1, 1) := by decide +kernel
theorem dL_make_14 : decode cL_make 14 = .ok (.ireturn, 1) := by decide +kernel
theorem dL_make_15 : decode cL_make 15 = .ok (.astore_n 3, 1) := by decide +kernel
theorem dL_make_16 : decode cL_make 16 = .ok (.iconst 2, 1) := by decide +kernel
theorem dL_make_17 : decode cL_make 17 = .ok (.ireturn, 1) := by decide +kernel
theorem dL_make_18 : decode cL_make 18 = .ok (.iconst 0, 1) := by decide +kernel
theorem dL_make_19 : decode cL_make 19 = .ok (.ireturn, 1) := by decide +kernel
set_option maxRecDepth 20000 in
theorem ggL_unmake_X0_unmake : GoodIn wsL_unmake wsX0_unmake := goodIn_ca (goodIn_r _ [6, 7, 8, 9, 10, 11, 12, 13, 14, 15, 16, 17, 18, 19, 20, 21, 22, 5, 23, 24, 25, 26, 27, 28, 29, 30, 31, 32, 33, 34, 35, 36, 37, 38, 39, 40, 41, 42, 43, 44, 45, 46, 47, 48, 49, 50, 51, 52, 53, 54, 55, 56, 57, 58, 59, 60, 61, 62, 63, 64, 65, 66, 67, 68, 69, 70, 71, 72, 73, 74, 75, 76, 77, 78, 79] (by decide +kernel) (by decide +kernel)) (goodIn_sub (fun _ h => List.mem_cons_of_mem _ (List.mem_append_right _ h)) (by decide +kernel))
set_option maxRecDepth 20000 in
theorem gL_unmake_X0_unmake : GoodIn wsL_unmake (wsV RL 30 RX0 yX0_unmake wsX0_unmake) := goodIn_app (goodIn_of _ (by decide +kernel)) ggL_unmake_X0_unmake
theorem dL_unmake_0 : decode cL_unmake 0 = .ok (.aload_n 1, 1) := by decide +kernel
theorem dL_unmake_1 : decode cL_unmake 1 = .ok (.iconst 0, 1) := by decide +kernel
theorem dL_unmake_2 : decode cL_unmake 2 = .ok (.aload_n 0, 1) := by decide +kernel
theorem dL_unmake_3 : decode cL_unmake 3 = .ok (.invokevirtual 30, 3) := by decide +kernel
theorem dL_unmake_6 : decode cL_unmake 6 = .ok (.i2l, 1) := by decide +kernel
theorem dL_unmake_7 : decode cL_unmake 7 = .ok (.lastore, 1) := by decide +kernel
theorem dL_unmake_8 : decode cL_unmake 8 = .ok (.goto 6, 3) := by decide +kernel
theorem dL_unmake_11 : decode cL_unmake 11 = .ok (.astore_n 2, 1) := by decide +kernel
theorem dL_unmake_12 : decode cL_unmake 12 = .ok (.iconst 1, 1) := by decide +kernel
theorem dL_unmake_13 : decode cL_unmake 13 = .ok (.ireturn, 1) := by decide +kernel
theorem dL_unmake_14 : decode cL_unmake 14 = .ok (.iconst 0, 1) := by decide +kernel
theorem dL_unmake_15 : decode cL_unmake 15 = .ok (.ireturn, 1) := by decide +kernel
set_option maxRecDepth 20000 in
theorem ggL_at_X0_at : GoodIn wsL_at wsX0_at := goodIn_ca (goodIn_r _ [6, 7, 8, 9, 10, 11, 5, 12, 13, 14, 15, 16, 17, 18, 19, 20, 21, 22, 23, 24, 25] (by decide +kernel) (by decide +kernel)) (goodIn_sub (fun _ h => List.mem_cons_of_mem _ (List.mem_append_right _ h)) (by decide +kernel))
set_option maxRecDepth 20000 in
theorem gL_at_X0_at : GoodIn wsL_at (wsV RL 34 RX0 yX0_at wsX0_at) := goodIn_app (goodIn_of _ (by decide +kernel)) ggL_at_X0_at
theorem dL_at_0 : decode cL_at 0 = .ok (.aload_n 2, 1) := by decide +kernel
theorem dL_at_1 : decode cL_at 1 = .ok (.iconst 0, 1) := by decide +kernel
theorem dL_at_2 : decode cL_at 2 = .ok (.aload_n 0, 1) := by decide +kernel
theorem dL_at_3 : decode cL_at 3 = .ok (.iload_n 1, 1) := by decide +kernel
theorem dL_at_4 : decode cL_at 4 = .ok (.invokevirtual 34, 3) := by decide +kernel
theorem dL_at_7 : decode cL_at 7 = .ok (.i2l, 1) := by decide +kernel
theorem dL_at_8 : decode cL_at 8 = .ok (.lastore, 1) := by decide +kernel
theorem dL_at_9 : decode cL_at 9 = .ok (.goto 6, 3) := by decide +kernel
theorem dL_at_12 : decode cL_at 12 = .ok (.astore_n 3, 1) := by decide +kernel
theorem dL_at_13 : decode cL_at 13 = .ok (.iconst 1, 1) := by decide +kernel
theorem dL_at_14 : decode cL_at 14 = .ok (.ireturn, 1) := by decide +kernel
theorem dL_at_15 : decode cL_at 15 = .ok (.iconst 0, 1) := by decide +kernel
theorem dL_at_16 : decode cL_at 16 = .ok (.ireturn, 1) := by decide +kernel
set_option maxRecDepth 20000 in
theorem ggL_attackers_X0_attackers : GoodIn wsL_attackers wsX0_attackers := goodIn_ca (goodIn_ca (goodIn_r _ [7, 8, 9, 10, 11, 12, 13, 14, 6, 15, 16, 17, 18, 19, 20, 21, 22, 23, 24, 25, 26, 27, 28, 29, 30, 31, 32, 33, 34, 35, 36, 37, 38, 39, 40, 41, 42, 43, 44, 45, 46, 47, 48, 49, 50, 51, 52, 53, 54, 55, 56, 57, 58, 59, 60, 61, 62, 63, 64, 65, 66, 67, 68, 69, 70, 71, 72] (by decide +kernel) (by decide +kernel)) (goodIn_sub (fun _ h => List.mem_cons_of_mem _ (List.mem_append_left _ (List.mem_append_right _ h))) (by decide +kernel))) (goodIn_sub (fun _ h => List.mem_cons_of_mem _ (List.mem_append_right _ h)) (by decide +kernel))
set_option maxRecDepth 20000 in
theorem gL_attackers_X0_attackers : GoodIn wsL_attackers (wsV RL 37 RX0 yX0_attackers wsX0_attackers) := goodIn_app (goodIn_of _ (by decide +kernel)) ggL_attackers_X0_attackers
theorem dL_attackers_0 : decode cL_attackers 0 = .ok (.aload_n 3, 1) := by decide +kernel
theorem dL_attackers_1 : decode cL_attackers 1 = .ok (.iconst 0, 1) := by decide +kernel
theorem dL_attackers_2 : decode cL_attackers 2 = .ok (.aload_n 0, 1) := by decide +kernel
theorem dL_attackers_3 : decode cL_attackers 3 = .ok (.iload_n 1, 1) := by decide +kernel
theorem dL_attackers_4 : decode cL_attackers 4 = .ok (.iload_n 2, 1) := by decide +kernel
theorem dL_attackers_5 : decode cL_attackers 5 = .ok (.invokevirtual 37, 3) := by decide +kernel
theorem dL_attackers_8 : decode cL_attackers 8 = .ok (.lastore, 1) := by decide +kernel
theorem dL_attackers_9 : decode cL_attackers 9 = .ok (.goto 11, 3) := by decide +kernel
theorem dL_attackers_12 : decode cL_attackers 12 = .ok (.astore 4, 2) := by decide +kernel
theorem dL_attackers_14 : decode cL_attackers 14 = .ok (.iconst 1, 1) := by decide +kernel
theorem dL_attackers_15 : decode cL_attackers 15 = .ok (.ireturn, 1) := by decide +kernel
theorem dL_attackers_16 : decode cL_attackers 16 = .ok (.astore 4, 2) := by decide +kernel
theorem dL_attackers_18 : decode cL_attackers 18 = .ok (.iconst 2, 1) := by decide +kernel
theorem dL_attackers_19 : decode cL_attackers 19 = .ok (.ireturn, 1) := by decide +kernel
theorem dL_attackers_20 : decode cL_attackers 20 = .ok (.iconst 0, 1) := by decide +kernel
theorem dL_attackers_21 : decode cL_attackers 21 = .ok (.ireturn, 1) := by decide +kernel
set_option maxRecDepth 20000 in
theorem ggL_law_X0_init : GoodIn wsL_law wsX0_init := goodIn_r _ [9, 10, 11, 12, 13, 14, 15, 16, 17, 18, 19, 20, 21, 22, 23, 2, 24, 25, 26, 27, 28, 29, 30, 31, 32, 33, 34, 450, 451, 452, 453, 454, 455, 456, 457, 458, 459, 460, 461, 462] (by decide +kernel) (by decide +kernel)
set_option maxRecDepth 20000 in
theorem gL_law_X0_init : GoodIn wsL_law (wsX0_init) := ggL_law_X0_init
set_option maxRecDepth 20000 in
theorem ggL_law_X1_init : GoodIn wsL_law wsX1_init := goodIn_r _ [37, 38, 11, 12, 13, 39, 40, 41, 42, 43, 44, 45, 46, 463, 464, 465, 466, 467, 468, 469, 470, 471, 472, 473] (by decide +kernel) (by decide +kernel)
set_option maxRecDepth 20000 in
theorem gL_law_X1_init : GoodIn wsL_law (wsX1_init) := ggL_law_X1_init
set_option maxRecDepth 20000 in
theorem ggL_law_X0_clear : GoodIn wsL_law wsX0_clear := goodIn_r _ [50, 21, 22, 23, 2, 24, 14, 25, 26, 27, 28, 29, 30, 31, 32, 33, 34, 450, 451, 452, 453, 454, 455, 456, 457, 458, 459, 460, 461, 462] (by decide +kernel) (by decide +kernel)
set_option maxRecDepth 20000 in
theorem gL_law_X0_clear : GoodIn wsL_law (wsV RL 45 RX0 yX0_clear wsX0_clear) := goodIn_app (goodIn_of _ (by decide +kernel)) ggL_law_X0_clear
set_option maxRecDepth 20000 in
theorem ggL_law_X1_clear : GoodIn wsL_law wsX1_clear := goodIn_r _ [54, 55, 39, 56, 57, 40, 58, 41, 59, 463, 464, 465, 466, 467, 468, 469, 470, 471, 472, 473] (by decide +kernel) (by decide +kernel)
set_option maxRecDepth 20000 in
theorem gL_law_X1_clear : GoodIn wsL_law (wsV RL 48 RX1 yX1_clear wsX1_clear) := goodIn_app (goodIn_of _ (by decide +kernel)) ggL_law_X1_clear
set_option maxRecDepth 20000 in
theorem ggL_law_X0_begin : GoodIn wsL_law wsX0_begin := goodIn_r _ [63, 64, 14, 26, 21, 22, 23, 2, 24, 25, 27, 28, 29, 30, 31, 32, 33, 34, 65, 66, 67, 450, 451, 452, 453, 454, 455, 456, 457, 458, 459, 460, 461, 462] (by decide +kernel) (by decide +kernel)
set_option maxRecDepth 20000 in
theorem gL_law_X0_begin : GoodIn wsL_law (wsV RL 49 RX0 yX0_begin wsX0_begin) := goodIn_app (goodIn_of _ (by decide +kernel)) ggL_law_X0_begin
set_option maxRecDepth 20000 in
theorem ggL_law_X1_begin : GoodIn wsL_law wsX1_begin := goodIn_r _ [71, 39, 57, 72, 52, 53, 5, 54, 55, 56, 40, 58, 41, 59, 73, 74, 75, 463, 464, 465, 466, 467, 468, 469, 470, 471, 472, 473] (by decide +kernel) (by decide +kernel)
set_option maxRecDepth 20000 in
theorem gL_law_X1_begin : GoodIn wsL_law (wsV RL 52 RX1 yX1_begin wsX1_begin) := goodIn_app (goodIn_of _ (by decide +kernel)) ggL_law_X1_begin
set_option maxRecDepth 20000 in
theorem ggL_law_L_put : GoodIn wsL_law wsL_put := goodIn_ca (goodIn_ca (goodIn_ca (goodIn_r _ [79, 80, 81, 82, 83, 84, 85, 2, 86, 87, 88, 89, 90, 91, 92, 14, 93, 94, 95, 96, 97, 98, 99, 100, 101, 102, 103, 104, 105, 106, 107, 108, 109, 110, 30, 31, 32, 33, 34, 450, 451, 452, 453, 454, 455, 456, 457, 458, 459, 460, 461, 462] (by decide +kernel) (by decide +kernel)) (goodIn_sub (fun _ h => List.mem_append_left _ (List.mem_append_left _ (List.mem_append_right _ h))) (by decide +kernel))) (goodIn_sub (fun _ h => List.mem_append_left _ (List.mem_append_right _ h)) (by decide +kernel))) (goodIn_sub (fun _ h => List.mem_append_right _ h) (by decide +kernel))
set_option maxRecDepth 20000 in
theorem gL_law_L_put : GoodIn wsL_law (va_wsS RL 53 yL_put wsL_put) := goodIn_app (goodIn_of _ (by decide +kernel)) ggL_law_L_put
set_option maxRecDepth 20000 in
theorem ggL_law_X1_put : GoodIn wsL_law wsX1_put := goodIn_r _ [114, 55, 39, 59, 115, 116, 5, 117, 118, 119, 120, 121, 463, 464, 465, 466, 467, 468, 469, 470, 471, 472, 473] (by decide +kernel) (by decide +kernel)
set_option maxRecDepth 20000 in
theorem gL_law_X1_put : GoodIn wsL_law (wsV RL 58 RX1 yX1_put wsX1_put) := goodIn_app (goodIn_of _ (by decide +kernel)) ggL_law_X1_put
set_option maxRecDepth 20000 in
theorem ggL_law_X1_thrown : GoodIn wsL_law wsX1_thrown := goodIn_r _ [125, 55, 463, 464, 465, 466, 467, 468, 469, 470, 471, 472, 473] (by decide +kernel) (by decide +kernel)
set_option maxRecDepth 20000 in
theorem gL_law_X1_thrown : GoodIn wsL_law (wsV RL 59 RX1 yX1_thrown wsX1_thrown) := goodIn_app (goodIn_of _ (by decide +kernel)) ggL_law_X1_thrown
set_option maxRecDepth 20000 in
theorem ggL_law_L_state : GoodIn wsL_law wsL_state := goodIn_ca (goodIn_r _ [128, 81, 129, 130, 131, 2, 132, 89, 90, 25, 26, 27, 133, 134, 135, 93, 94, 95, 30, 31, 32, 33, 34, 450, 451, 452, 453, 454, 455, 456, 457, 458, 459, 460, 461, 462] (by decide +kernel) (by decide +kernel)) (goodIn_sub (fun _ h => List.mem_append_left _ (List.mem_append_right _ h)) (by decide +kernel))
set_option maxRecDepth 20000 in
theorem gL_law_L_state : GoodIn wsL_law (va_wsS RL 62 yL_state wsL_state) := goodIn_app (goodIn_of _ (by decide +kernel)) ggL_law_L_state
set_option maxRecDepth 20000 in
theorem ggL_law_X1_state : GoodIn wsL_law wsX1_state := goodIn_r _ [139, 55, 56, 57, 40, 59, 463, 464, 465, 466, 467, 468, 469, 470, 471, 472, 473] (by decide +kernel) (by decide +kernel)
set_option maxRecDepth 20000 in
theorem gL_law_X1_state : GoodIn wsL_law (wsV RL 65 RX1 yX1_state wsX1_state) := goodIn_app (goodIn_of _ (by decide +kernel)) ggL_law_X1_state
set_option maxRecDepth 20000 in
theorem ggL_law_L_clocks : GoodIn wsL_law wsL_clocks := goodIn_ca (goodIn_r _ [142, 81, 143, 144, 145, 2, 146, 89, 90, 28, 29, 30, 31, 32, 33, 34, 450, 451, 452, 453, 454, 455, 456, 457, 458, 459, 460, 461, 462] (by decide +kernel) (by decide +kernel)) (goodIn_sub (fun _ h => List.mem_append_left _ (List.mem_append_right _ h)) (by decide +kernel))
set_option maxRecDepth 20000 in
theorem gL_law_L_clocks : GoodIn wsL_law (va_wsS RL 66 yL_clocks wsL_clocks) := goodIn_app (goodIn_of _ (by decide +kernel)) ggL_law_L_clocks
set_option maxRecDepth 20000 in
theorem ggL_law_X1_clocks : GoodIn wsL_law wsX1_clocks := goodIn_r _ [150, 55, 58, 41, 59, 463, 464, 465, 466, 467, 468, 469, 470, 471, 472, 473] (by decide +kernel) (by decide +kernel)
set_option maxRecDepth 20000 in
theorem gL_law_X1_clocks : GoodIn wsL_law (wsV RL 68 RX1 yX1_clocks wsX1_clocks) := goodIn_app (goodIn_of _ (by decide +kernel)) ggL_law_X1_clocks
set_option maxRecDepth 20000 in
theorem ggL_law_X0_fits : GoodIn wsL_law wsX0_fits := goodIn_r _ [154, 14, 25, 155, 156, 2, 157, 158, 159, 160, 161, 162, 163, 164, 165, 166, 167, 168, 169, 170, 171, 172, 173, 174, 175, 176, 177, 178, 179, 180, 181, 182, 183, 184, 185, 186, 187, 188, 189, 190, 191, 192, 193, 93, 94, 95, 194, 195, 196, 197, 198, 199, 200, 201, 202, 203, 204, 205, 206, 207, 208, 209, 210, 211, 212, 213, 214, 215, 216, 217, 27, 218, 219, 220, 221, 65, 66, 67, 222, 223, 224, 225, 226, 227, 228, 229, 230, 231, 232, 233, 234, 235, 236, 237, 238, 239, 240, 241, 242, 243, 244, 26, 245, 246, 247, 248, 249, 250, 251, 252, 253, 254, 255, 256, 450, 451, 452, 453, 454, 455, 456, 457, 458, 459, 460, 461, 462] (by decide +kernel) (by decide +kernel)
set_option maxRecDepth 20000 in
theorem gL_law_X0_fits : GoodIn wsL_law (wsV RL 69 RX0 yX0_fits wsX0_fits) := goodIn_app (goodIn_of _ (by decide +kernel)) ggL_law_X0_fits
set_option maxRecDepth 20000 in
theorem ggL_law_X1_fits : GoodIn wsL_law wsX1_fits := goodIn_r _ [260, 55, 261, 262, 263, 5, 264, 39, 56, 265, 266, 267, 268, 269, 270, 271, 272, 273, 274, 275, 276, 277, 278, 279, 280, 281, 282, 283, 284, 285, 286, 287, 288, 289, 40, 115, 116, 117, 290, 291, 292, 293, 57, 463, 464, 465, 466, 467, 468, 469, 470, 471, 472, 473] (by decide +kernel) (by decide +kernel)
set_option maxRecDepth 20000 in
theorem gL_law_X1_fits : GoodIn wsL_law (wsV RL 73 RX1 yX1_fits wsX1_fits) := goodIn_app (goodIn_of _ (by decide +kernel)) ggL_law_X1_fits
set_option maxRecDepth 20000 in
theorem ggL_law_L_make : GoodIn wsL_law wsL_make := goodIn_ca (goodIn_ca (goodIn_r _ [296, 81, 82, 297, 298, 299, 2, 300, 89, 90, 91, 92, 34, 14, 26, 27, 28, 25, 29, 301, 152, 153, 154, 155, 156, 157, 158, 159, 160, 161, 162, 163, 164, 165, 166, 167, 168, 169, 170, 171, 172, 173, 174, 175, 176, 177, 178, 179, 180, 181, 182, 183, 184, 185, 186, 187, 188, 189, 190, 191, 192, 193, 93, 94, 95, 194, 195, 196, 197, 198, 199, 200, 201, 202, 203, 204, 205, 206, 207, 208, 209, 210, 211, 212, 213, 214, 215, 216, 217, 218, 219, 220, 221, 65, 66, 67, 222, 223, 224, 225, 226, 227, 228, 229, 230, 231, 232, 233, 234, 235, 236, 237, 238, 239, 240, 241, 242, 243, 244, 245, 246, 247, 248, 249, 250, 251, 252, 253, 254, 255, 256, 302, 303, 304, 305, 306, 307, 308, 309, 15, 16, 17, 18, 19, 20, 310, 311, 312, 313, 314, 315, 316, 317, 318, 319, 320, 321, 322, 323, 324, 325, 326, 327, 450, 451, 452, 453, 454, 455, 456, 457, 458, 459, 460, 461, 462] (by decide +kernel) (by decide +kernel)) (goodIn_sub (fun _ h => List.mem_append_left _ (List.mem_append_right _ h)) (by decide +kernel))) (goodIn_sub (fun _ h => List.mem_append_right _ h) (by decide +kernel))
set_option maxRecDepth 20000 in
theorem gL_law_L_make : GoodIn wsL_law (va_wsS RL 74 yL_make wsL_make) := goodIn_app (goodIn_of _ (by decide +kernel)) ggL_law_L_make
set_option maxRecDepth 20000 in
theorem ggL_law_X1_make : GoodIn wsL_law wsX1_make := goodIn_r _ [331, 59, 55, 39, 56, 57, 40, 58, 41, 261, 262, 263, 5, 264, 265, 266, 267, 268, 269, 270, 271, 272, 273, 274, 275, 276, 277, 278, 279, 280, 281, 282, 283, 284, 285, 286, 287, 288, 289, 115, 116, 117, 290, 291, 292, 293, 332, 333, 334, 335, 45, 46, 42, 336, 337, 338, 339, 340, 341, 342, 463, 464, 465, 466, 467, 468, 469, 470, 471, 472, 473] (by decide +kernel) (by decide +kernel)
set_option maxRecDepth 20000 in
theorem gL_law_X1_make : GoodIn wsL_law (wsV RL 77 RX1 yX1_make wsX1_make) := goodIn_app (goodIn_of _ (by decide +kernel)) ggL_law_X1_make
set_option maxRecDepth 20000 in
theorem ggL_law_L_unmake : GoodIn wsL_law wsL_unmake := goodIn_ca (goodIn_r _ [345, 82, 346, 347, 348, 2, 349, 91, 92, 34, 15, 18, 26, 19, 27, 20, 28, 25, 29, 16, 17, 211, 212, 213, 350, 351, 352, 353, 14, 155, 156, 157, 158, 159, 160, 167, 168, 169, 65, 66, 67, 314, 315, 316, 164, 165, 166, 248, 249, 250, 204, 205, 206, 207, 173, 174, 175, 251, 252, 253, 317, 318, 319, 320, 93, 94, 95, 450, 451, 452, 453, 454, 455, 456, 457, 458, 459, 460, 461, 462] (by decide +kernel) (by decide +kernel)) (goodIn_sub (fun _ h => List.mem_append_right _ h) (by decide +kernel))
set_option maxRecDepth 20000 in
theorem gL_law_L_unmake : GoodIn wsL_law (va_wsS RL 78 yL_unmake wsL_unmake) := goodIn_app (goodIn_of _ (by decide +kernel)) ggL_law_L_unmake
set_option maxRecDepth 20000 in
theorem ggL_law_X1_unmake : GoodIn wsL_law wsX1_unmake := goodIn_r _ [357, 59, 55, 39, 45, 46, 56, 57, 40, 58, 41, 42, 463, 464, 465, 466, 467, 468, 469, 470, 471, 472, 473] (by decide +kernel) (by decide +kernel)
set_option maxRecDepth 20000 in
theorem gL_law_X1_unmake : GoodIn wsL_law (wsV RL 81 RX1 yX1_unmake wsX1_unmake) := goodIn_app (goodIn_of _ (by decide +kernel)) ggL_law_X1_unmake
set_option maxRecDepth 20000 in
theorem ggL_law_L_at : GoodIn wsL_law wsL_at := goodIn_ca (goodIn_r _ [360, 80, 361, 362, 363, 2, 364, 87, 88, 14, 93, 94, 95, 450, 451, 452, 453, 454, 455, 456, 457, 458, 459, 460, 461, 462] (by decide +kernel) (by decide +kernel)) (goodIn_sub (fun _ h => List.mem_append_left _ (List.mem_append_left _ (List.mem_append_right _ h))) (by decide +kernel))
set_option maxRecDepth 20000 in
theorem gL_law_L_at : GoodIn wsL_law (va_wsS RL 82 yL_at wsL_at) := goodIn_app (goodIn_of _ (by decide +kernel)) ggL_law_L_at
set_option maxRecDepth 20000 in
theorem ggL_law_X1_at : GoodIn wsL_law wsX1_at := goodIn_r _ [368, 55, 39, 115, 116, 5, 117, 463, 464, 465, 466, 467, 468, 469, 470, 471, 472, 473] (by decide +kernel) (by decide +kernel)
set_option maxRecDepth 20000 in
theorem gL_law_X1_at : GoodIn wsL_law (wsV RL 84 RX1 yX1_at wsX1_at) := goodIn_app (goodIn_of _ (by decide +kernel)) ggL_law_X1_at
set_option maxRecDepth 20000 in
theorem ggL_law_X0_where : GoodIn wsL_law wsX0_where := goodIn_r _ [103, 14, 450, 451, 452, 453, 454, 455, 456, 457, 458, 459, 460, 461, 462] (by decide +kernel) (by decide +kernel)
set_option maxRecDepth 20000 in
theorem gL_law_X0_where : GoodIn wsL_law (wsV RL 85 RX0 yX0_where wsX0_where) := goodIn_app (goodIn_of _ (by decide +kernel)) ggL_law_X0_where
set_option maxRecDepth 20000 in
theorem ggL_law_X1_where : GoodIn wsL_law wsX1_where := goodIn_r _ [373, 55, 39, 463, 464, 465, 466, 467, 468, 469, 470, 471, 472, 473] (by decide +kernel) (by decide +kernel)
set_option maxRecDepth 20000 in
theorem gL_law_X1_where : GoodIn wsL_law (wsV RL 89 RX1 yX1_where wsX1_where) := goodIn_app (goodIn_of _ (by decide +kernel)) ggL_law_X1_where
set_option maxRecDepth 20000 in
theorem ggL_law_L_attackers : GoodIn wsL_law wsL_attackers := goodIn_ca (goodIn_ca (goodIn_r _ [376, 80, 81, 377, 378, 379, 2, 380, 87, 88, 89, 90, 14, 93, 94, 95, 133, 134, 135, 161, 162, 163, 226, 227, 228, 229, 204, 205, 206, 207, 208, 209, 210, 173, 174, 175, 164, 165, 166, 201, 202, 203, 187, 188, 189, 230, 231, 232, 233, 234, 235, 236, 237, 238, 239, 240, 190, 191, 192, 193, 450, 451, 452, 453, 454, 455, 456, 457, 458, 459, 460, 461, 462] (by decide +kernel) (by decide +kernel)) (goodIn_sub (fun _ h => List.mem_append_left _ (List.mem_append_left _ (List.mem_append_right _ h))) (by decide +kernel))) (goodIn_sub (fun _ h => List.mem_append_left _ (List.mem_append_right _ h)) (by decide +kernel))
set_option maxRecDepth 20000 in
theorem gL_law_L_attackers : GoodIn wsL_law (va_wsS RL 90 yL_attackers wsL_attackers) := goodIn_app (goodIn_of _ (by decide +kernel)) ggL_law_L_attackers
set_option maxRecDepth 20000 in
theorem ggL_law_X1_attackers : GoodIn wsL_law wsX1_attackers := goodIn_r _ [384, 55, 39, 115, 116, 5, 117, 268, 269, 270, 275, 276, 277, 278, 265, 266, 267, 279, 280, 281, 282, 283, 284, 285, 463, 464, 465, 466, 467, 468, 469, 470, 471, 472, 473] (by decide +kernel) (by decide +kernel)
set_option maxRecDepth 20000 in
theorem gL_law_X1_attackers : GoodIn wsL_law (wsV RL 93 RX1 yX1_attackers wsX1_attackers) := goodIn_app (goodIn_of _ (by decide +kernel)) ggL_law_X1_attackers
set_option maxRecDepth 20000 in
theorem ggL_law_X0_check : GoodIn wsL_law wsX0_check := goodIn_ca (goodIn_ca (goodIn_r _ [388, 14, 133, 134, 2, 135, 65, 66, 67, 211, 212, 213, 389, 378, 379, 380, 87, 88, 89, 90, 93, 94, 95, 161, 162, 163, 226, 227, 228, 229, 204, 205, 206, 207, 208, 209, 210, 173, 174, 175, 164, 165, 166, 201, 202, 203, 187, 188, 189, 230, 231, 232, 233, 234, 235, 236, 237, 238, 239, 240, 190, 191, 192, 193, 450, 451, 452, 453, 454, 455, 456, 457, 458, 459, 460, 461, 462] (by decide +kernel) (by decide +kernel)) (goodIn_sub (fun _ h => List.mem_append_left _ (List.mem_append_left _ (List.mem_append_right _ h))) (by decide +kernel))) (goodIn_sub (fun _ h => List.mem_append_left _ (List.mem_append_right _ h)) (by decide +kernel))
set_option maxRecDepth 20000 in
theorem gL_law_X0_check : GoodIn wsL_law (wsV RL 94 RX0 yX0_check wsX0_check) := goodIn_app (goodIn_of _ (by decide +kernel)) ggL_law_X0_check
set_option maxRecDepth 20000 in
theorem ggL_law_X1_check : GoodIn wsL_law wsX1_check := goodIn_r _ [393, 55, 39, 394, 395, 396, 5, 397, 268, 269, 270, 275, 276, 277, 278, 265, 266, 267, 279, 280, 281, 282, 283, 284, 285, 463, 464, 465, 466, 467, 468, 469, 470, 471, 472, 473] (by decide +kernel) (by decide +kernel)
set_option maxRecDepth 20000 in
theorem gL_law_X1_check : GoodIn wsL_law (wsV RL 97 RX1 yX1_check wsX1_check) := goodIn_app (goodIn_of _ (by decide +kernel)) ggL_law_X1_check
set_option maxRecDepth 20000 in
theorem ggL_law_X0_key : GoodIn wsL_law wsX0_key := goodIn_r _ [401, 26, 27, 25, 402, 14, 403, 404, 2, 405, 406, 407, 408, 450, 451, 452, 453, 454, 455, 456, 457, 458, 459, 460, 461, 462] (by decide +kernel) (by decide +kernel)
set_option maxRecDepth 20000 in
theorem gL_law_X0_key : GoodIn wsL_law (wsV RL 98 RX0 yX0_key wsX0_key) := goodIn_app (goodIn_of _ (by decide +kernel)) ggL_law_X0_key
set_option maxRecDepth 20000 in
theorem ggL_law_X1_key : GoodIn wsL_law wsX1_key := goodIn_r _ [412, 55, 413, 57, 414, 40, 39, 415, 56, 416, 417, 418, 5, 419, 420, 421, 422, 463, 464, 465, 466, 467, 468, 469, 470, 471, 472, 473] (by decide +kernel) (by decide +kernel)
set_option maxRecDepth 20000 in
theorem gL_law_X1_key : GoodIn wsL_law (wsV RL 102 RX1 yX1_key wsX1_key) := goodIn_app (goodIn_of _ (by decide +kernel)) ggL_law_X1_key
set_option maxRecDepth 20000 in
theorem ggL_law_X0_move : GoodIn wsL_law wsX0_move := goodIn_r _ [426, 34, 15, 450, 451, 452, 453, 454, 455, 456, 457, 458, 459, 460, 461, 462] (by decide +kernel) (by decide +kernel)
set_option maxRecDepth 20000 in
theorem gL_law_X0_move : GoodIn wsL_law (wsV RL 103 RX0 yX0_move wsX0_move) := goodIn_app (goodIn_of _ (by decide +kernel)) ggL_law_X0_move
set_option maxRecDepth 20000 in
theorem ggL_law_X1_move : GoodIn wsL_law wsX1_move := goodIn_r _ [430, 55, 59, 42, 463, 464, 465, 466, 467, 468, 469, 470, 471, 472, 473] (by decide +kernel) (by decide +kernel)
set_option maxRecDepth 20000 in
theorem gL_law_X1_move : GoodIn wsL_law (wsV RL 106 RX1 yX1_move wsX1_move) := goodIn_app (goodIn_of _ (by decide +kernel)) ggL_law_X1_move
set_option maxRecDepth 20000 in
theorem ggL_law_X0_look : GoodIn wsL_law wsX0_look := goodIn_r _ [434, 25, 26, 27, 28, 29, 34, 96, 97, 98, 2, 99, 100, 101, 102, 103, 14, 104, 105, 106, 107, 108, 109, 110, 435, 436, 437, 438, 161, 162, 163, 164, 165, 166, 439, 440, 441, 450, 451, 452, 453, 454, 455, 456, 457, 458, 459, 460, 461, 462] (by decide +kernel) (by decide +kernel)
set_option maxRecDepth 20000 in
theorem gL_law_X0_look : GoodIn wsL_law (wsV RL 107 RX0 yX0_look wsX0_look) := goodIn_app (goodIn_of _ (by decide +kernel)) ggL_law_X0_look
set_option maxRecDepth 20000 in
theorem ggL_law_X1_look : GoodIn wsL_law wsX1_look := goodIn_r _ [445, 55, 56, 57, 40, 58, 41, 59, 118, 119, 120, 5, 121, 39, 446, 447, 448, 449, 268, 269, 270, 265, 266, 267, 463, 464, 465, 466, 467, 468, 469, 470, 471, 472, 473] (by decide +kernel) (by decide +kernel)
set_option maxRecDepth 20000 in
theorem gL_law_X1_look : GoodIn wsL_law (wsV RL 110 RX1 yX1_look wsX1_look) := goodIn_app (goodIn_of _ (by decide +kernel)) ggL_law_X1_look
theorem dL_law_0 : decode cL_law 0 = .ok (.new 8, 3) := by decide +kernel
theorem dL_law_3 : decode cL_law 3 = .ok (.dup, 1) := by decide +kernel
theorem dL_law_4 : decode cL_law 4 = .ok (.invokespecial 41, 3) := by decide +kernel
theorem dL_law_7 : decode cL_law 7 = .ok (.astore_n 1, 1) := by decide +kernel
theorem dL_law_8 : decode cL_law 8 = .ok (.new 42, 3) := by decide +kernel
theorem dL_law_11 : decode cL_law 11 = .ok (.dup, 1) := by decide +kernel
theorem dL_law_12 : decode cL_law 12 = .ok (.invokespecial 44, 3) := by decide +kernel
theorem dL_law_15 : decode cL_law 15 = .ok (.astore_n 2, 1) := by decide +kernel
theorem dL_law_16 : decode cL_law 16 = .ok (.iconst 1, 1) := by decide +kernel
theorem dL_law_17 : decode cL_law 17 = .ok (.newarray .long, 2) := by decide +kernel
theorem dL_law_19 : decode cL_law 19 = .ok (.astore_n 3, 1) := by decide +kernel
theorem dL_law_20 : decode cL_law 20 = .ok (.iconst 0, 1) := by decide +kernel
theorem dL_law_21 : decode cL_law 21 = .ok (.istore 4, 2) := by decide +kernel
theorem dL_law_23 : decode cL_law 23 = .ok (.iload 4, 2) := by decide +kernel
theorem dL_law_25 : decode cL_law 25 = .ok (.aload_n 0, 1) := by decide +kernel
theorem dL_law_26 : decode cL_law 26 = .ok (.arraylength, 1) := by decide +kernel
theorem dL_law_27 : decode cL_law 27 = .ok (.iconst 4, 1) := by decide +kernel
theorem dL_law_28 : decode cL_law 28 = .ok (.isub, 1) := by decide +kernel
theorem dL_law_29 : decode cL_law 29 = .ok (.if_icmp .gt 630, 3) := by decide +kernel
theorem dL_law_32 : decode cL_law 32 = .ok (.aload_n 0, 1) := by decide +kernel
theorem dL_law_33 : decode cL_law 33 = .ok (.iload 4, 2) := by decide +kernel
theorem dL_law_35 : decode cL_law 35 = .ok (.iaload, 1) := by decide +kernel
theorem dL_law_36 : decode cL_law 36 = .ok (.bipush 15, 2) := by decide +kernel
theorem dL_law_38 : decode cL_law 38 = .ok (.iand, 1) := by decide +kernel
theorem dL_law_39 : decode cL_law 39 = .ok (.tableswitch 614 0 14 #[73, 84, 95, 143, 203, 251, 276, 332, 376, 432, 458, 525, 550, 564, 589], 73) := by decide +kernel
theorem dL_law_112 : decode cL_law 112 = .ok (.aload_n 1, 1) := by decide +kernel
theorem dL_law_113 : decode cL_law 113 = .ok (.invokevirtual 45, 3) := by decide +kernel
theorem dL_law_116 : decode cL_law 116 = .ok (.aload_n 2, 1) := by decide +kernel
theorem dL_law_117 : decode cL_law 117 = .ok (.invokevirtual 48, 3) := by decide +kernel
theorem dL_law_120 : decode cL_law 120 = .ok (.goto 533, 3) := by decide +kernel
theorem dL_law_123 : decode cL_law 123 = .ok (.aload_n 1, 1) := by decide +kernel
theorem dL_law_124 : decode cL_law 124 = .ok (.invokevirtual 49, 3) := by decide +kernel
theorem dL_law_127 : decode cL_law 127 = .ok (.aload_n 2, 1) := by decide +kernel
theorem dL_law_128 : decode cL_law 128 = .ok (.invokevirtual 52, 3) := by decide +kernel
theorem dL_law_131 : decode cL_law 131 = .ok (.goto 522, 3) := by decide +kernel
theorem dL_law_134 : decode cL_law 134 = .ok (.aload_n 1, 1) := by decide +kernel
theorem dL_law_135 : decode cL_law 135 = .ok (.aload_n 0, 1) := by decide +kernel
theorem dL_law_136 : decode cL_law 136 = .ok (.iload 4, 2) := by decide +kernel
theorem dL_law_138 : decode cL_law 138 = .ok (.iconst 1, 1) := by decide +kernel
theorem dL_law_139 : decode cL_law 139 = .ok (.iadd, 1) := by decide +kernel
theorem dL_law_140 : decode cL_law 140 = .ok (.iaload, 1) := by decide +kernel
theorem dL_law_141 : decode cL_law 141 = .ok (.aload_n 0, 1) := by decide +kernel
theorem dL_law_142 : decode cL_law 142 = .ok (.iload 4, 2) := by decide +kernel
theorem dL_law_144 : decode cL_law 144 = .ok (.iconst 2, 1) := by decide +kernel
theorem dL_law_145 : decode cL_law 145 = .ok (.iadd, 1) := by decide +kernel
theorem dL_law_146 : decode cL_law 146 = .ok (.iaload, 1) := by decide +kernel
theorem dL_law_147 : decode cL_law 147 = .ok (.invokestatic 53, 3) := by decide +kernel
theorem dL_law_150 : decode cL_law 150 = .ok (.istore 5, 2) := by decide +kernel
theorem dL_law_152 : decode cL_law 152 = .ok (.aload_n 2, 1) := by decide +kernel
theorem dL_law_153 : decode cL_law 153 = .ok (.aload_n 0, 1) := by decide +kernel
theorem dL_law_154 : decode cL_law 154 = .ok (.iload 4, 2) := by decide +kernel
theorem dL_law_156 : decode cL_law 156 = .ok (.iconst 1, 1) := by decide +kernel
theorem dL_law_157 : decode cL_law 157 = .ok (.iadd, 1) := by decide +kernel
theorem dL_law_158 : decode cL_law 158 = .ok (.iaload, 1) := by decide +kernel
theorem dL_law_159 : decode cL_law 159 = .ok (.aload_n 0, 1) := by decide +kernel
theorem dL_law_160 : decode cL_law 160 = .ok (.iload 4, 2) := by decide +kernel
theorem dL_law_162 : decode cL_law 162 = .ok (.iconst 2, 1) := by decide +kernel
theorem dL_law_163 : decode cL_law 163 = .ok (.iadd, 1) := by decide +kernel
theorem dL_law_164 : decode cL_law 164 = .ok (.iaload, 1) := by decide +kernel
theorem dL_law_165 : decode cL_law 165 = .ok (.invokevirtual 58, 3) := by decide +kernel
theorem dL_law_168 : decode cL_law 168 = .ok (.aload_n 2, 1) := by decide +kernel
theorem dL_law_169 : decode cL_law 169 = .ok (.invokevirtual 59, 3) := by decide +kernel
theorem dL_law_172 : decode cL_law 172 = .ok (.iload 5, 2) := by decide +kernel
theorem dL_law_174 : decode cL_law 174 = .ok (.if_icmp .eq 5, 3) := by decide +kernel
theorem dL_law_177 : decode cL_law 177 = .ok (.iconst 0, 1) := by decide +kernel
theorem dL_law_178 : decode cL_law 178 = .ok (.ireturn, 1) := by decide +kernel
theorem dL_law_179 : decode cL_law 179 = .ok (.goto 474, 3) := by decide +kernel
theorem dL_law_182 : decode cL_law 182 = .ok (.aload_n 1, 1) := by decide +kernel
theorem dL_law_183 : decode cL_law 183 = .ok (.aload_n 0, 1) := by decide +kernel
theorem dL_law_184 : decode cL_law 184 = .ok (.iload 4, 2) := by decide +kernel
theorem dL_law_186 : decode cL_law 186 = .ok (.iconst 1, 1) := by decide +kernel
theorem dL_law_187 : decode cL_law 187 = .ok (.iadd, 1) := by decide +kernel
theorem dL_law_188 : decode cL_law 188 = .ok (.iaload, 1) := by decide +kernel
theorem dL_law_189 : decode cL_law 189 = .ok (.aload_n 0, 1) := by decide +kernel
theorem dL_law_190 : decode cL_law 190 = .ok (.iload 4, 2) := by decide +kernel
theorem dL_law_192 : decode cL_law 192 = .ok (.iconst 2, 1) := by decide +kernel
theorem dL_law_193 : decode cL_law 193 = .ok (.iadd, 1) := by decide +kernel
theorem dL_law_194 : decode cL_law 194 = .ok (.iaload, 1) := by decide +kernel
theorem dL_law_195 : decode cL_law 195 = .ok (.aload_n 0, 1) := by decide +kernel
theorem dL_law_196 : decode cL_law 196 = .ok (.iload 4, 2) := by decide +kernel
theorem dL_law_198 : decode cL_law 198 = .ok (.iconst 3, 1) := by decide +kernel
theorem dL_law_199 : decode cL_law 199 = .ok (.iadd, 1) := by decide +kernel
theorem dL_law_200 : decode cL_law 200 = .ok (.iaload, 1) := by decide +kernel
theorem dL_law_201 : decode cL_law 201 = .ok (.invokestatic 62, 3) := by decide +kernel
theorem dL_law_204 : decode cL_law 204 = .ok (.istore 5, 2) := by decide +kernel
theorem dL_law_206 : decode cL_law 206 = .ok (.aload_n 2, 1) := by decide +kernel
theorem dL_law_207 : decode cL_law 207 = .ok (.aload_n 0, 1) := by decide +kernel
theorem dL_law_208 : decode cL_law 208 = .ok (.iload 4, 2) := by decide +kernel
theorem dL_law_210 : decode cL_law 210 = .ok (.iconst 1, 1) := by decide +kernel
theorem dL_law_211 : decode cL_law 211 = .ok (.iadd, 1) := by decide +kernel
theorem dL_law_212 : decode cL_law 212 = .ok (.iaload, 1) := by decide +kernel
theorem dL_law_213 : decode cL_law 213 = .ok (.aload_n 0, 1) := by decide +kernel
theorem dL_law_214 : decode cL_law 214 = .ok (.iload 4, 2) := by decide +kernel
theorem dL_law_216 : decode cL_law 216 = .ok (.iconst 2, 1) := by decide +kernel
theorem dL_law_217 : decode cL_law 217 = .ok (.iadd, 1) := by decide +kernel
theorem dL_law_218 : decode cL_law 218 = .ok (.iaload, 1) := by decide +kernel
theorem dL_law_219 : decode cL_law 219 = .ok (.aload_n 0, 1) := by decide +kernel
theorem dL_law_220 : decode cL_law 220 = .ok (.iload 4, 2) := by decide +kernel
theorem dL_law_222 : decode cL_law 222 = .ok (.iconst 3, 1) := by decide +kernel
theorem dL_law_223 : decode cL_law 223 = .ok (.iadd, 1) := by decide +kernel
theorem dL_law_224 : decode cL_law 224 = .ok (.iaload, 1) := by decide +kernel
theorem dL_law_225 : decode cL_law 225 = .ok (.invokevirtual 65, 3) := by decide +kernel
theorem dL_law_228 : decode cL_law 228 = .ok (.aload_n 2, 1) := by decide +kernel
theorem dL_law_229 : decode cL_law 229 = .ok (.invokevirtual 59, 3) := by decide +kernel
theorem dL_law_232 : decode cL_law 232 = .ok (.iload 5, 2) := by decide +kernel
theorem dL_law_234 : decode cL_law 234 = .ok (.if_icmp .eq 5, 3) := by decide +kernel
theorem dL_law_237 : decode cL_law 237 = .ok (.iconst 0, 1) := by decide +kernel
theorem dL_law_238 : decode cL_law 238 = .ok (.ireturn, 1) := by decide +kernel
theorem dL_law_239 : decode cL_law 239 = .ok (.goto 414, 3) := by decide +kernel
theorem dL_law_242 : decode cL_law 242 = .ok (.aload_n 1, 1) := by decide +kernel
theorem dL_law_243 : decode cL_law 243 = .ok (.aload_n 0, 1) := by decide +kernel
theorem dL_law_244 : decode cL_law 244 = .ok (.iload 4, 2) := by decide +kernel
theorem dL_law_246 : decode cL_law 246 = .ok (.iconst 1, 1) := by decide +kernel
theorem dL_law_247 : decode cL_law 247 = .ok (.iadd, 1) := by decide +kernel
theorem dL_law_248 : decode cL_law 248 = .ok (.iaload, 1) := by decide +kernel
theorem dL_law_249 : decode cL_law 249 = .ok (.aload_n 0, 1) := by decide +kernel
theorem dL_law_250 : decode cL_law 250 = .ok (.iload 4, 2) := by decide +kernel
theorem dL_law_252 : decode cL_law 252 = .ok (.iconst 2, 1) := by decide +kernel
theorem dL_law_253 : decode cL_law 253 = .ok (.iadd, 1) := by decide +kernel
theorem dL_law_254 : decode cL_law 254 = .ok (.iaload, 1) := by decide +kernel
theorem dL_law_255 : decode cL_law 255 = .ok (.invokestatic 66, 3) := by decide +kernel
theorem dL_law_258 : decode cL_law 258 = .ok (.istore 5, 2) := by decide +kernel
theorem dL_law_260 : decode cL_law 260 = .ok (.aload_n 2, 1) := by decide +kernel
theorem dL_law_261 : decode cL_law 261 = .ok (.aload_n 0, 1) := by decide +kernel
theorem dL_law_262 : decode cL_law 262 = .ok (.iload 4, 2) := by decide +kernel
theorem dL_law_264 : decode cL_law 264 = .ok (.iconst 1, 1) := by decide +kernel
theorem dL_law_265 : decode cL_law 265 = .ok (.iadd, 1) := by decide +kernel
theorem dL_law_266 : decode cL_law 266 = .ok (.iaload, 1) := by decide +kernel
theorem dL_law_267 : decode cL_law 267 = .ok (.aload_n 0, 1) := by decide +kernel
theorem dL_law_268 : decode cL_law 268 = .ok (.iload 4, 2) := by decide +kernel
theorem dL_law_270 : decode cL_law 270 = .ok (.iconst 2, 1) := by decide +kernel
theorem dL_law_271 : decode cL_law 271 = .ok (.iadd, 1) := by decide +kernel
theorem dL_law_272 : decode cL_law 272 = .ok (.iaload, 1) := by decide +kernel
